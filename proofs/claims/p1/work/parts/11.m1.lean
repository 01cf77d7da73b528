abbrev rm_X7_isIn : Room := { frames := 0, cells := 0, slots := 0, locals := 0 }
set_option maxHeartbeats 4000000 in
set_option maxRecDepth 100000 in
theorem c_X7_isIn (l : Launch) (G : GG) (B : Nat) (μ : mp) (x9 y9 z9 : Int32) : Met l yX7_isIn wsX7_isIn rm_X7_isIn (va_Pc [.int x9, .int y9, .int z9] (KW G B μ)) (va_Qi (fun r μ2 => μ2 = μ ∧ ((r = 1 ∧ isI x9 y9 z9) ∨ (r = 0 ∧ ¬ (isI x9 y9 z9)))) (BB G B) (fun q => B ≤ q)) 0 0 (fun q => B ≤ q) := by
  refine Met.ofW (cc := cX7_isIn) (maxL := 3) (ret := (some .boolean)) (by decide) rfl ?_
  intro p e s m args below meth c s₁ B9 hml hv
  obtain ⟨hargs, hBs, hP, hKK⟩ := hv
  have hx := B9.exec
  have hb := B9.bytes
  have hr := B9.returns
  have hts := atoms_spec (ws := wsX7_isIn) B9.pre
  have hown : s.vm.findClass RX7 = some m.cls := findClass_of_methodNamed B9.named
  have hlocks := B9.notSynchronized
  have hK := hKK.k
  have hS : va_S (fun q => B ≤ q) s.heap s.heap [] := va_S.rf
  obtain ⟨Q, hQ⟩ : ∃ Q, Q = MQ below (va_Qi (fun r μ2 => μ2 = μ ∧ ((r = 1 ∧ isI x9 y9 z9) ∨ (r = 0 ∧ ¬ (isI x9 y9 z9)))) (BB G B) (fun q => B ≤ q)) args s 0 0 (fun q => B ≤ q) := ⟨_, rfl⟩
  rw [← hQ]
  have hl := lv_entry ([.int x9, .int y9, .int z9]) (n := 3) (Nat.le_of_ble_eq_true rfl)
  have he9 : entryFrame m args 3 = entryFrame m ([.int x9, .int y9, .int z9] : List Value).toArray 3 := by rw [hargs]
  rw [he9, lg_entry_eq]
  generalize (lg_sl ([.int x9, .int y9, .int z9]) ++ List.replicate (3 - (lg_sl ([.int x9, .int y9, .int z9])).length) Slot.unset).toArray = ls at hl ⊢
  have hl : lv_has ls 3 [(0, .int x9), (1, .int y9), (2, .int z9)] := hl
  refine lv_iload_n hx hb dX7_isIn_0 rfl (lv_at hl 0 rfl) ?_
  refine lv_iload_n hx hb dX7_isIn_1 rfl (lv_at hl 1 rfl) ?_
  refine lv_icmp_lt (tgt := 14) hx hb dX7_isIn_2 (by decide) (fun hc2 => ?_) (fun hc2 => ?_)
  · refine lv_iconst (v := nI 0) hx hb dX7_isIn_14 (by decide) ?_
    rw [hQ]
    exact W.zret (v := nI 0) (ty := .boolean) hx hb hr (by first | rfl | decide) (fun t99 ht99 hW99 => ⟨⟨nI 0, μ, rfl, (⟨rfl, Or.inr ⟨rfl, fun h9 => by first | exact absurd hc2 (Int32.not_lt.mpr h9.1) | exact absurd hc7 (Int32.not_lt.mpr h9.2)⟩⟩), by show mw _ _ _ _ t99.heap; rw [ht99]; exact hP⟩, hS.F ht99⟩) hS.2.2 dX7_isIn_15
  · refine lv_iload_n hx hb dX7_isIn_5 rfl (lv_at hl 0 rfl) ?_
    refine lv_iload_n hx hb dX7_isIn_6 rfl (lv_at hl 2 rfl) ?_
    refine lv_icmp_gt (tgt := 14) hx hb dX7_isIn_7 (by decide) (fun hc7 => ?_) (fun hc7 => ?_)
    · refine lv_iconst (v := nI 0) hx hb dX7_isIn_14 (by decide) ?_
      rw [hQ]
      exact W.zret (v := nI 0) (ty := .boolean) hx hb hr (by first | rfl | decide) (fun t99 ht99 hW99 => ⟨⟨nI 0, μ, rfl, (⟨rfl, Or.inr ⟨rfl, fun h9 => by first | exact absurd hc2 (Int32.not_lt.mpr h9.1) | exact absurd hc7 (Int32.not_lt.mpr h9.2)⟩⟩), by show mw _ _ _ _ t99.heap; rw [ht99]; exact hP⟩, hS.F ht99⟩) hS.2.2 dX7_isIn_15
    · refine lv_iconst (v := nI 1) hx hb dX7_isIn_10 (by decide) ?_
      refine lv_goto (tgt := 15) hx hb dX7_isIn_11 (by decide) ?_
      rw [hQ]
      exact W.zret (v := nI 1) (ty := .boolean) hx hb hr (by first | rfl | decide) (fun t99 ht99 hW99 => ⟨⟨nI 1, μ, rfl, (⟨rfl, Or.inl ⟨rfl, Int32.not_lt.mp hc2, Int32.not_lt.mp hc7⟩⟩), by show mw _ _ _ _ t99.heap; rw [ht99]; exact hP⟩, hS.F ht99⟩) hS.2.2 dX7_isIn_15

abbrev rm_X7_isSlot : Room := { frames := 1, cells := 0, slots := 0, locals := 22 }
set_option maxHeartbeats 4000000 in
set_option maxRecDepth 100000 in
theorem c_X7_isSlot (l : Launch) (G : GG) (B : Nat) (μ : mp) (x9 : Int32) : Met l yX7_isSlot wsX7_isSlot rm_X7_isSlot (va_Pc [.int x9] (KW G B μ)) (va_Qi (fun r μ2 => μ2 = μ ∧ ((r = 1 ∧ okS x9) ∨ (r = 0 ∧ ¬ (okS x9)))) (BB G B) (fun q => B ≤ q)) 0 0 (fun q => B ≤ q) := by
  refine Met.ofW (cc := cX7_isSlot) (maxL := 1) (ret := (some .boolean)) (by decide) rfl ?_
  intro p e s m args below meth c s₁ B9 hml hv
  obtain ⟨hargs, hBs, hP, hKK⟩ := hv
  have hx := B9.exec
  have hb := B9.bytes
  have hr := B9.returns
  have hts := atoms_spec (ws := wsX7_isSlot) B9.pre
  have hown : s.vm.findClass RX7 = some m.cls := findClass_of_methodNamed B9.named
  have hlocks := B9.notSynchronized
  have hK := hKK.k
  have hS : va_S (fun q => B ≤ q) s.heap s.heap [] := va_S.rf
  obtain ⟨Q, hQ⟩ : ∃ Q, Q = MQ below (va_Qi (fun r μ2 => μ2 = μ ∧ ((r = 1 ∧ okS x9) ∨ (r = 0 ∧ ¬ (okS x9)))) (BB G B) (fun q => B ≤ q)) args s 0 0 (fun q => B ≤ q) := ⟨_, rfl⟩
  rw [← hQ]
  have hl := lv_entry ([.int x9]) (n := 1) (Nat.le_of_ble_eq_true rfl)
  have he9 : entryFrame m args 1 = entryFrame m ([.int x9] : List Value).toArray 1 := by rw [hargs]
  rw [he9, lg_entry_eq]
  generalize (lg_sl ([.int x9]) ++ List.replicate (1 - (lg_sl ([.int x9])).length) Slot.unset).toArray = ls at hl ⊢
  have hl : lv_has ls 1 [(0, .int x9)] := hl
  refine lv_iload_n hx hb dX7_isSlot_0 rfl (lv_at hl 0 rfl) ?_
  refine lv_iconst (v := nI 0) hx hb dX7_isSlot_1 (by decide) ?_
  refine lv_iconst (v := nI 5) hx hb dX7_isSlot_2 (by decide) ?_
  refine kc_i (va_runS (As := [.int x9, .int (nI 0), .int (nI 5)]) (rest := []) ⟨hx, hb, hml, hown, hts⟩ (c_X7_isIn l G B (μ) x9 (nI 0) (nI 5)) (va_cwS 3 hts gX7_isSlot_X7_isIn rfl rfl rfl (by decide +kernel) ⟨Nat.le_of_ble_eq_true rfl, Nat.le_of_ble_eq_true rfl⟩) ⟨KW.blind, fun U9 hU9 hW9 => ⟨rfl, KW.pre hBs hKK hS hP U9 hU9 hW9⟩⟩ rfl rfl hl.1 rfl (lv_room (Nat.le_of_ble_eq_true rfl)) dX7_isSlot_3 ⟨(Nat.le_of_ble_eq_true rfl), (Nat.le_of_ble_eq_true rfl)⟩) hS (fun r3 m3 H locs hq9 hP hz9 hS => ?_)
  obtain ⟨he9, hy3⟩ := hq9
  rw [he9] at hP
  rw [hQ]
  exact W.zret (v := r3) (ty := .boolean) hx hb hr (zb_r (yn_b hy3)) (fun t99 ht99 hW99 => ⟨⟨r3, μ, rfl, (⟨rfl, yn_iff hy3 isI_S⟩), by show mw _ _ _ _ t99.heap; rw [ht99]; exact hP⟩, hS.F ht99⟩) hS.2.2 dX7_isSlot_6

abbrev rm_X7_isTerm : Room := { frames := 1, cells := 0, slots := 0, locals := 22 }
set_option maxHeartbeats 4000000 in
set_option maxRecDepth 100000 in
theorem c_X7_isTerm (l : Launch) (G : GG) (B : Nat) (μ : mp) (x9 : Int32) : Met l yX7_isTerm wsX7_isTerm rm_X7_isTerm (va_Pc [.int x9] (KW G B μ)) (va_Qi (fun r μ2 => μ2 = μ ∧ ((r = 1 ∧ okT x9) ∨ (r = 0 ∧ ¬ (okT x9)))) (BB G B) (fun q => B ≤ q)) 0 0 (fun q => B ≤ q) := by
  refine Met.ofW (cc := cX7_isTerm) (maxL := 1) (ret := (some .boolean)) (by decide) rfl ?_
  intro p e s m args below meth c s₁ B9 hml hv
  obtain ⟨hargs, hBs, hP, hKK⟩ := hv
  have hx := B9.exec
  have hb := B9.bytes
  have hr := B9.returns
  have hts := atoms_spec (ws := wsX7_isTerm) B9.pre
  have hown : s.vm.findClass RX7 = some m.cls := findClass_of_methodNamed B9.named
  have hlocks := B9.notSynchronized
  have hK := hKK.k
  have hS : va_S (fun q => B ≤ q) s.heap s.heap [] := va_S.rf
  obtain ⟨Q, hQ⟩ : ∃ Q, Q = MQ below (va_Qi (fun r μ2 => μ2 = μ ∧ ((r = 1 ∧ okT x9) ∨ (r = 0 ∧ ¬ (okT x9)))) (BB G B) (fun q => B ≤ q)) args s 0 0 (fun q => B ≤ q) := ⟨_, rfl⟩
  rw [← hQ]
  have hl := lv_entry ([.int x9]) (n := 1) (Nat.le_of_ble_eq_true rfl)
  have he9 : entryFrame m args 1 = entryFrame m ([.int x9] : List Value).toArray 1 := by rw [hargs]
  rw [he9, lg_entry_eq]
  generalize (lg_sl ([.int x9]) ++ List.replicate (1 - (lg_sl ([.int x9])).length) Slot.unset).toArray = ls at hl ⊢
  have hl : lv_has ls 1 [(0, .int x9)] := hl
  refine lv_iload_n hx hb dX7_isTerm_0 rfl (lv_at hl 0 rfl) ?_
  refine lv_iconst (v := nI 0) hx hb dX7_isTerm_1 (by decide) ?_
  refine lv_bipush (v := nI 11) hx hb dX7_isTerm_2 (by decide) ?_
  refine kc_i (va_runS (As := [.int x9, .int (nI 0), .int (nI 11)]) (rest := []) ⟨hx, hb, hml, hown, hts⟩ (c_X7_isIn l G B (μ) x9 (nI 0) (nI 11)) (va_cwS 3 hts gX7_isTerm_X7_isIn rfl rfl rfl (by decide +kernel) ⟨Nat.le_of_ble_eq_true rfl, Nat.le_of_ble_eq_true rfl⟩) ⟨KW.blind, fun U9 hU9 hW9 => ⟨rfl, KW.pre hBs hKK hS hP U9 hU9 hW9⟩⟩ rfl rfl hl.1 rfl (lv_room (Nat.le_of_ble_eq_true rfl)) dX7_isTerm_4 ⟨(Nat.le_of_ble_eq_true rfl), (Nat.le_of_ble_eq_true rfl)⟩) hS (fun r4 m4 H locs hq9 hP hz9 hS => ?_)
  obtain ⟨he9, hy4⟩ := hq9
  rw [he9] at hP
  rw [hQ]
  exact W.zret (v := r4) (ty := .boolean) hx hb hr (zb_r (yn_b hy4)) (fun t99 ht99 hW99 => ⟨⟨r4, μ, rfl, (⟨rfl, yn_iff hy4 isI_T⟩), by show mw _ _ _ _ t99.heap; rw [ht99]; exact hP⟩, hS.F ht99⟩) hS.2.2 dX7_isTerm_7

abbrev rm_X7_isNumber : Room := { frames := 1, cells := 0, slots := 0, locals := 22 }
set_option maxHeartbeats 4000000 in
set_option maxRecDepth 100000 in
theorem c_X7_isNumber (l : Launch) (G : GG) (B : Nat) (μ : mp) (x9 : Int32) : Met l yX7_isNumber wsX7_isNumber rm_X7_isNumber (va_Pc [.int x9] (KW G B μ)) (va_Qi (fun r μ2 => μ2 = μ ∧ ((r = 1 ∧ okN x9) ∨ (r = 0 ∧ ¬ (okN x9)))) (BB G B) (fun q => B ≤ q)) 0 0 (fun q => B ≤ q) := by
  refine Met.ofW (cc := cX7_isNumber) (maxL := 1) (ret := (some .boolean)) (by decide) rfl ?_
  intro p e s m args below meth c s₁ B9 hml hv
  obtain ⟨hargs, hBs, hP, hKK⟩ := hv
  have hx := B9.exec
  have hb := B9.bytes
  have hr := B9.returns
  have hts := atoms_spec (ws := wsX7_isNumber) B9.pre
  have hown : s.vm.findClass RX7 = some m.cls := findClass_of_methodNamed B9.named
  have hlocks := B9.notSynchronized
  have hK := hKK.k
  have hS : va_S (fun q => B ≤ q) s.heap s.heap [] := va_S.rf
  obtain ⟨Q, hQ⟩ : ∃ Q, Q = MQ below (va_Qi (fun r μ2 => μ2 = μ ∧ ((r = 1 ∧ okN x9) ∨ (r = 0 ∧ ¬ (okN x9)))) (BB G B) (fun q => B ≤ q)) args s 0 0 (fun q => B ≤ q) := ⟨_, rfl⟩
  rw [← hQ]
  have hl := lv_entry ([.int x9]) (n := 1) (Nat.le_of_ble_eq_true rfl)
  have he9 : entryFrame m args 1 = entryFrame m ([.int x9] : List Value).toArray 1 := by rw [hargs]
  rw [he9, lg_entry_eq]
  generalize (lg_sl ([.int x9]) ++ List.replicate (1 - (lg_sl ([.int x9])).length) Slot.unset).toArray = ls at hl ⊢
  have hl : lv_has ls 1 [(0, .int x9)] := hl
  refine lv_iload_n hx hb dX7_isNumber_0 rfl (lv_at hl 0 rfl) ?_
  refine lv_ldc (v := (-1000000)) hx hb hown (hts (.constant RX7 55 (-1000000)) (by decide +kernel)) dX7_isNumber_1 ?_
  refine lv_ldc (v := (1000000)) hx hb hown (hts (.constant RX7 56 (1000000)) (by decide +kernel)) dX7_isNumber_3 ?_
  refine nv_eqi (y := nI 1000000) (by decide) ?_
  refine kc_i (va_runS (As := [.int x9, .int (-1000000), .int (nI 1000000)]) (rest := []) ⟨hx, hb, hml, hown, hts⟩ (c_X7_isIn l G B (μ) x9 ((-1000000)) (nI 1000000)) (va_cwS 3 hts gX7_isNumber_X7_isIn rfl rfl rfl (by decide +kernel) ⟨Nat.le_of_ble_eq_true rfl, Nat.le_of_ble_eq_true rfl⟩) ⟨KW.blind, fun U9 hU9 hW9 => ⟨rfl, KW.pre hBs hKK hS hP U9 hU9 hW9⟩⟩ rfl rfl hl.1 rfl (lv_room (Nat.le_of_ble_eq_true rfl)) dX7_isNumber_5 ⟨(Nat.le_of_ble_eq_true rfl), (Nat.le_of_ble_eq_true rfl)⟩) hS (fun r5 m5 H locs hq9 hP hz9 hS => ?_)
  obtain ⟨he9, hy5⟩ := hq9
  rw [he9] at hP
  rw [hQ]
  exact W.zret (v := r5) (ty := .boolean) hx hb hr (zb_r (yn_b hy5)) (fun t99 ht99 hW99 => ⟨⟨r5, μ, rfl, (⟨rfl, yn_iff hy5 isI_N⟩), by show mw _ _ _ _ t99.heap; rw [ht99]; exact hP⟩, hS.F ht99⟩) hS.2.2 dX7_isNumber_8

abbrev rm_X7_minus : Room := { frames := 0, cells := 0, slots := 0, locals := 0 }
set_option maxHeartbeats 4000000 in
set_option maxRecDepth 100000 in
theorem c_X7_minus (l : Launch) (G : GG) (B : Nat) (μ : mp) (p9 : Nat) (hp9 : p9 < 12) : Met l yX7_minus wsX7_minus rm_X7_minus (va_Pc [.int (nI p9)] (KW G B μ)) (va_Qi (fun r μ2 => μ2 = μ ∧ r = nI (ne p9)) (BB G B) (fun q => B ≤ q)) 0 0 (fun q => B ≤ q) := by
  refine Met.ofW (cc := cX7_minus) (maxL := 1) (ret := (some .int)) (by decide) rfl ?_
  intro p e s m args below meth c s₁ B9 hml hv
  obtain ⟨hargs, hBs, hP, hKK⟩ := hv
  have hx := B9.exec
  have hb := B9.bytes
  have hr := B9.returns
  have hts := atoms_spec (ws := wsX7_minus) B9.pre
  have hown : s.vm.findClass RX7 = some m.cls := findClass_of_methodNamed B9.named
  have hlocks := B9.notSynchronized
  have hK := hKK.k
  have hS : va_S (fun q => B ≤ q) s.heap s.heap [] := va_S.rf
  obtain ⟨Q, hQ⟩ : ∃ Q, Q = MQ below (va_Qi (fun r μ2 => μ2 = μ ∧ r = nI (ne p9)) (BB G B) (fun q => B ≤ q)) args s 0 0 (fun q => B ≤ q) := ⟨_, rfl⟩
  rw [← hQ]
  have hl := lv_entry ([.int (nI p9)]) (n := 1) (Nat.le_of_ble_eq_true rfl)
  have he9 : entryFrame m args 1 = entryFrame m ([.int (nI p9)] : List Value).toArray 1 := by rw [hargs]
  rw [he9, lg_entry_eq]
  generalize (lg_sl ([.int (nI p9)]) ++ List.replicate (1 - (lg_sl ([.int (nI p9)])).length) Slot.unset).toArray = ls at hl ⊢
  have hl : lv_has ls 1 [(0, .int (nI p9))] := hl
  refine lv_iload_n hx hb dX7_minus_0 rfl (lv_at hl 0 rfl) ?_
  refine lv_iconst (v := nI 2) hx hb dX7_minus_1 (by decide) ?_
  refine nv_irem hx hb (by omega) (by decide) (by decide) dX7_minus_2 ?_
  refine lv_if_ne (tgt := 12) hx hb dX7_minus_3 (by decide) (fun hc3 => ?_) (fun hc3 => ?_)
  · have hc3 : ¬ p9 % 2 = 0 := fun h9 => hc3 (by rw [h9]; rfl)
    refine lv_iload_n hx hb dX7_minus_12 rfl (lv_at hl 0 rfl) ?_
    refine lv_iconst (v := nI 1) hx hb dX7_minus_13 (by decide) ?_
    refine nv_isub hx hb (by omega) dX7_minus_14 ?_
    rw [hQ]
    exact W.iret (v := nI (p9 - 1)) hx hb hr (fun t99 ht99 hW99 => ⟨⟨nI (p9 - 1), μ, rfl, (⟨rfl, by unfold ne; first | rw [if_pos (by omega)] | rw [if_neg (by omega)]⟩), by show mw _ _ _ _ t99.heap; rw [ht99]; exact hP⟩, hS.F ht99⟩) hS.2.2 dX7_minus_15
  · have hc3 : p9 % 2 = 0 := by rcases (show p9 % 2 = 0 ∨ p9 % 2 = 1 by omega) with h9 | h9; exact h9; rw [h9] at hc3; exact absurd hc3 (by decide)
    refine lv_iload_n hx hb dX7_minus_6 rfl (lv_at hl 0 rfl) ?_
    refine lv_iconst (v := nI 1) hx hb dX7_minus_7 (by decide) ?_
    refine nv_iadd hx hb dX7_minus_8 ?_
    refine lv_goto (tgt := 15) hx hb dX7_minus_9 (by decide) ?_
    rw [hQ]
    exact W.iret (v := nI (p9 + 1)) hx hb hr (fun t99 ht99 hW99 => ⟨⟨nI (p9 + 1), μ, rfl, (⟨rfl, by unfold ne; first | rw [if_pos (by omega)] | rw [if_neg (by omega)]⟩), by show mw _ _ _ _ t99.heap; rw [ht99]; exact hP⟩, hS.F ht99⟩) hS.2.2 dX7_minus_15

abbrev rm_X7_sum : Room := { frames := 0, cells := 0, slots := 0, locals := 0 }
set_option maxHeartbeats 4000000 in
set_option maxRecDepth 100000 in
theorem c_X7_sum (l : Launch) (G : GG) (B : Nat) (μ : mp) (x9 y9 : Int64) : Met l yX7_sum wsX7_sum rm_X7_sum (va_Pc [.long x9, .long y9] (KW G B μ)) (va_Ql (fun r μ2 => μ2 = μ ∧ r = sm x9 y9) (BB G B) (fun q => B ≤ q)) 0 0 (fun q => B ≤ q) := by
  refine Met.ofW (cc := cX7_sum) (maxL := 4) (ret := (some .long)) (by decide) rfl ?_
  intro p e s m args below meth c s₁ B9 hml hv
  obtain ⟨hargs, hBs, hP, hKK⟩ := hv
  have hx := B9.exec
  have hb := B9.bytes
  have hr := B9.returns
  have hts := atoms_spec (ws := wsX7_sum) B9.pre
  have hown : s.vm.findClass RX7 = some m.cls := findClass_of_methodNamed B9.named
  have hlocks := B9.notSynchronized
  have hK := hKK.k
  have hS : va_S (fun q => B ≤ q) s.heap s.heap [] := va_S.rf
  obtain ⟨Q, hQ⟩ : ∃ Q, Q = MQ below (va_Ql (fun r μ2 => μ2 = μ ∧ r = sm x9 y9) (BB G B) (fun q => B ≤ q)) args s 0 0 (fun q => B ≤ q) := ⟨_, rfl⟩
  rw [← hQ]
  have hl := lv_entry ([.long x9, .long y9]) (n := 4) (Nat.le_of_ble_eq_true rfl)
  have he9 : entryFrame m args 4 = entryFrame m ([.long x9, .long y9] : List Value).toArray 4 := by rw [hargs]
  rw [he9, lg_entry_eq]
  generalize (lg_sl ([.long x9, .long y9]) ++ List.replicate (4 - (lg_sl ([.long x9, .long y9])).length) Slot.unset).toArray = ls at hl ⊢
  have hl : lv_has ls 4 [(0, .long x9), (2, .long y9)] := hl
  refine lv_lload_n hx hb dX7_sum_0 rfl (lv_at hl 0 rfl) ?_
  refine lv_ldc2 (v := (9223372036854775807)) hx hb hown (hts (.constantLong RX7 45 (9223372036854775807)) (by decide +kernel)) dX7_sum_1 ?_
  refine nl_if_eq (tgt := 16) hx hb dX7_sum_4 dX7_sum_5 (by decide) (fun hc4 => ?_) (fun hc4 => ?_)
  · refine lv_ldc2 (v := (9223372036854775807)) hx hb hown (hts (.constantLong RX7 45 (9223372036854775807)) (by decide +kernel)) dX7_sum_16 ?_
    refine lv_goto (tgt := 25) hx hb dX7_sum_19 (by decide) ?_
    rw [hQ]
    exact W.lret (v := 9223372036854775807) hx hb hr (fun t99 ht99 hW99 => ⟨⟨9223372036854775807, μ, rfl, (⟨rfl, by unfold sm; first | rw [if_pos (Or.inl hc4)] | rw [if_pos (Or.inr hc12)] | rw [if_neg (fun h9 => h9.elim hc4 hc12)]⟩), by show mw _ _ _ _ t99.heap; rw [ht99]; exact hP⟩, hS.F ht99⟩) hS.2.2 dX7_sum_25
  · refine lv_lload_n hx hb dX7_sum_8 rfl (lv_at hl 1 rfl) ?_
    refine lv_ldc2 (v := (9223372036854775807)) hx hb hown (hts (.constantLong RX7 45 (9223372036854775807)) (by decide +kernel)) dX7_sum_9 ?_
    refine nl_if_ne (tgt := 22) hx hb dX7_sum_12 dX7_sum_13 (by decide) (fun hc12 => ?_) (fun hc12 => ?_)
    · refine lv_lload_n hx hb dX7_sum_22 rfl (lv_at hl 0 rfl) ?_
      refine lv_lload_n hx hb dX7_sum_23 rfl (lv_at hl 1 rfl) ?_
      refine lv_ladd hx hb dX7_sum_24 ?_
      rw [hQ]
      exact W.lret (v := x9 + y9) hx hb hr (fun t99 ht99 hW99 => ⟨⟨x9 + y9, μ, rfl, (⟨rfl, by unfold sm; first | rw [if_pos (Or.inl hc4)] | rw [if_pos (Or.inr hc12)] | rw [if_neg (fun h9 => h9.elim hc4 hc12)]⟩), by show mw _ _ _ _ t99.heap; rw [ht99]; exact hP⟩, hS.F ht99⟩) hS.2.2 dX7_sum_25
    · refine lv_ldc2 (v := (9223372036854775807)) hx hb hown (hts (.constantLong RX7 45 (9223372036854775807)) (by decide +kernel)) dX7_sum_16 ?_
      refine lv_goto (tgt := 25) hx hb dX7_sum_19 (by decide) ?_
      rw [hQ]
      exact W.lret (v := 9223372036854775807) hx hb hr (fun t99 ht99 hW99 => ⟨⟨9223372036854775807, μ, rfl, (⟨rfl, by unfold sm; first | rw [if_pos (Or.inl hc4)] | rw [if_pos (Or.inr hc12)] | rw [if_neg (fun h9 => h9.elim hc4 hc12)]⟩), by show mw _ _ _ _ t99.heap; rw [ht99]; exact hP⟩, hS.F ht99⟩) hS.2.2 dX7_sum_25

abbrev rm_X7_get : Room := { frames := 0, cells := 0, slots := 0, locals := 0 }
set_option maxHeartbeats 4000000 in
set_option maxRecDepth 100000 in
theorem c_X7_get (l : Launch) (G : GG) (B : Nat) (μ : mp) (md ab av c1 c2 c3 c4 c5 c6 c7 c8 c9 fl st : Nat) (f : Nat → Int64) (v : Nat → Int32) (s9 p9 q9 : Nat) (hm : μ md = some (.inr (7, [.int (nI fl), .ref ab, .ref av, .int (nI st), .ref c1, .ref c2, .ref c3, .ref c4, .ref c5, .ref c6, .ref c7, .ref c8, .ref c9]))) (hab : μ ab = some (.inl (G.2 0, 3744, .inr (.inl f)))) (hav : μ av = some (.inl (G.2 2, 26, .inl v))) (hs9 : s9 < 26) (hp9 : p9 < 12) (hq9a : q9 < 12) : Met l yX7_get wsX7_get rm_X7_get (va_Pc [.ref md, .int (nI s9), .int (nI p9), .int (nI q9)] (KW G B μ)) (va_Ql (fun r μ2 => μ2 = μ ∧ r = f (144 * s9 + 12 * p9 + q9)) (BB G B) (fun q => B ≤ q)) 0 0 (fun q => B ≤ q) := by
  refine Met.ofW (cc := cX7_get) (maxL := 4) (ret := (some .long)) (by decide) rfl ?_
  intro p e s m args below meth c s₁ B9 hml hv
  obtain ⟨hargs, hBs, hP, hKK⟩ := hv
  have hx := B9.exec
  have hb := B9.bytes
  have hr := B9.returns
  have hts := atoms_spec (ws := wsX7_get) B9.pre
  have hown : s.vm.findClass RX7 = some m.cls := findClass_of_methodNamed B9.named
  have hlocks := B9.notSynchronized
  have hK := hKK.k
  have hS : va_S (fun q => B ≤ q) s.heap s.heap [] := va_S.rf
  obtain ⟨Q, hQ⟩ : ∃ Q, Q = MQ below (va_Ql (fun r μ2 => μ2 = μ ∧ r = f (144 * s9 + 12 * p9 + q9)) (BB G B) (fun q => B ≤ q)) args s 0 0 (fun q => B ≤ q) := ⟨_, rfl⟩
  rw [← hQ]
  have ne0_1 : md ≠ ab := mp_ne hm hab (by simp)
  have ne0_2 : md ≠ av := mp_ne hm hav (by simp)
  have in_X7_get_X7 : ∀ w ∈ wsX70, w ∈ wsX7_get := by decide +kernel
  have hl := lv_entry ([.ref md, .int (nI s9), .int (nI p9), .int (nI q9)]) (n := 4) (Nat.le_of_ble_eq_true rfl)
  have he9 : entryFrame m args 4 = entryFrame m ([.ref md, .int (nI s9), .int (nI p9), .int (nI q9)] : List Value).toArray 4 := by rw [hargs]
  rw [he9, lg_entry_eq]
  generalize (lg_sl ([.ref md, .int (nI s9), .int (nI p9), .int (nI q9)]) ++ List.replicate (4 - (lg_sl ([.ref md, .int (nI s9), .int (nI p9), .int (nI q9)])).length) Slot.unset).toArray = ls at hl ⊢
  have hl : lv_has ls 4 [(0, .ref md), (1, .int (nI s9)), (2, .int (nI p9)), (3, .int (nI q9))] := hl
  refine lv_aload_n hx hb dX7_get_0 rfl (lv_at hl 0 rfl) ?_
  refine mw_get (C := RX7) (T := TX7) (N := 13) hx hb hts in_X7_get_X7 hown hK hP (hm) rfl 1 (by decide) (hts (.fieldLink RX7 7 "OctagonDeskModel" "bound" "[J") (by decide +kernel)) (fun _ h9 => h9) rfl dX7_get_1 ?_
  refine lv_sipush (v := nI 144) hx hb dX7_get_4 (by decide) ?_
  refine lv_iload_n hx hb dX7_get_7 rfl (lv_at hl 1 rfl) ?_
  refine nv_imul hx hb dX7_get_8 ?_
  refine lv_bipush (v := nI 12) hx hb dX7_get_9 (by decide) ?_
  refine lv_iload_n hx hb dX7_get_11 rfl (lv_at hl 2 rfl) ?_
  refine nv_imul hx hb dX7_get_12 ?_
  refine nv_iadd hx hb dX7_get_13 ?_
  refine lv_iload_n hx hb dX7_get_14 rfl (lv_at hl 3 rfl) ?_
  refine nv_iadd hx hb dX7_get_15 ?_
  refine mw_lald hx hb hK hP 0 (hab) rfl (by omega) (by omega) dX7_get_16 ?_
  rw [hQ]
  exact W.lret (v := f (((144 * s9) + (12 * p9)) + q9)) hx hb hr (fun t99 ht99 hW99 => ⟨⟨f (((144 * s9) + (12 * p9)) + q9), μ, rfl, (⟨rfl, rfl⟩), by show mw _ _ _ _ t99.heap; rw [ht99]; exact hP⟩, hS.F ht99⟩) hS.2.2 dX7_get_17

abbrev rm_X7_set : Room := { frames := 0, cells := 0, slots := 0, locals := 0 }
set_option maxHeartbeats 4000000 in
set_option maxRecDepth 100000 in
theorem c_X7_set (l : Launch) (G : GG) (B : Nat) (μ : mp) (md ab av c1 c2 c3 c4 c5 c6 c7 c8 c9 fl st : Nat) (f : Nat → Int64) (v : Nat → Int32) (s9 p9 q9 : Nat) (x9 : Int64) (hm : μ md = some (.inr (7, [.int (nI fl), .ref ab, .ref av, .int (nI st), .ref c1, .ref c2, .ref c3, .ref c4, .ref c5, .ref c6, .ref c7, .ref c8, .ref c9]))) (hab : μ ab = some (.inl (G.2 0, 3744, .inr (.inl f)))) (hav : μ av = some (.inl (G.2 2, 26, .inl v))) (hs9 : s9 < 26) (hp9 : p9 < 12) (hq9a : q9 < 12) : Met l yX7_set wsX7_set rm_X7_set (va_Pc [.ref md, .int (nI s9), .int (nI p9), .int (nI q9), .long x9] (KW G B μ)) (va_Qv (fun μ2 => μ2 = mu μ ab (.inl (G.2 0, 3744, .inr (.inl (stf f s9 p9 q9 x9))))) (BB G B) (fun q => B ≤ q)) 0 0 (fun q => B ≤ q) := by
  refine Met.ofW (cc := cX7_set) (maxL := 6) (ret := none) (by decide) rfl ?_
  intro p e s m args below meth c s₁ B9 hml hv
  obtain ⟨hargs, hBs, hP, hKK⟩ := hv
  have hx := B9.exec
  have hb := B9.bytes
  have hr := B9.returns
  have hts := atoms_spec (ws := wsX7_set) B9.pre
  have hown : s.vm.findClass RX7 = some m.cls := findClass_of_methodNamed B9.named
  have hlocks := B9.notSynchronized
  have hK := hKK.k
  have hS : va_S (fun q => B ≤ q) s.heap s.heap [] := va_S.rf
  obtain ⟨Q, hQ⟩ : ∃ Q, Q = MQ below (va_Qv (fun μ2 => μ2 = mu μ ab (.inl (G.2 0, 3744, .inr (.inl (stf f s9 p9 q9 x9))))) (BB G B) (fun q => B ≤ q)) args s 0 0 (fun q => B ≤ q) := ⟨_, rfl⟩
  rw [← hQ]
  have ne0_1 : md ≠ ab := mp_ne hm hab (by simp)
  have ne0_2 : md ≠ av := mp_ne hm hav (by simp)
  have in_X7_set_X7 : ∀ w ∈ wsX70, w ∈ wsX7_set := by decide +kernel
  have hP : mw G.1 vwCl B (mu μ ab (.inl (G.2 0, 3744, .inr (.inl f)))) s.heap := mw_eq (mu_i hab).symm hP
  have hl := lv_entry ([.ref md, .int (nI s9), .int (nI p9), .int (nI q9), .long x9]) (n := 6) (Nat.le_of_ble_eq_true rfl)
  have he9 : entryFrame m args 6 = entryFrame m ([.ref md, .int (nI s9), .int (nI p9), .int (nI q9), .long x9] : List Value).toArray 6 := by rw [hargs]
  rw [he9, lg_entry_eq]
  generalize (lg_sl ([.ref md, .int (nI s9), .int (nI p9), .int (nI q9), .long x9]) ++ List.replicate (6 - (lg_sl ([.ref md, .int (nI s9), .int (nI p9), .int (nI q9), .long x9])).length) Slot.unset).toArray = ls at hl ⊢
  have hl : lv_has ls 6 [(0, .ref md), (1, .int (nI s9)), (2, .int (nI p9)), (3, .int (nI q9)), (4, .long x9)] := hl
  refine lv_aload_n hx hb dX7_set_0 rfl (lv_at hl 0 rfl) ?_
  refine mw_get (C := RX7) (T := TX7) (N := 13) hx hb hts in_X7_set_X7 hown hK hP ((mu_n ne0_1).trans (hm)) rfl 1 (by decide) (hts (.fieldLink RX7 7 "OctagonDeskModel" "bound" "[J") (by decide +kernel)) (fun _ h9 => h9) rfl dX7_set_1 ?_
  refine lv_sipush (v := nI 144) hx hb dX7_set_4 (by decide) ?_
  refine lv_iload_n hx hb dX7_set_7 rfl (lv_at hl 1 rfl) ?_
  refine nv_imul hx hb dX7_set_8 ?_
  refine lv_bipush (v := nI 12) hx hb dX7_set_9 (by decide) ?_
  refine lv_iload_n hx hb dX7_set_11 rfl (lv_at hl 2 rfl) ?_
  refine nv_imul hx hb dX7_set_12 ?_
  refine nv_iadd hx hb dX7_set_13 ?_
  refine lv_iload_n hx hb dX7_set_14 rfl (lv_at hl 3 rfl) ?_
  refine nv_iadd hx hb dX7_set_15 ?_
  refine lv_lload hx hb dX7_set_16 (lv_at hl 4 rfl) ?_
  refine mw_last hx hb hK hP hS 0 (mu_s _ _ _) rfl (by omega) (by omega) dX7_set_18 (fun H locs hP hS => ?_)
  have hP : mw G.1 vwCl B (mu μ ab (.inl (G.2 0, 3744, .inr (.inl (vp_updL f (((144 * s9) + (12 * p9)) + q9) x9))))) _ := mw_eq (mu_u _ _ _ _) hP
  refine lv_aload_n hx hb dX7_set_19 rfl (lv_at hl 0 rfl) ?_
  refine mw_get (C := RX7) (T := TX7) (N := 13) hx hb hts in_X7_set_X7 hown hK hP ((mu_n ne0_1).trans (hm)) rfl 1 (by decide) (hts (.fieldLink RX7 7 "OctagonDeskModel" "bound" "[J") (by decide +kernel)) (fun _ h9 => h9) rfl dX7_set_20 ?_
  refine lv_sipush (v := nI 144) hx hb dX7_set_23 (by decide) ?_
  refine lv_iload_n hx hb dX7_set_26 rfl (lv_at hl 1 rfl) ?_
  refine nv_imul hx hb dX7_set_27 ?_
  refine lv_bipush (v := nI 12) hx hb dX7_set_28 (by decide) ?_
  refine lv_iload_n hx hb dX7_set_30 rfl (lv_at hl 3 rfl) ?_
  refine nv_imul hx hb dX7_set_31 ?_
  refine nv_iadd hx hb dX7_set_32 ?_
  refine lv_iload_n hx hb dX7_set_33 rfl (lv_at hl 2 rfl) ?_
  refine nv_iadd hx hb dX7_set_34 ?_
  refine lv_lload hx hb dX7_set_35 (lv_at hl 4 rfl) ?_
  refine mw_last hx hb hK hP hS 0 (mu_s _ _ _) rfl (by omega) (by omega) dX7_set_37 (fun H locs hP hS => ?_)
  have hP : mw G.1 vwCl B (mu μ ab (.inl (G.2 0, 3744, .inr (.inl (vp_updL (vp_updL f (((144 * s9) + (12 * p9)) + q9) x9) (((144 * s9) + (12 * q9)) + p9) x9))))) _ := mw_eq (mu_u _ _ _ _) hP
  rw [hQ]
  exact W.vret hx hb hr (fun t99 ht99 hW99 => ⟨⟨mu μ ab (.inl (G.2 0, 3744, .inr (.inl (vp_updL (vp_updL f (((144 * s9) + (12 * p9)) + q9) x9) (((144 * s9) + (12 * q9)) + p9) x9)))), rfl, (rfl), by show mw _ _ _ _ t99.heap; rw [ht99]; exact hP⟩, hS.F ht99⟩) hS.2.2 dX7_set_38

abbrev rm_X7_sumOf : Room := { frames := 1, cells := 0, slots := 0, locals := 23 }
set_option maxHeartbeats 4000000 in
set_option maxRecDepth 100000 in
theorem c_X7_sumOf (l : Launch) (G : GG) (B : Nat) (μ : mp) (md ab av c1 c2 c3 c4 c5 c6 c7 c8 c9 fl st : Nat) (f : Nat → Int64) (v : Nat → Int32) (s9 p9 q9 : Nat) (hm : μ md = some (.inr (7, [.int (nI fl), .ref ab, .ref av, .int (nI st), .ref c1, .ref c2, .ref c3, .ref c4, .ref c5, .ref c6, .ref c7, .ref c8, .ref c9]))) (hab : μ ab = some (.inl (G.2 0, 3744, .inr (.inl f)))) (hav : μ av = some (.inl (G.2 2, 26, .inl v))) (hs9 : s9 < 26) (hp9 : p9 < 12) (hq9a : q9 < 12) : Met l yX7_sumOf wsX7_sumOf rm_X7_sumOf (va_Pc [.ref md, .int (nI s9), .int (nI p9), .int (nI q9)] (KW G B μ)) (va_Ql (fun r μ2 => μ2 = μ ∧ r = so f s9 p9 q9) (BB G B) (fun q => B ≤ q)) 0 0 (fun q => B ≤ q) := by
  refine Met.ofW (cc := cX7_sumOf) (maxL := 6) (ret := (some .long)) (by decide) rfl ?_
  intro p e s m args below meth c s₁ B9 hml hv
  obtain ⟨hargs, hBs, hP, hKK⟩ := hv
  have hx := B9.exec
  have hb := B9.bytes
  have hr := B9.returns
  have hts := atoms_spec (ws := wsX7_sumOf) B9.pre
  have hown : s.vm.findClass RX7 = some m.cls := findClass_of_methodNamed B9.named
  have hlocks := B9.notSynchronized
  have hK := hKK.k
  have hS : va_S (fun q => B ≤ q) s.heap s.heap [] := va_S.rf
  obtain ⟨Q, hQ⟩ : ∃ Q, Q = MQ below (va_Ql (fun r μ2 => μ2 = μ ∧ r = so f s9 p9 q9) (BB G B) (fun q => B ≤ q)) args s 0 0 (fun q => B ≤ q) := ⟨_, rfl⟩
  rw [← hQ]
  have ne0_1 : md ≠ ab := mp_ne hm hab (by simp)
  have ne0_2 : md ≠ av := mp_ne hm hav (by simp)
  have hl := lv_entry ([.ref md, .int (nI s9), .int (nI p9), .int (nI q9)]) (n := 6) (Nat.le_of_ble_eq_true rfl)
  have he9 : entryFrame m args 6 = entryFrame m ([.ref md, .int (nI s9), .int (nI p9), .int (nI q9)] : List Value).toArray 6 := by rw [hargs]
  rw [he9, lg_entry_eq]
  generalize (lg_sl ([.ref md, .int (nI s9), .int (nI p9), .int (nI q9)]) ++ List.replicate (6 - (lg_sl ([.ref md, .int (nI s9), .int (nI p9), .int (nI q9)])).length) Slot.unset).toArray = ls at hl ⊢
  have hl : lv_has ls 6 [(0, .ref md), (1, .int (nI s9)), (2, .int (nI p9)), (3, .int (nI q9))] := hl
  refine lv_iload_n hx hb dX7_sumOf_0 rfl (lv_at hl 3 rfl) ?_
  refine lv_iload_n hx hb dX7_sumOf_1 rfl (lv_at hl 2 rfl) ?_
  refine kc_i (va_runS (As := [.int (nI p9)]) (rest := [.int (nI q9)]) ⟨hx, hb, hml, hown, hts⟩ (c_X7_minus l G B (μ) p9 (by omega)) (va_cwS 1 hts gX7_sumOf_X7_minus rfl rfl rfl (by decide +kernel) ⟨Nat.le_of_ble_eq_true rfl, Nat.le_of_ble_eq_true rfl⟩) ⟨KW.blind, fun U9 hU9 hW9 => ⟨rfl, KW.pre hBs hKK hS hP U9 hU9 hW9⟩⟩ rfl rfl hl.1 rfl (lv_room (Nat.le_of_ble_eq_true rfl)) dX7_sumOf_2 ⟨(Nat.le_of_ble_eq_true rfl), (Nat.le_of_ble_eq_true rfl)⟩) hS (fun r2 m2 H locs hq9 hP hz9 hS => ?_)
  obtain ⟨he9, rfl⟩ := hq9
  rw [he9] at hP
  have hne2 := ne_lt (p := p9) (by omega)
  refine nv_icmp_ne (tgt := 10) hx hb (by omega) (by omega) dX7_sumOf_5 (by decide) (fun hc5 => ?_) (fun hc5 => ?_)
  · refine lv_aload_n hx hb dX7_sumOf_10 rfl (lv_at hl 0 rfl) ?_
    refine lv_iload_n hx hb dX7_sumOf_11 rfl (lv_at hl 1 rfl) ?_
    refine lv_iload_n hx hb dX7_sumOf_12 rfl (lv_at hl 2 rfl) ?_
    refine lv_iload_n hx hb dX7_sumOf_13 rfl (lv_at hl 3 rfl) ?_
    refine kc_l (va_runV (As := [.int (nI s9), .int (nI p9), .int (nI q9)]) (rest := []) ⟨hx, hb, hml, hown, hts⟩ (c_X7_get l G B (μ) md ab av c1 c2 c3 c4 c5 c6 c7 c8 c9 fl st f v s9 p9 q9 (hm) (hab) (hav) (by omega) (by omega) (by omega)) (cwV 3 hts gX7_sumOf_X7_get rfl rfl rfl (by decide +kernel) ⟨Nat.le_of_ble_eq_true rfl, Nat.le_of_ble_eq_true rfl⟩) ⟨KW.blind, hP.recv hK rfl (hm), fun U9 hU9 hW9 => ⟨rfl, KW.pre hBs hKK hS hP U9 hU9 hW9⟩⟩ rfl rfl hl.1 rfl (lv_room (Nat.le_of_ble_eq_true rfl)) dX7_sumOf_14 ⟨(Nat.le_of_ble_eq_true rfl), (Nat.le_of_ble_eq_true rfl)⟩) hS (fun r14 m14 H locs hq9 hP hz9 hS => ?_)
    obtain ⟨he9, hr14⟩ := hq9
    rw [he9] at hP
    refine lv_lstore (lv' := [(4, .long r14), (0, .ref md), (1, .int (nI s9)), (2, .int (nI p9)), (3, .int (nI q9))]) hx hb dX7_sumOf_17 hl (by decide) rfl (fun ls hl => ?_)
    refine lv_iload_n hx hb dX7_sumOf_19 rfl (lv_at hl 3 rfl) ?_
    refine lv_iload_n hx hb dX7_sumOf_20 rfl (lv_at hl 4 rfl) ?_
    refine nv_icmp_ne (tgt := 34) hx hb (by omega) (by omega) dX7_sumOf_21 (by decide) (fun hc21 => ?_) (fun hc21 => ?_)
    · refine lv_lload hx hb dX7_sumOf_34 (lv_at hl 0 rfl) ?_
      rw [hQ]
      exact W.lret (v := r14) hx hb hr (fun t99 ht99 hW99 => ⟨⟨r14, μ, rfl, (⟨rfl, by unfold so; rw [if_neg hc5]; first | rw [if_pos hc21, hr28, hr14] | rw [if_neg hc21, hr14]⟩), by show mw _ _ _ _ t99.heap; rw [ht99]; exact hP⟩, hS.F ht99⟩) hS.2.2 dX7_sumOf_36
    · refine lv_lload hx hb dX7_sumOf_24 (lv_at hl 0 rfl) ?_
      refine lv_lload hx hb dX7_sumOf_26 (lv_at hl 0 rfl) ?_
      refine kc_l (va_runS (As := [.long r14, .long r14]) (rest := []) ⟨hx, hb, hml, hown, hts⟩ (c_X7_sum l G B (μ) r14 r14) (va_cwS 2 hts gX7_sumOf_X7_sum rfl rfl rfl (by decide +kernel) ⟨Nat.le_of_ble_eq_true rfl, Nat.le_of_ble_eq_true rfl⟩) ⟨KW.blind, fun U9 hU9 hW9 => ⟨rfl, KW.pre hBs hKK hS hP U9 hU9 hW9⟩⟩ rfl rfl hl.1 rfl (lv_room (Nat.le_of_ble_eq_true rfl)) dX7_sumOf_28 ⟨(Nat.le_of_ble_eq_true rfl), (Nat.le_of_ble_eq_true rfl)⟩) hS (fun r28 m28 H locs hq9 hP hz9 hS => ?_)
      obtain ⟨he9, hr28⟩ := hq9
      rw [he9] at hP
      refine lv_goto (tgt := 36) hx hb dX7_sumOf_31 (by decide) ?_
      rw [hQ]
      exact W.lret (v := r28) hx hb hr (fun t99 ht99 hW99 => ⟨⟨r28, μ, rfl, (⟨rfl, by unfold so; rw [if_neg hc5]; first | rw [if_pos hc21, hr28, hr14] | rw [if_neg hc21, hr14]⟩), by show mw _ _ _ _ t99.heap; rw [ht99]; exact hP⟩, hS.F ht99⟩) hS.2.2 dX7_sumOf_36
  · refine lv_lconst (v := 0) hx hb dX7_sumOf_8 (by decide) ?_
    rw [hQ]
    exact W.lret (v := 0) hx hb hr (fun t99 ht99 hW99 => ⟨⟨0, μ, rfl, (⟨rfl, by unfold so; rw [if_pos hc5]⟩), by show mw _ _ _ _ t99.heap; rw [ht99]; exact hP⟩, hS.F ht99⟩) hS.2.2 dX7_sumOf_9

abbrev rm_X7_lessen : Room := { frames := 1, cells := 0, slots := 0, locals := 25 }
set_option maxHeartbeats 4000000 in
set_option maxRecDepth 100000 in
theorem c_X7_lessen (l : Launch) (G : GG) (B : Nat) (μ : mp) (md ab av c1 c2 c3 c4 c5 c6 c7 c8 c9 fl st : Nat) (f : Nat → Int64) (v : Nat → Int32) (s9 p9 q9 : Nat) (x9 : Int64) (hm : μ md = some (.inr (7, [.int (nI fl), .ref ab, .ref av, .int (nI st), .ref c1, .ref c2, .ref c3, .ref c4, .ref c5, .ref c6, .ref c7, .ref c8, .ref c9]))) (hab : μ ab = some (.inl (G.2 0, 3744, .inr (.inl f)))) (hav : μ av = some (.inl (G.2 2, 26, .inl v))) (hs9 : s9 < 26) (hp9 : p9 < 12) (hq9a : q9 < 12) (hv0 : v s9 = 0) (hnn : q9 = ne p9 → ¬ x9 = INF → ¬ x9 < 0) : Met l yX7_lessen wsX7_lessen rm_X7_lessen (va_Pc [.ref md, .int (nI s9), .int (nI p9), .int (nI q9), .long x9] (KW G B μ)) (va_Qi (fun r μ2 => (r = 0 ∧ μ2 = μ ∧ (x9 = INF ∨ q9 = ne p9 ∨ ¬ lv p9 q9 x9 < f (144 * s9 + 12 * p9 + q9))) ∨ (r = 1 ∧ ¬ x9 = INF ∧ q9 ≠ ne p9 ∧ lv p9 q9 x9 < f (144 * s9 + 12 * p9 + q9) ∧ μ2 = mu μ ab (.inl (G.2 0, 3744, .inr (.inl (stf f s9 p9 q9 (lv p9 q9 x9))))))) (BB G B) (fun q => B ≤ q)) 0 0 (fun q => B ≤ q) := by
  refine Met.ofW (cc := cX7_lessen) (maxL := 8) (ret := (some .boolean)) (by decide) rfl ?_
  intro p e s m args below meth c s₁ B9 hml hv
  obtain ⟨hargs, hBs, hP, hKK⟩ := hv
  have hx := B9.exec
  have hb := B9.bytes
  have hr := B9.returns
  have hts := atoms_spec (ws := wsX7_lessen) B9.pre
  have hown : s.vm.findClass RX7 = some m.cls := findClass_of_methodNamed B9.named
  have hlocks := B9.notSynchronized
  have hK := hKK.k
  have hS : va_S (fun q => B ≤ q) s.heap s.heap [] := va_S.rf
  obtain ⟨Q, hQ⟩ : ∃ Q, Q = MQ below (va_Qi (fun r μ2 => (r = 0 ∧ μ2 = μ ∧ (x9 = INF ∨ q9 = ne p9 ∨ ¬ lv p9 q9 x9 < f (144 * s9 + 12 * p9 + q9))) ∨ (r = 1 ∧ ¬ x9 = INF ∧ q9 ≠ ne p9 ∧ lv p9 q9 x9 < f (144 * s9 + 12 * p9 + q9) ∧ μ2 = mu μ ab (.inl (G.2 0, 3744, .inr (.inl (stf f s9 p9 q9 (lv p9 q9 x9))))))) (BB G B) (fun q => B ≤ q)) args s 0 0 (fun q => B ≤ q) := ⟨_, rfl⟩
  rw [← hQ]
  have ne0_1 : md ≠ ab := mp_ne hm hab (by simp)
  have ne0_2 : md ≠ av := mp_ne hm hav (by simp)
  have in_X7_lessen_X7 : ∀ w ∈ wsX70, w ∈ wsX7_lessen := by decide +kernel
  have L62 : ∀ (y9 : Int64) (hy9 : y9 = lv p9 q9 x9) (hc5a : ¬ x9 = INF) (hc16a : q9 ≠ ne p9), ∀ (H : Heap) (locs : List Loc), mw G.1 vwCl B (μ) H → va_S (fun q => B ≤ q) s.heap H locs → ∀ ls : Array Slot, lv_has ls 8 [(0, .ref md), (1, .int (nI s9)), (2, .int (nI p9)), (3, .int (nI q9))] → W p l e rm_X7_lessen s m args below meth c H locs 0 0 Q (F0 m 62 ls [.long y9]) := by
    intro y9 hy9 hc5a hc16a H locs hP hS ls hl
    refine lv_lstore (lv' := [(6, .long y9), (0, .ref md), (1, .int (nI s9)), (2, .int (nI p9)), (3, .int (nI q9))]) hx hb dX7_lessen_62 hl (by decide) rfl (fun ls hl => ?_)
    refine lv_lload hx hb dX7_lessen_64 (lv_at hl 0 rfl) ?_
    refine lv_aload_n hx hb dX7_lessen_66 rfl (lv_at hl 1 rfl) ?_
    refine lv_iload_n hx hb dX7_lessen_67 rfl (lv_at hl 2 rfl) ?_
    refine lv_iload_n hx hb dX7_lessen_68 rfl (lv_at hl 3 rfl) ?_
    refine lv_iload_n hx hb dX7_lessen_69 rfl (lv_at hl 4 rfl) ?_
    refine kc_l (va_runV (As := [.int (nI s9), .int (nI p9), .int (nI q9)]) (rest := [.long y9]) ⟨hx, hb, hml, hown, hts⟩ (c_X7_get l G B (μ) md ab av c1 c2 c3 c4 c5 c6 c7 c8 c9 fl st f v s9 p9 q9 (hm) (hab) (hav) (by omega) (by omega) (by omega)) (cwV 3 hts gX7_lessen_X7_get rfl rfl rfl (by decide +kernel) ⟨Nat.le_of_ble_eq_true rfl, Nat.le_of_ble_eq_true rfl⟩) ⟨KW.blind, hP.recv hK rfl (hm), fun U9 hU9 hW9 => ⟨rfl, KW.pre hBs hKK hS hP U9 hU9 hW9⟩⟩ rfl rfl hl.1 rfl (lv_room (Nat.le_of_ble_eq_true rfl)) dX7_lessen_70 ⟨(Nat.le_of_ble_eq_true rfl), (Nat.le_of_ble_eq_true rfl)⟩) hS (fun r70 m70 H locs hq9 hP hz9 hS => ?_)
    obtain ⟨he9, hr70⟩ := hq9
    rw [he9] at hP
    refine nl_if_lt (tgt := 79) hx hb dX7_lessen_73 dX7_lessen_74 (by decide) (fun hc73 => ?_) (fun hc73 => ?_)
    · refine lv_aload_n hx hb dX7_lessen_79 rfl (lv_at hl 1 rfl) ?_
      refine lv_iload_n hx hb dX7_lessen_80 rfl (lv_at hl 2 rfl) ?_
      refine lv_iload_n hx hb dX7_lessen_81 rfl (lv_at hl 3 rfl) ?_
      refine lv_iload_n hx hb dX7_lessen_82 rfl (lv_at hl 4 rfl) ?_
      refine lv_lload hx hb dX7_lessen_83 (lv_at hl 0 rfl) ?_
      refine kc_v (va_runV (As := [.int (nI s9), .int (nI p9), .int (nI q9), .long y9]) (rest := []) ⟨hx, hb, hml, hown, hts⟩ (c_X7_set l G B (μ) md ab av c1 c2 c3 c4 c5 c6 c7 c8 c9 fl st f v s9 p9 q9 y9 (hm) (hab) (hav) (by omega) (by omega) (by omega)) (cwV 4 hts gX7_lessen_X7_set rfl rfl rfl (by decide +kernel) ⟨Nat.le_of_ble_eq_true rfl, Nat.le_of_ble_eq_true rfl⟩) ⟨KW.blind, hP.recv hK rfl (hm), fun U9 hU9 hW9 => ⟨rfl, KW.pre hBs hKK hS hP U9 hU9 hW9⟩⟩ rfl rfl hl.1 rfl (lv_room (Nat.le_of_ble_eq_true rfl)) dX7_lessen_85 ⟨(Nat.le_of_ble_eq_true rfl), (Nat.le_of_ble_eq_true rfl)⟩) hS (fun m85 H locs hq9 hP hz9 hS => ?_)
      rw [hq9] at hP
      have hP : mw G.1 vwCl B (mu μ ab (.inl (G.2 0, 3744, .inr (.inl (stf f s9 p9 q9 y9))))) _ := hP
      refine lv_iconst (v := nI 1) hx hb dX7_lessen_88 (by decide) ?_
      rw [hQ]
      exact W.zret (v := nI 1) (ty := .boolean) hx hb hr (by first | rfl | decide) (fun t99 ht99 hW99 => ⟨⟨nI 1, mu μ ab (.inl (G.2 0, 3744, .inr (.inl (stf f s9 p9 q9 y9)))), rfl, (Or.inr ⟨rfl, hc5a, hc16a, by rw [← hy9, ← hr70]; exact hc73, by rw [hy9]⟩), by show mw _ _ _ _ t99.heap; rw [ht99]; exact hP⟩, hS.F ht99⟩) hS.2.2 dX7_lessen_89
    · refine lv_iconst (v := nI 0) hx hb dX7_lessen_77 (by decide) ?_
      rw [hQ]
      exact W.zret (v := nI 0) (ty := .boolean) hx hb hr (by first | rfl | decide) (fun t99 ht99 hW99 => ⟨⟨nI 0, μ, rfl, (Or.inl ⟨rfl, rfl, Or.inr (Or.inr (by rw [← hy9, ← hr70]; exact hc73))⟩), by show mw _ _ _ _ t99.heap; rw [ht99]; exact hP⟩, hS.F ht99⟩) hS.2.2 dX7_lessen_78
  have hl := lv_entry ([.ref md, .int (nI s9), .int (nI p9), .int (nI q9), .long x9]) (n := 8) (Nat.le_of_ble_eq_true rfl)
  have he9 : entryFrame m args 8 = entryFrame m ([.ref md, .int (nI s9), .int (nI p9), .int (nI q9), .long x9] : List Value).toArray 8 := by rw [hargs]
  rw [he9, lg_entry_eq]
  generalize (lg_sl ([.ref md, .int (nI s9), .int (nI p9), .int (nI q9), .long x9]) ++ List.replicate (8 - (lg_sl ([.ref md, .int (nI s9), .int (nI p9), .int (nI q9), .long x9])).length) Slot.unset).toArray = ls at hl ⊢
  have hl : lv_has ls 8 [(0, .ref md), (1, .int (nI s9)), (2, .int (nI p9)), (3, .int (nI q9)), (4, .long x9)] := hl
  refine lv_lload hx hb dX7_lessen_0 (lv_at hl 4 rfl) ?_
  refine lv_ldc2 (v := (9223372036854775807)) hx hb hown (hts (.constantLong RX7 45 (9223372036854775807)) (by decide +kernel)) dX7_lessen_2 ?_
  refine nl_if_ne (tgt := 11) hx hb dX7_lessen_5 dX7_lessen_6 (by decide) (fun hc5 => ?_) (fun hc5 => ?_)
  · refine lv_iload_n hx hb dX7_lessen_11 rfl (lv_at hl 3 rfl) ?_
    refine lv_iload_n hx hb dX7_lessen_12 rfl (lv_at hl 2 rfl) ?_
    refine kc_i (va_runS (As := [.int (nI p9)]) (rest := [.int (nI q9)]) ⟨hx, hb, hml, hown, hts⟩ (c_X7_minus l G B (μ) p9 (by omega)) (va_cwS 1 hts gX7_lessen_X7_minus rfl rfl rfl (by decide +kernel) ⟨Nat.le_of_ble_eq_true rfl, Nat.le_of_ble_eq_true rfl⟩) ⟨KW.blind, fun U9 hU9 hW9 => ⟨rfl, KW.pre hBs hKK hS hP U9 hU9 hW9⟩⟩ rfl rfl hl.1 rfl (lv_room (Nat.le_of_ble_eq_true rfl)) dX7_lessen_13 ⟨(Nat.le_of_ble_eq_true rfl), (Nat.le_of_ble_eq_true rfl)⟩) hS (fun r13 m13 H locs hq9 hP hz9 hS => ?_)
    obtain ⟨he9, rfl⟩ := hq9
    rw [he9] at hP
    have hne13 := ne_lt (p := p9) (by omega)
    refine nv_icmp_ne (tgt := 48) hx hb (by omega) (by omega) dX7_lessen_16 (by decide) (fun hc16 => ?_) (fun hc16 => ?_)
    · refine lv_iload_n hx hb dX7_lessen_48 rfl (lv_at hl 2 rfl) ?_
      refine lv_iload_n hx hb dX7_lessen_49 rfl (lv_at hl 3 rfl) ?_
      refine nv_icmp_ne (tgt := 60) hx hb (by omega) (by omega) dX7_lessen_50 (by decide) (fun hc50 => ?_) (fun hc50 => ?_)
      · refine lv_lload hx hb dX7_lessen_60 (lv_at hl 4 rfl) ?_
        exact L62 x9 (by unfold lv; first | rw [if_pos hc50] | rw [if_neg hc50]) (hc5) (hc16) _ _ hP hS ls (lv_sub hl [0, 1, 2, 3] rfl)
      · refine lv_lload hx hb dX7_lessen_53 (lv_at hl 4 rfl) ?_
        refine lv_iconst (v := nI 1) hx hb dX7_lessen_55 (by decide) ?_
        refine lv_lshr (v := x9 >>> ((nI 1).toInt64 &&& 63)) hx hb dX7_lessen_56 rfl ?_
        refine lv_goto (tgt := 62) hx hb dX7_lessen_57 (by decide) ?_
        exact L62 (x9 >>> ((nI 1).toInt64 &&& 63)) (by unfold lv; first | rw [if_pos hc50] | rw [if_neg hc50]) (hc5) (hc16) _ _ hP hS ls (lv_sub hl [0, 1, 2, 3] rfl)
    · refine lv_aload_n hx hb dX7_lessen_19 rfl (lv_at hl 0 rfl) ?_
      refine mw_get (C := RX7) (T := TX7) (N := 13) hx hb hts in_X7_lessen_X7 hown hK hP (hm) rfl 2 (by decide) (hts (.fieldLink RX7 13 "OctagonDeskModel" "isVoid" "[Z") (by decide +kernel)) (fun _ h9 => h9) rfl dX7_lessen_20 ?_
      refine lv_iload_n hx hb dX7_lessen_23 rfl (lv_at hl 1 rfl) ?_
      refine lv_aload_n hx hb dX7_lessen_24 rfl (lv_at hl 0 rfl) ?_
      refine mw_get (C := RX7) (T := TX7) (N := 13) hx hb hts in_X7_lessen_X7 hown hK hP (hm) rfl 2 (by decide) (hts (.fieldLink RX7 13 "OctagonDeskModel" "isVoid" "[Z") (by decide +kernel)) (fun _ h9 => h9) rfl dX7_lessen_25 ?_
      refine lv_iload_n hx hb dX7_lessen_28 rfl (lv_at hl 1 rfl) ?_
      refine mw_zald hx hb hK hP 2 (hav) rfl (by omega) (by omega) dX7_lessen_29 ?_
      refine lv_if_ne (tgt := 40) hx hb dX7_lessen_30 (by decide) (fun hc30 => ?_) (fun hc30 => ?_)
      · exact absurd hv0 hc30
      · refine lv_lload hx hb dX7_lessen_33 (lv_at hl 4 rfl) ?_
        refine lv_lconst (v := 0) hx hb dX7_lessen_35 (by decide) ?_
        refine nl_if_ge (tgt := 44) hx hb dX7_lessen_36 dX7_lessen_37 (by decide) (fun hc36 => ?_) (fun hc36 => ?_)
        · refine lv_iconst (v := nI 0) hx hb dX7_lessen_44 (by decide) ?_
          refine mw_zast hx hb hK hP hS 2 (hav) rfl (by decide) (by omega) (by omega) dX7_lessen_45 (fun H locs hP hS => ?_)
          have hP : mw G.1 vwCl B (mu μ av (.inl (G.2 2, 26, .inl (upd v s9 (nI 0))))) _ := hP
          refine lv_iconst (v := nI 0) hx hb dX7_lessen_46 (by decide) ?_
          rw [hQ]
          exact W.zret (v := nI 0) (ty := .boolean) hx hb hr (by first | rfl | decide) (fun t99 ht99 hW99 => ⟨⟨nI 0, mu μ av (.inl (G.2 2, 26, .inl (upd v s9 (nI 0)))), rfl, (Or.inl ⟨rfl, by rw [upd_id (by first | exact hv0 | exact hv0.trans rfl)]; exact mu_i hav, Or.inr (Or.inl hc16)⟩), by show mw _ _ _ _ t99.heap; rw [ht99]; exact hP⟩, hS.F ht99⟩) hS.2.2 dX7_lessen_47
        · exact absurd (by first | exact hc36 | exact Int64.not_le.mp hc36) (hnn hc16 hc5)
  · refine lv_iconst (v := nI 0) hx hb dX7_lessen_9 (by decide) ?_
    rw [hQ]
    exact W.zret (v := nI 0) (ty := .boolean) hx hb hr (by first | rfl | decide) (fun t99 ht99 hW99 => ⟨⟨nI 0, μ, rfl, (Or.inl ⟨rfl, rfl, Or.inl hc5⟩), by show mw _ _ _ _ t99.heap; rw [ht99]; exact hP⟩, hS.F ht99⟩) hS.2.2 dX7_lessen_10

abbrev rm_X7_close : Room := { frames := 2, cells := 0, slots := 0, locals := 52 }
set_option maxHeartbeats 4000000 in
set_option maxRecDepth 100000 in
theorem c_X7_close_n (l : Launch) (G : GG) (B : Nat) (μ : mp) (md ab av c1 c2 c3 c4 c5 c6 c7 c8 c9 fl st : Nat) (f : Nat → Int64) (v : Nat → Int32) (s9 : Nat) (hm : μ md = some (.inr (7, [.int (nI fl), .ref ab, .ref av, .int (nI st), .ref c1, .ref c2, .ref c3, .ref c4, .ref c5, .ref c6, .ref c7, .ref c8, .ref c9]))) (hab : μ ab = some (.inl (G.2 0, 3744, .inr (.inl f)))) (hav : μ av = some (.inl (G.2 2, 26, .inl v))) (hs9 : s9 < 26) (hv0 : v s9 = 0) (hcc : CC f s9) : Met l yX7_close wsX7_close rm_X7_close (va_Pc [.ref md, .int (nI s9)] (KW G B μ)) (va_Qv (fun μ2 => μ2 = μ) (BB G B) (fun q => B ≤ q)) 0 0 (fun q => B ≤ q) := by
  refine Met.ofW (cc := cX7_close) (maxL := 8) (ret := none) (by decide) rfl ?_
  intro p e s m args below meth c s₁ B9 hml hv
  obtain ⟨hargs, hBs, hP, hKK⟩ := hv
  have hx := B9.exec
  have hb := B9.bytes
  have hr := B9.returns
  have hts := atoms_spec (ws := wsX7_close) B9.pre
  have hown : s.vm.findClass RX7 = some m.cls := findClass_of_methodNamed B9.named
  have hlocks := B9.notSynchronized
  have hK := hKK.k
  have hS : va_S (fun q => B ≤ q) s.heap s.heap [] := va_S.rf
  obtain ⟨Q, hQ⟩ : ∃ Q, Q = MQ below (va_Qv (fun μ2 => μ2 = μ) (BB G B) (fun q => B ≤ q)) args s 0 0 (fun q => B ≤ q) := ⟨_, rfl⟩
  rw [← hQ]
  have ne0_1 : md ≠ ab := mp_ne hm hab (by simp)
  have ne0_2 : md ≠ av := mp_ne hm hav (by simp)
  have in_X7_close_X7 : ∀ w ∈ wsX70, w ∈ wsX7_close := by decide +kernel
  have L23 : ∀ (N23 : Nat) (p1 : Nat) (hN23 : 12 - p1 < N23) (hp1 : p1 ≤ 12), ∀ (H : Heap) (locs : List Loc), mw G.1 vwCl B (μ) H → va_S (fun q => B ≤ q) s.heap H locs → ∀ ls : Array Slot, lv_has ls 8 [(0, .ref md), (1, .int (nI s9)), (2, .int (nI 0)), (3, .int (nI p1))] → W p l e rm_X7_close s m args below meth c H locs 0 0 Q (F0 m 23 ls []) := by
    intro N23
    induction N23 with
    | zero => intro p1 hN23; exact absurd hN23 (Nat.not_lt_zero _)
    | succ N23 ih23 =>
      intro p1 hN23 hp1 H locs hP hS ls hl
      have L32 : ∀ (N32 : Nat) (q1 : Nat) (hN32 : 12 - q1 < N32) (hpo : p1 < 12) (hq1 : q1 ≤ 12), ∀ (H : Heap) (locs : List Loc), mw G.1 vwCl B (μ) H → va_S (fun q => B ≤ q) s.heap H locs → ∀ ls : Array Slot, lv_has ls 8 [(0, .ref md), (1, .int (nI s9)), (2, .int (nI 0)), (3, .int (nI p1)), (4, .int (nI q1))] → W p l e rm_X7_close s m args below meth c H locs 0 0 Q (F0 m 32 ls []) := by
        intro N32
        induction N32 with
        | zero => intro q1 hN32; exact absurd hN32 (Nat.not_lt_zero _)
        | succ N32 ih32 =>
          intro q1 hN32 hpo hq1 H locs hP hS ls hl
          have L100 : ∀ (N100 : Nat) (r1 : Nat) (hN100 : 12 - r1 < N100) (hpq : (p1 < 12 ∧ q1 < 12)) (hr1 : r1 ≤ 12), ∀ (H : Heap) (locs : List Loc), mw G.1 vwCl B (μ) H → va_S (fun q => B ≤ q) s.heap H locs → ∀ ls : Array Slot, lv_has ls 8 [(0, .ref md), (1, .int (nI s9)), (2, .int (nI 0)), (3, .int (nI p1)), (4, .int (nI q1)), (6, .int (nI r1))] → W p l e rm_X7_close s m args below meth c H locs 0 0 Q (F0 m 100 ls []) := by
            intro N100
            induction N100 with
            | zero => intro r1 hN100; exact absurd hN100 (Nat.not_lt_zero _)
            | succ N100 ih100 =>
              intro r1 hN100 hpq hr1 H locs hP hS ls hl
              refine lv_iload hx hb dX7_close_100 (lv_at hl 5 rfl) ?_
              refine lv_bipush (v := nI 12) hx hb dX7_close_102 (by decide) ?_
              refine nv_icmp_ge (tgt := 161) hx hb (by omega) (by omega) dX7_close_104 (by decide) (fun hc104 => ?_) (fun hc104 => ?_)
              · refine lv_iinc (v := nI (q1 + 1)) (lv' := [(4, .int (nI (q1 + 1))), (0, .ref md), (1, .int (nI s9)), (2, .int (nI 0)), (3, .int (nI p1)), (6, .int (nI r1))]) hx hb dX7_close_161 hl (k := 4) rfl (nI_add _ _) (by decide) rfl (fun ls hl => ?_)
                refine lv_goto (tgt := 32) hx hb dX7_close_164 (by decide) ?_
                exact ih32 (q1 + 1) (by omega) (by omega) (by omega) _ _ hP hS ls (lv_sub hl [1, 2, 3, 4, 0] rfl)
              · refine lv_aload_n hx hb dX7_close_107 rfl (lv_at hl 0 rfl) ?_
                refine lv_iload_n hx hb dX7_close_108 rfl (lv_at hl 1 rfl) ?_
                refine lv_iload_n hx hb dX7_close_109 rfl (lv_at hl 3 rfl) ?_
                refine lv_iload hx hb dX7_close_110 (lv_at hl 4 rfl) ?_
                refine lv_aload_n hx hb dX7_close_112 rfl (lv_at hl 0 rfl) ?_
                refine lv_iload_n hx hb dX7_close_113 rfl (lv_at hl 1 rfl) ?_
                refine lv_iload_n hx hb dX7_close_114 rfl (lv_at hl 3 rfl) ?_
                refine lv_iload hx hb dX7_close_115 (lv_at hl 5 rfl) ?_
                refine kc_l (va_runV (As := [.int (nI s9), .int (nI p1), .int (nI r1)]) (rest := [.int (nI q1), .int (nI p1), .int (nI s9), .ref md]) ⟨hx, hb, hml, hown, hts⟩ (c_X7_sumOf l G B (μ) md ab av c1 c2 c3 c4 c5 c6 c7 c8 c9 fl st f v s9 p1 r1 (hm) (hab) (hav) (by omega) (by omega) (by omega)) (cwV 3 hts gX7_close_X7_sumOf rfl rfl rfl (by decide +kernel) ⟨Nat.le_of_ble_eq_true rfl, Nat.le_of_ble_eq_true rfl⟩) ⟨KW.blind, hP.recv hK rfl (hm), fun U9 hU9 hW9 => ⟨rfl, KW.pre hBs hKK hS hP U9 hU9 hW9⟩⟩ rfl rfl hl.1 rfl (lv_room (Nat.le_of_ble_eq_true rfl)) dX7_close_117 ⟨(Nat.le_of_ble_eq_true rfl), (Nat.le_of_ble_eq_true rfl)⟩) hS (fun r117 m117 H locs hq9 hP hz9 hS => ?_)
                obtain ⟨he9, hr117⟩ := hq9
                rw [he9] at hP
                refine lv_aload_n hx hb dX7_close_120 rfl (lv_at hl 0 rfl) ?_
                refine lv_iload_n hx hb dX7_close_121 rfl (lv_at hl 1 rfl) ?_
                refine lv_iload hx hb dX7_close_122 (lv_at hl 5 rfl) ?_
                refine kc_i (va_runS (As := [.int (nI r1)]) (rest := [.int (nI s9), .ref md, .long r117, .int (nI q1), .int (nI p1), .int (nI s9), .ref md]) ⟨hx, hb, hml, hown, hts⟩ (c_X7_minus l G B (μ) r1 (by omega)) (va_cwS 1 hts gX7_close_X7_minus rfl rfl rfl (by decide +kernel) ⟨Nat.le_of_ble_eq_true rfl, Nat.le_of_ble_eq_true rfl⟩) ⟨KW.blind, fun U9 hU9 hW9 => ⟨rfl, KW.pre hBs hKK hS hP U9 hU9 hW9⟩⟩ rfl rfl hl.1 rfl (lv_room (Nat.le_of_ble_eq_true rfl)) dX7_close_124 ⟨(Nat.le_of_ble_eq_true rfl), (Nat.le_of_ble_eq_true rfl)⟩) hS (fun r124 m124 H locs hq9 hP hz9 hS => ?_)
                obtain ⟨he9, rfl⟩ := hq9
                rw [he9] at hP
                have hne124 := ne_lt (p := r1) (by omega)
                refine lv_iload hx hb dX7_close_127 (lv_at hl 4 rfl) ?_
                refine kc_l (va_runV (As := [.int (nI s9), .int (nI (ne r1)), .int (nI q1)]) (rest := [.long r117, .int (nI q1), .int (nI p1), .int (nI s9), .ref md]) ⟨hx, hb, hml, hown, hts⟩ (c_X7_sumOf l G B (μ) md ab av c1 c2 c3 c4 c5 c6 c7 c8 c9 fl st f v s9 (ne r1) q1 (hm) (hab) (hav) (by omega) (by omega) (by omega)) (cwV 3 hts gX7_close_X7_sumOf rfl rfl rfl (by decide +kernel) ⟨Nat.le_of_ble_eq_true rfl, Nat.le_of_ble_eq_true rfl⟩) ⟨KW.blind, hP.recv hK rfl (hm), fun U9 hU9 hW9 => ⟨rfl, KW.pre hBs hKK hS hP U9 hU9 hW9⟩⟩ rfl rfl hl.1 rfl (lv_room (Nat.le_of_ble_eq_true rfl)) dX7_close_129 ⟨(Nat.le_of_ble_eq_true rfl), (Nat.le_of_ble_eq_true rfl)⟩) hS (fun r129 m129 H locs hq9 hP hz9 hS => ?_)
                obtain ⟨he9, hr129⟩ := hq9
                rw [he9] at hP
                refine kc_l (va_runS (As := [.long r117, .long r129]) (rest := [.int (nI q1), .int (nI p1), .int (nI s9), .ref md]) ⟨hx, hb, hml, hown, hts⟩ (c_X7_sum l G B (μ) r117 r129) (va_cwS 2 hts gX7_close_X7_sum rfl rfl rfl (by decide +kernel) ⟨Nat.le_of_ble_eq_true rfl, Nat.le_of_ble_eq_true rfl⟩) ⟨KW.blind, fun U9 hU9 hW9 => ⟨rfl, KW.pre hBs hKK hS hP U9 hU9 hW9⟩⟩ rfl rfl hl.1 rfl (lv_room (Nat.le_of_ble_eq_true rfl)) dX7_close_132 ⟨(Nat.le_of_ble_eq_true rfl), (Nat.le_of_ble_eq_true rfl)⟩) hS (fun r132 m132 H locs hq9 hP hz9 hS => ?_)
                obtain ⟨he9, hr132⟩ := hq9
                rw [he9] at hP
                refine kc_i (va_runV (As := [.int (nI s9), .int (nI p1), .int (nI q1), .long r132]) (rest := []) ⟨hx, hb, hml, hown, hts⟩ (c_X7_lessen l G B (μ) md ab av c1 c2 c3 c4 c5 c6 c7 c8 c9 fl st f v s9 p1 q1 r132 (hm) (hab) (hav) (by omega) (by omega) (by omega) hv0 (((by rw [hr132, hr117, hr129]; exact (hcc p1 q1 (by omega) (by omega)).2 r1 (by omega) : NL f s9 p1 q1 r132)).1)) (cwV 4 hts gX7_close_X7_lessen rfl rfl rfl (by decide +kernel) ⟨Nat.le_of_ble_eq_true rfl, Nat.le_of_ble_eq_true rfl⟩) ⟨KW.blind, hP.recv hK rfl (hm), fun U9 hU9 hW9 => ⟨rfl, KW.pre hBs hKK hS hP U9 hU9 hW9⟩⟩ rfl rfl hl.1 rfl (lv_room (Nat.le_of_ble_eq_true rfl)) dX7_close_135 ⟨(Nat.le_of_ble_eq_true rfl), (Nat.le_of_ble_eq_true rfl)⟩) hS (fun r135 m135 H locs hq9 hP hz9 hS => ?_)
                have hr9 : r135 = nI 0 ∧ m135 = μ := by
                  rcases hq9 with ⟨h1, h2, -⟩ | ⟨-, h1, h2, h3, -⟩
                  · exact ⟨h1, h2⟩
                  · exact absurd h3 ((by rw [hr132, hr117, hr129]; exact (hcc p1 q1 (by omega) (by omega)).2 r1 (by omega) : NL f s9 p1 q1 r132).2 h1 h2)
                obtain ⟨hr9, he9⟩ := hr9
                rw [he9] at hP
                subst hr9
                refine lv_istore (lv' := [(7, .int (nI 0)), (0, .ref md), (1, .int (nI s9)), (2, .int (nI 0)), (3, .int (nI p1)), (4, .int (nI q1)), (6, .int (nI r1))]) hx hb dX7_close_138 hl (by decide) rfl (fun ls hl => ?_)
                refine lv_iload_n hx hb dX7_close_140 rfl (lv_at hl 3 rfl) ?_
                refine lv_if_ne (tgt := 149) hx hb dX7_close_141 (by decide) (fun hc141 => ?_) (fun hc141 => ?_)
                · exact absurd rfl hc141
                · refine lv_iload hx hb dX7_close_144 (lv_at hl 0 rfl) ?_
                  refine lv_if_eq (tgt := 153) hx hb dX7_close_146 (by decide) (fun hc146 => ?_) (fun hc146 => ?_)
                  · refine lv_iconst (v := nI 0) hx hb dX7_close_153 (by decide) ?_
                    refine lv_istore_n (lv' := [(2, .int (nI 0)), (7, .int (nI 0)), (0, .ref md), (1, .int (nI s9)), (3, .int (nI p1)), (4, .int (nI q1)), (6, .int (nI r1))]) hx hb dX7_close_154 rfl hl (by decide) rfl (fun ls hl => ?_)
                    refine lv_iinc (v := nI (r1 + 1)) (lv' := [(6, .int (nI (r1 + 1))), (2, .int (nI 0)), (7, .int (nI 0)), (0, .ref md), (1, .int (nI s9)), (3, .int (nI p1)), (4, .int (nI q1))]) hx hb dX7_close_155 hl (k := 6) rfl (nI_add _ _) (by decide) rfl (fun ls hl => ?_)
                    refine lv_goto (tgt := 100) hx hb dX7_close_158 (by decide) ?_
                    exact ih100 (r1 + 1) (by omega) (by omega) (by omega) _ _ hP hS ls (lv_sub hl [3, 4, 1, 5, 6, 0] rfl)
                  · exact absurd rfl hc146
          refine lv_iload hx hb dX7_close_32 (lv_at hl 4 rfl) ?_
          refine lv_bipush (v := nI 12) hx hb dX7_close_34 (by decide) ?_
          refine nv_icmp_ge (tgt := 167) hx hb (by omega) (by omega) dX7_close_36 (by decide) (fun hc36 => ?_) (fun hc36 => ?_)
          · refine lv_iinc (v := nI (p1 + 1)) (lv' := [(3, .int (nI (p1 + 1))), (0, .ref md), (1, .int (nI s9)), (2, .int (nI 0)), (4, .int (nI q1))]) hx hb dX7_close_167 hl (k := 3) rfl (nI_add _ _) (by decide) rfl (fun ls hl => ?_)
            refine lv_goto (tgt := 23) hx hb dX7_close_170 (by decide) ?_
            exact ih23 (p1 + 1) (by omega) (by omega) _ _ hP hS ls (lv_sub hl [1, 2, 3, 0] rfl)
          · refine lv_iload_n hx hb dX7_close_39 rfl (lv_at hl 3 rfl) ?_
            refine lv_iload hx hb dX7_close_40 (lv_at hl 4 rfl) ?_
            refine nv_icmp_eq (tgt := 79) hx hb (by omega) (by omega) dX7_close_42 (by decide) (fun hc42 => ?_) (fun hc42 => ?_)
            · refine lv_iconst (v := nI 0) hx hb dX7_close_79 (by decide) ?_
              refine lv_istore (lv' := [(5, .int (nI 0)), (0, .ref md), (1, .int (nI s9)), (2, .int (nI 0)), (3, .int (nI p1)), (4, .int (nI q1))]) hx hb dX7_close_80 hl (by decide) rfl (fun ls hl => ?_)
              refine lv_iload_n hx hb dX7_close_82 rfl (lv_at hl 3 rfl) ?_
              refine lv_if_ne (tgt := 91) hx hb dX7_close_83 (by decide) (fun hc83 => ?_) (fun hc83 => ?_)
              · exact absurd rfl hc83
              · refine lv_iload hx hb dX7_close_86 (lv_at hl 0 rfl) ?_
                refine lv_if_eq (tgt := 95) hx hb dX7_close_88 (by decide) (fun hc88 => ?_) (fun hc88 => ?_)
                · refine lv_iconst (v := nI 0) hx hb dX7_close_95 (by decide) ?_
                  refine lv_istore_n (lv' := [(2, .int (nI 0)), (5, .int (nI 0)), (0, .ref md), (1, .int (nI s9)), (3, .int (nI p1)), (4, .int (nI q1))]) hx hb dX7_close_96 rfl hl (by decide) rfl (fun ls hl => ?_)
                  refine lv_iconst (v := nI 0) hx hb dX7_close_97 (by decide) ?_
                  refine lv_istore (lv' := [(6, .int (nI 0)), (2, .int (nI 0)), (5, .int (nI 0)), (0, .ref md), (1, .int (nI s9)), (3, .int (nI p1)), (4, .int (nI q1))]) hx hb dX7_close_98 hl (by decide) rfl (fun ls hl => ?_)
                  exact L100 _ 0 (Nat.lt_succ_self _) (by omega) (by omega) _ _ hP hS ls (lv_sub hl [3, 4, 1, 5, 6, 0] rfl)
                · exact absurd rfl hc88
            · refine lv_aload_n hx hb dX7_close_45 rfl (lv_at hl 0 rfl) ?_
              refine lv_iload_n hx hb dX7_close_46 rfl (lv_at hl 1 rfl) ?_
              refine lv_iload_n hx hb dX7_close_47 rfl (lv_at hl 3 rfl) ?_
              refine lv_iload hx hb dX7_close_48 (lv_at hl 4 rfl) ?_
              refine lv_aload_n hx hb dX7_close_50 rfl (lv_at hl 0 rfl) ?_
              refine lv_iload_n hx hb dX7_close_51 rfl (lv_at hl 1 rfl) ?_
              refine lv_iload_n hx hb dX7_close_52 rfl (lv_at hl 3 rfl) ?_
              refine lv_iload_n hx hb dX7_close_53 rfl (lv_at hl 3 rfl) ?_
              refine kc_l (va_runV (As := [.int (nI s9), .int (nI p1), .int (nI p1)]) (rest := [.int (nI q1), .int (nI p1), .int (nI s9), .ref md]) ⟨hx, hb, hml, hown, hts⟩ (c_X7_get l G B (μ) md ab av c1 c2 c3 c4 c5 c6 c7 c8 c9 fl st f v s9 p1 p1 (hm) (hab) (hav) (by omega) (by omega) (by omega)) (cwV 3 hts gX7_close_X7_get rfl rfl rfl (by decide +kernel) ⟨Nat.le_of_ble_eq_true rfl, Nat.le_of_ble_eq_true rfl⟩) ⟨KW.blind, hP.recv hK rfl (hm), fun U9 hU9 hW9 => ⟨rfl, KW.pre hBs hKK hS hP U9 hU9 hW9⟩⟩ rfl rfl hl.1 rfl (lv_room (Nat.le_of_ble_eq_true rfl)) dX7_close_54 ⟨(Nat.le_of_ble_eq_true rfl), (Nat.le_of_ble_eq_true rfl)⟩) hS (fun r54 m54 H locs hq9 hP hz9 hS => ?_)
              obtain ⟨he9, hr54⟩ := hq9
              rw [he9] at hP
              refine lv_aload_n hx hb dX7_close_57 rfl (lv_at hl 0 rfl) ?_
              refine lv_iload_n hx hb dX7_close_58 rfl (lv_at hl 1 rfl) ?_
              refine lv_iload hx hb dX7_close_59 (lv_at hl 4 rfl) ?_
              refine lv_iload hx hb dX7_close_61 (lv_at hl 4 rfl) ?_
              refine kc_l (va_runV (As := [.int (nI s9), .int (nI q1), .int (nI q1)]) (rest := [.long r54, .int (nI q1), .int (nI p1), .int (nI s9), .ref md]) ⟨hx, hb, hml, hown, hts⟩ (c_X7_get l G B (μ) md ab av c1 c2 c3 c4 c5 c6 c7 c8 c9 fl st f v s9 q1 q1 (hm) (hab) (hav) (by omega) (by omega) (by omega)) (cwV 3 hts gX7_close_X7_get rfl rfl rfl (by decide +kernel) ⟨Nat.le_of_ble_eq_true rfl, Nat.le_of_ble_eq_true rfl⟩) ⟨KW.blind, hP.recv hK rfl (hm), fun U9 hU9 hW9 => ⟨rfl, KW.pre hBs hKK hS hP U9 hU9 hW9⟩⟩ rfl rfl hl.1 rfl (lv_room (Nat.le_of_ble_eq_true rfl)) dX7_close_63 ⟨(Nat.le_of_ble_eq_true rfl), (Nat.le_of_ble_eq_true rfl)⟩) hS (fun r63 m63 H locs hq9 hP hz9 hS => ?_)
              obtain ⟨he9, hr63⟩ := hq9
              rw [he9] at hP
              refine kc_l (va_runS (As := [.long r54, .long r63]) (rest := [.int (nI q1), .int (nI p1), .int (nI s9), .ref md]) ⟨hx, hb, hml, hown, hts⟩ (c_X7_sum l G B (μ) r54 r63) (va_cwS 2 hts gX7_close_X7_sum rfl rfl rfl (by decide +kernel) ⟨Nat.le_of_ble_eq_true rfl, Nat.le_of_ble_eq_true rfl⟩) ⟨KW.blind, fun U9 hU9 hW9 => ⟨rfl, KW.pre hBs hKK hS hP U9 hU9 hW9⟩⟩ rfl rfl hl.1 rfl (lv_room (Nat.le_of_ble_eq_true rfl)) dX7_close_66 ⟨(Nat.le_of_ble_eq_true rfl), (Nat.le_of_ble_eq_true rfl)⟩) hS (fun r66 m66 H locs hq9 hP hz9 hS => ?_)
              obtain ⟨he9, hr66⟩ := hq9
              rw [he9] at hP
              refine kc_i (va_runV (As := [.int (nI s9), .int (nI p1), .int (nI q1), .long r66]) (rest := []) ⟨hx, hb, hml, hown, hts⟩ (c_X7_lessen l G B (μ) md ab av c1 c2 c3 c4 c5 c6 c7 c8 c9 fl st f v s9 p1 q1 r66 (hm) (hab) (hav) (by omega) (by omega) (by omega) hv0 (((by rw [hr66, hr54, hr63]; exact (hcc p1 q1 (by omega) (by omega)).1 hc42 : NL f s9 p1 q1 r66)).1)) (cwV 4 hts gX7_close_X7_lessen rfl rfl rfl (by decide +kernel) ⟨Nat.le_of_ble_eq_true rfl, Nat.le_of_ble_eq_true rfl⟩) ⟨KW.blind, hP.recv hK rfl (hm), fun U9 hU9 hW9 => ⟨rfl, KW.pre hBs hKK hS hP U9 hU9 hW9⟩⟩ rfl rfl hl.1 rfl (lv_room (Nat.le_of_ble_eq_true rfl)) dX7_close_69 ⟨(Nat.le_of_ble_eq_true rfl), (Nat.le_of_ble_eq_true rfl)⟩) hS (fun r69 m69 H locs hq9 hP hz9 hS => ?_)
              have hr9 : r69 = nI 0 ∧ m69 = μ := by
                rcases hq9 with ⟨h1, h2, -⟩ | ⟨-, h1, h2, h3, -⟩
                · exact ⟨h1, h2⟩
                · exact absurd h3 ((by rw [hr66, hr54, hr63]; exact (hcc p1 q1 (by omega) (by omega)).1 hc42 : NL f s9 p1 q1 r66).2 h1 h2)
              obtain ⟨hr9, he9⟩ := hr9
              rw [he9] at hP
              subst hr9
              refine lv_if_eq (tgt := 79) hx hb dX7_close_72 (by decide) (fun hc72 => ?_) (fun hc72 => ?_)
              · refine lv_iconst (v := nI 0) hx hb dX7_close_79 (by decide) ?_
                refine lv_istore (lv' := [(5, .int (nI 0)), (0, .ref md), (1, .int (nI s9)), (2, .int (nI 0)), (3, .int (nI p1)), (4, .int (nI q1))]) hx hb dX7_close_80 hl (by decide) rfl (fun ls hl => ?_)
                refine lv_iload_n hx hb dX7_close_82 rfl (lv_at hl 3 rfl) ?_
                refine lv_if_ne (tgt := 91) hx hb dX7_close_83 (by decide) (fun hc83 => ?_) (fun hc83 => ?_)
                · exact absurd rfl hc83
                · refine lv_iload hx hb dX7_close_86 (lv_at hl 0 rfl) ?_
                  refine lv_if_eq (tgt := 95) hx hb dX7_close_88 (by decide) (fun hc88 => ?_) (fun hc88 => ?_)
                  · refine lv_iconst (v := nI 0) hx hb dX7_close_95 (by decide) ?_
                    refine lv_istore_n (lv' := [(2, .int (nI 0)), (5, .int (nI 0)), (0, .ref md), (1, .int (nI s9)), (3, .int (nI p1)), (4, .int (nI q1))]) hx hb dX7_close_96 rfl hl (by decide) rfl (fun ls hl => ?_)
                    refine lv_iconst (v := nI 0) hx hb dX7_close_97 (by decide) ?_
                    refine lv_istore (lv' := [(6, .int (nI 0)), (2, .int (nI 0)), (5, .int (nI 0)), (0, .ref md), (1, .int (nI s9)), (3, .int (nI p1)), (4, .int (nI q1))]) hx hb dX7_close_98 hl (by decide) rfl (fun ls hl => ?_)
                    exact L100 _ 0 (Nat.lt_succ_self _) (by omega) (by omega) _ _ hP hS ls (lv_sub hl [3, 4, 1, 5, 6, 0] rfl)
                  · exact absurd rfl hc88
              · exact absurd rfl hc72
      refine lv_iload_n hx hb dX7_close_23 rfl (lv_at hl 3 rfl) ?_
      refine lv_bipush (v := nI 12) hx hb dX7_close_24 (by decide) ?_
      refine nv_icmp_ge (tgt := 173) hx hb (by omega) (by omega) dX7_close_26 (by decide) (fun hc26 => ?_) (fun hc26 => ?_)
      · refine lv_iload_n hx hb dX7_close_173 rfl (lv_at hl 2 rfl) ?_
        refine lv_if_eq (tgt := 190) hx hb dX7_close_174 (by decide) (fun hc174 => ?_) (fun hc174 => ?_)
        · refine lv_iconst (v := nI 0) hx hb dX7_close_190 (by decide) ?_
          refine lv_istore_n (lv' := [(2, .int (nI 0)), (0, .ref md), (1, .int (nI s9)), (3, .int (nI p1))]) hx hb dX7_close_191 rfl hl (by decide) rfl (fun ls hl => ?_)
          refine lv_goto (tgt := 15) hx hb dX7_close_192 (by decide) ?_
          refine lv_iload_n hx hb dX7_close_15 rfl (lv_at hl 0 rfl) ?_
          refine lv_if_eq (tgt := 195) hx hb dX7_close_16 (by decide) (fun hc16 => ?_) (fun hc16 => ?_)
          · rw [hQ]
            exact W.vret hx hb hr (fun t99 ht99 hW99 => ⟨⟨μ, rfl, (rfl), by show mw _ _ _ _ t99.heap; rw [ht99]; exact hP⟩, hS.F ht99⟩) hS.2.2 dX7_close_195
          · exact absurd rfl hc16
        · exact absurd rfl hc174
      · refine lv_iconst (v := nI 0) hx hb dX7_close_29 (by decide) ?_
        refine lv_istore (lv' := [(4, .int (nI 0)), (0, .ref md), (1, .int (nI s9)), (2, .int (nI 0)), (3, .int (nI p1))]) hx hb dX7_close_30 hl (by decide) rfl (fun ls hl => ?_)
        exact L32 _ 0 (Nat.lt_succ_self _) (by omega) (by omega) _ _ hP hS ls (lv_sub hl [1, 2, 3, 4, 0] rfl)
  have hl := lv_entry ([.ref md, .int (nI s9)]) (n := 8) (Nat.le_of_ble_eq_true rfl)
  have he9 : entryFrame m args 8 = entryFrame m ([.ref md, .int (nI s9)] : List Value).toArray 8 := by rw [hargs]
  rw [he9, lg_entry_eq]
  generalize (lg_sl ([.ref md, .int (nI s9)]) ++ List.replicate (8 - (lg_sl ([.ref md, .int (nI s9)])).length) Slot.unset).toArray = ls at hl ⊢
  have hl : lv_has ls 8 [(0, .ref md), (1, .int (nI s9))] := hl
  refine lv_aload_n hx hb dX7_close_0 rfl (lv_at hl 0 rfl) ?_
  refine mw_get (C := RX7) (T := TX7) (N := 13) hx hb hts in_X7_close_X7 hown hK hP (hm) rfl 2 (by decide) (hts (.fieldLink RX7 13 "OctagonDeskModel" "isVoid" "[Z") (by decide +kernel)) (fun _ h9 => h9) rfl dX7_close_1 ?_
  refine lv_iload_n hx hb dX7_close_4 rfl (lv_at hl 1 rfl) ?_
  refine mw_zald hx hb hK hP 2 (hav) rfl (by omega) (by omega) dX7_close_5 ?_
  refine lv_if_ne (tgt := 13) hx hb dX7_close_6 (by decide) (fun hc6 => ?_) (fun hc6 => ?_)
  · exact absurd hv0 hc6
  · refine lv_iconst (v := nI 1) hx hb dX7_close_9 (by decide) ?_
    refine lv_goto (tgt := 14) hx hb dX7_close_10 (by decide) ?_
    refine lv_istore_n (lv' := [(2, .int (nI 1)), (0, .ref md), (1, .int (nI s9))]) hx hb dX7_close_14 rfl hl (by decide) rfl (fun ls hl => ?_)
    refine lv_iload_n hx hb dX7_close_15 rfl (lv_at hl 0 rfl) ?_
    refine lv_if_eq (tgt := 195) hx hb dX7_close_16 (by decide) (fun hc16 => ?_) (fun hc16 => ?_)
    · exact absurd hc16 (by decide)
    · refine lv_iconst (v := nI 0) hx hb dX7_close_19 (by decide) ?_
      refine lv_istore_n (lv' := [(2, .int (nI 0)), (0, .ref md), (1, .int (nI s9))]) hx hb dX7_close_20 rfl hl (by decide) rfl (fun ls hl => ?_)
      refine lv_iconst (v := nI 0) hx hb dX7_close_21 (by decide) ?_
      refine lv_istore_n (lv' := [(3, .int (nI 0)), (2, .int (nI 0)), (0, .ref md), (1, .int (nI s9))]) hx hb dX7_close_22 rfl hl (by decide) rfl (fun ls hl => ?_)
      exact L23 _ 0 (Nat.lt_succ_self _) (by omega) _ _ hP hS ls (lv_sub hl [2, 3, 1, 0] rfl)

set_option maxHeartbeats 4000000 in
set_option maxRecDepth 100000 in
theorem c_X7_close_z (l : Launch) (G : GG) (B : Nat) (μ : mp) (md ab av c1 c2 c3 c4 c5 c6 c7 c8 c9 fl st : Nat) (f : Nat → Int64) (v : Nat → Int32) (s9 : Nat) (hm : μ md = some (.inr (7, [.int (nI fl), .ref ab, .ref av, .int (nI st), .ref c1, .ref c2, .ref c3, .ref c4, .ref c5, .ref c6, .ref c7, .ref c8, .ref c9]))) (hab : μ ab = some (.inl (G.2 0, 3744, .inr (.inl f)))) (hav : μ av = some (.inl (G.2 2, 26, .inl v))) (hs9 : s9 < 26) (hv0 : v s9 = 0) (hzs : Zs f s9) : Met l yX7_close wsX7_close rm_X7_close (va_Pc [.ref md, .int (nI s9)] (KW G B μ)) (va_Qv (fun μ2 => ∃ g9 : Nat → Int64, μ2 = mu μ ab (.inl (G.2 0, 3744, .inr (.inl g9))) ∧ Zs g9 s9) (BB G B) (fun q => B ≤ q)) 0 0 (fun q => B ≤ q) := by
  refine Met.ofW (cc := cX7_close) (maxL := 8) (ret := none) (by decide) rfl ?_
  intro p e s m args below meth c s₁ B9 hml hv
  obtain ⟨hargs, hBs, hP, hKK⟩ := hv
  have hx := B9.exec
  have hb := B9.bytes
  have hr := B9.returns
  have hts := atoms_spec (ws := wsX7_close) B9.pre
  have hown : s.vm.findClass RX7 = some m.cls := findClass_of_methodNamed B9.named
  have hlocks := B9.notSynchronized
  have hK := hKK.k
  have hS : va_S (fun q => B ≤ q) s.heap s.heap [] := va_S.rf
  obtain ⟨Q, hQ⟩ : ∃ Q, Q = MQ below (va_Qv (fun μ2 => ∃ g9 : Nat → Int64, μ2 = mu μ ab (.inl (G.2 0, 3744, .inr (.inl g9))) ∧ Zs g9 s9) (BB G B) (fun q => B ≤ q)) args s 0 0 (fun q => B ≤ q) := ⟨_, rfl⟩
  rw [← hQ]
  have ne0_1 : md ≠ ab := mp_ne hm hab (by simp)
  have ne0_2 : md ≠ av := mp_ne hm hav (by simp)
  have in_X7_close_X7 : ∀ w ∈ wsX70, w ∈ wsX7_close := by decide +kernel
  have hP : mw G.1 vwCl B (mu μ ab (.inl (G.2 0, 3744, .inr (.inl f)))) s.heap := mw_eq (mu_i hab).symm hP
  have L15 : ∀ (N15 : Nat) (m0 : Nat) (f0 : Nat → Int64) (hN15 : 2 * cn f0 s9 144 + m0 < N15) (hm0 : m0 ≤ 1) (hz : Zs f0 s9), ∀ (H : Heap) (locs : List Loc), mw G.1 vwCl B (mu μ ab (.inl (G.2 0, 3744, .inr (.inl f0)))) H → va_S (fun q => B ≤ q) s.heap H locs → ∀ ls : Array Slot, lv_has ls 8 [(0, .ref md), (1, .int (nI s9)), (2, .int (nI m0))] → W p l e rm_X7_close s m args below meth c H locs 0 0 Q (F0 m 15 ls []) := by
    intro N15
    induction N15 with
    | zero => intro m0 f0 hN15; exact absurd hN15 (Nat.not_lt_zero _)
    | succ N15 ih15 =>
      intro m0 f0 hN15 hm0 hz H locs hP hS ls hl
      have L23 : ∀ (N23 : Nat) (p1 : Nat) (m1 : Nat) (f1 : Nat → Int64) (hN23 : 12 - p1 < N23) (hp1 : p1 ≤ 12) (hm01 : m0 = 1) (hm1 : m1 ≤ 1) (hz : Zs f1 s9) (hlt : m1 = 1 → cn f1 s9 144 < cn f0 s9 144) (hle : cn f1 s9 144 ≤ cn f0 s9 144), ∀ (H : Heap) (locs : List Loc), mw G.1 vwCl B (mu μ ab (.inl (G.2 0, 3744, .inr (.inl f1)))) H → va_S (fun q => B ≤ q) s.heap H locs → ∀ ls : Array Slot, lv_has ls 8 [(0, .ref md), (1, .int (nI s9)), (2, .int (nI m1)), (3, .int (nI p1))] → W p l e rm_X7_close s m args below meth c H locs 0 0 Q (F0 m 23 ls []) := by
        intro N23
        induction N23 with
        | zero => intro p1 m1 f1 hN23; exact absurd hN23 (Nat.not_lt_zero _)
        | succ N23 ih23 =>
          intro p1 m1 f1 hN23 hp1 hm01 hm1 hz hlt hle H locs hP hS ls hl
          have L32 : ∀ (N32 : Nat) (q1 : Nat) (m1 : Nat) (f1 : Nat → Int64) (hN32 : 12 - q1 < N32) (hpo : p1 < 12) (hq1 : q1 ≤ 12) (hm1 : m1 ≤ 1) (hz : Zs f1 s9) (hlt : m1 = 1 → cn f1 s9 144 < cn f0 s9 144) (hle : cn f1 s9 144 ≤ cn f0 s9 144), ∀ (H : Heap) (locs : List Loc), mw G.1 vwCl B (mu μ ab (.inl (G.2 0, 3744, .inr (.inl f1)))) H → va_S (fun q => B ≤ q) s.heap H locs → ∀ ls : Array Slot, lv_has ls 8 [(0, .ref md), (1, .int (nI s9)), (2, .int (nI m1)), (3, .int (nI p1)), (4, .int (nI q1))] → W p l e rm_X7_close s m args below meth c H locs 0 0 Q (F0 m 32 ls []) := by
            intro N32
            induction N32 with
            | zero => intro q1 m1 f1 hN32; exact absurd hN32 (Nat.not_lt_zero _)
            | succ N32 ih32 =>
              intro q1 m1 f1 hN32 hpo hq1 hm1 hz hlt hle H locs hP hS ls hl
              have L100 : ∀ (N100 : Nat) (r1 : Nat) (m1 : Nat) (f1 : Nat → Int64) (hN100 : 12 - r1 < N100) (hpq : (p1 < 12 ∧ q1 < 12)) (hr1 : r1 ≤ 12) (hm1 : m1 ≤ 1) (hz : Zs f1 s9) (hlt : m1 = 1 → cn f1 s9 144 < cn f0 s9 144) (hle : cn f1 s9 144 ≤ cn f0 s9 144), ∀ (H : Heap) (locs : List Loc), mw G.1 vwCl B (mu μ ab (.inl (G.2 0, 3744, .inr (.inl f1)))) H → va_S (fun q => B ≤ q) s.heap H locs → ∀ ls : Array Slot, lv_has ls 8 [(0, .ref md), (1, .int (nI s9)), (2, .int (nI m1)), (3, .int (nI p1)), (4, .int (nI q1)), (6, .int (nI r1))] → W p l e rm_X7_close s m args below meth c H locs 0 0 Q (F0 m 100 ls []) := by
                intro N100
                induction N100 with
                | zero => intro r1 m1 f1 hN100; exact absurd hN100 (Nat.not_lt_zero _)
                | succ N100 ih100 =>
                  intro r1 m1 f1 hN100 hpq hr1 hm1 hz hlt hle H locs hP hS ls hl
                  refine lv_iload hx hb dX7_close_100 (lv_at hl 5 rfl) ?_
                  refine lv_bipush (v := nI 12) hx hb dX7_close_102 (by decide) ?_
                  refine nv_icmp_ge (tgt := 161) hx hb (by omega) (by omega) dX7_close_104 (by decide) (fun hc104 => ?_) (fun hc104 => ?_)
                  · refine lv_iinc (v := nI (q1 + 1)) (lv' := [(4, .int (nI (q1 + 1))), (0, .ref md), (1, .int (nI s9)), (2, .int (nI m1)), (3, .int (nI p1)), (6, .int (nI r1))]) hx hb dX7_close_161 hl (k := 4) rfl (nI_add _ _) (by decide) rfl (fun ls hl => ?_)
                    refine lv_goto (tgt := 32) hx hb dX7_close_164 (by decide) ?_
                    exact ih32 (q1 + 1) m1 f1 (by omega) (by omega) (by omega) (by omega) (hz) (by intro em; first | omega | exact hlt em | (have h1 := hlt (nb_1 hm1 hc83); omega) | (have h1 := hlt69 (nb_1 hb69 hc72); omega) | (have h1 := hlt (nb_1 hm1 hc141); omega) | (have h1 := hlt135 (nb_1 hb135 hc146); omega)) (by first | omega | exact Nat.le_refl _) _ _ hP hS ls (lv_sub hl [1, 2, 3, 4, 0] rfl)
                  · refine lv_aload_n hx hb dX7_close_107 rfl (lv_at hl 0 rfl) ?_
                    refine lv_iload_n hx hb dX7_close_108 rfl (lv_at hl 1 rfl) ?_
                    refine lv_iload_n hx hb dX7_close_109 rfl (lv_at hl 3 rfl) ?_
                    refine lv_iload hx hb dX7_close_110 (lv_at hl 4 rfl) ?_
                    refine lv_aload_n hx hb dX7_close_112 rfl (lv_at hl 0 rfl) ?_
                    refine lv_iload_n hx hb dX7_close_113 rfl (lv_at hl 1 rfl) ?_
                    refine lv_iload_n hx hb dX7_close_114 rfl (lv_at hl 3 rfl) ?_
                    refine lv_iload hx hb dX7_close_115 (lv_at hl 5 rfl) ?_
                    refine kc_l (va_runV (As := [.int (nI s9), .int (nI p1), .int (nI r1)]) (rest := [.int (nI q1), .int (nI p1), .int (nI s9), .ref md]) ⟨hx, hb, hml, hown, hts⟩ (c_X7_sumOf l G B (mu μ ab (.inl (G.2 0, 3744, .inr (.inl f1)))) md ab av c1 c2 c3 c4 c5 c6 c7 c8 c9 fl st f1 v s9 p1 r1 ((mu_n ne0_1).trans (hm)) (mu_s _ _ _) ((mu_n ((mp_ne hav hab (by simp)))).trans (hav)) (by omega) (by omega) (by omega)) (cwV 3 hts gX7_close_X7_sumOf rfl rfl rfl (by decide +kernel) ⟨Nat.le_of_ble_eq_true rfl, Nat.le_of_ble_eq_true rfl⟩) ⟨KW.blind, hP.recv hK rfl ((mu_n ne0_1).trans (hm)), fun U9 hU9 hW9 => ⟨rfl, KW.pre hBs hKK hS hP U9 hU9 hW9⟩⟩ rfl rfl hl.1 rfl (lv_room (Nat.le_of_ble_eq_true rfl)) dX7_close_117 ⟨(Nat.le_of_ble_eq_true rfl), (Nat.le_of_ble_eq_true rfl)⟩) hS (fun r117 m117 H locs hq9 hP hz9 hS => ?_)
                    obtain ⟨he9, hr117⟩ := hq9
                    rw [he9] at hP
                    refine lv_aload_n hx hb dX7_close_120 rfl (lv_at hl 0 rfl) ?_
                    refine lv_iload_n hx hb dX7_close_121 rfl (lv_at hl 1 rfl) ?_
                    refine lv_iload hx hb dX7_close_122 (lv_at hl 5 rfl) ?_
                    refine kc_i (va_runS (As := [.int (nI r1)]) (rest := [.int (nI s9), .ref md, .long r117, .int (nI q1), .int (nI p1), .int (nI s9), .ref md]) ⟨hx, hb, hml, hown, hts⟩ (c_X7_minus l G B (mu μ ab (.inl (G.2 0, 3744, .inr (.inl f1)))) r1 (by omega)) (va_cwS 1 hts gX7_close_X7_minus rfl rfl rfl (by decide +kernel) ⟨Nat.le_of_ble_eq_true rfl, Nat.le_of_ble_eq_true rfl⟩) ⟨KW.blind, fun U9 hU9 hW9 => ⟨rfl, KW.pre hBs hKK hS hP U9 hU9 hW9⟩⟩ rfl rfl hl.1 rfl (lv_room (Nat.le_of_ble_eq_true rfl)) dX7_close_124 ⟨(Nat.le_of_ble_eq_true rfl), (Nat.le_of_ble_eq_true rfl)⟩) hS (fun r124 m124 H locs hq9 hP hz9 hS => ?_)
                    obtain ⟨he9, rfl⟩ := hq9
                    rw [he9] at hP
                    have hne124 := ne_lt (p := r1) (by omega)
                    refine lv_iload hx hb dX7_close_127 (lv_at hl 4 rfl) ?_
                    refine kc_l (va_runV (As := [.int (nI s9), .int (nI (ne r1)), .int (nI q1)]) (rest := [.long r117, .int (nI q1), .int (nI p1), .int (nI s9), .ref md]) ⟨hx, hb, hml, hown, hts⟩ (c_X7_sumOf l G B (mu μ ab (.inl (G.2 0, 3744, .inr (.inl f1)))) md ab av c1 c2 c3 c4 c5 c6 c7 c8 c9 fl st f1 v s9 (ne r1) q1 ((mu_n ne0_1).trans (hm)) (mu_s _ _ _) ((mu_n ((mp_ne hav hab (by simp)))).trans (hav)) (by omega) (by omega) (by omega)) (cwV 3 hts gX7_close_X7_sumOf rfl rfl rfl (by decide +kernel) ⟨Nat.le_of_ble_eq_true rfl, Nat.le_of_ble_eq_true rfl⟩) ⟨KW.blind, hP.recv hK rfl ((mu_n ne0_1).trans (hm)), fun U9 hU9 hW9 => ⟨rfl, KW.pre hBs hKK hS hP U9 hU9 hW9⟩⟩ rfl rfl hl.1 rfl (lv_room (Nat.le_of_ble_eq_true rfl)) dX7_close_129 ⟨(Nat.le_of_ble_eq_true rfl), (Nat.le_of_ble_eq_true rfl)⟩) hS (fun r129 m129 H locs hq9 hP hz9 hS => ?_)
                    obtain ⟨he9, hr129⟩ := hq9
                    rw [he9] at hP
                    refine kc_l (va_runS (As := [.long r117, .long r129]) (rest := [.int (nI q1), .int (nI p1), .int (nI s9), .ref md]) ⟨hx, hb, hml, hown, hts⟩ (c_X7_sum l G B (mu μ ab (.inl (G.2 0, 3744, .inr (.inl f1)))) r117 r129) (va_cwS 2 hts gX7_close_X7_sum rfl rfl rfl (by decide +kernel) ⟨Nat.le_of_ble_eq_true rfl, Nat.le_of_ble_eq_true rfl⟩) ⟨KW.blind, fun U9 hU9 hW9 => ⟨rfl, KW.pre hBs hKK hS hP U9 hU9 hW9⟩⟩ rfl rfl hl.1 rfl (lv_room (Nat.le_of_ble_eq_true rfl)) dX7_close_132 ⟨(Nat.le_of_ble_eq_true rfl), (Nat.le_of_ble_eq_true rfl)⟩) hS (fun r132 m132 H locs hq9 hP hz9 hS => ?_)
                    obtain ⟨he9, hr132⟩ := hq9
                    rw [he9] at hP
                    refine kc_i (va_runV (As := [.int (nI s9), .int (nI p1), .int (nI q1), .long r132]) (rest := []) ⟨hx, hb, hml, hown, hts⟩ (c_X7_lessen l G B (mu μ ab (.inl (G.2 0, 3744, .inr (.inl f1)))) md ab av c1 c2 c3 c4 c5 c6 c7 c8 c9 fl st f1 v s9 p1 q1 r132 ((mu_n ne0_1).trans (hm)) (mu_s _ _ _) ((mu_n ((mp_ne hav hab (by simp)))).trans (hav)) (by omega) (by omega) (by omega) hv0 (fun _ _ => z_nn (by rw [hr132, hr117, hr129]; exact smz (hz.so (by omega) (by omega)) (hz.so (by omega) (by omega)) : r132 = INF ∨ r132 = 0))) (cwV 4 hts gX7_close_X7_lessen rfl rfl rfl (by decide +kernel) ⟨Nat.le_of_ble_eq_true rfl, Nat.le_of_ble_eq_true rfl⟩) ⟨KW.blind, hP.recv hK rfl ((mu_n ne0_1).trans (hm)), fun U9 hU9 hW9 => ⟨rfl, KW.pre hBs hKK hS hP U9 hU9 hW9⟩⟩ rfl rfl hl.1 rfl (lv_room (Nat.le_of_ble_eq_true rfl)) dX7_close_135 ⟨(Nat.le_of_ble_eq_true rfl), (Nat.le_of_ble_eq_true rfl)⟩) hS (fun r135 m135 H locs hq9 hP hz9 hS => ?_)
                    have hq8 : ∃ (b135 : Nat) (f135 : Nat → Int64), r135 = nI b135 ∧ b135 ≤ 1 ∧ m135 = mu (mu μ ab (.inl (G.2 0, 3744, .inr (.inl f1)))) ab (.inl (G.2 0, 3744, .inr (.inl f135))) ∧ Zs f135 s9 ∧ cn f135 s9 144 ≤ cn f1 s9 144 ∧ (b135 = 1 → cn f135 s9 144 < cn f1 s9 144) := by
                      rcases hq9 with ⟨h1, h2, -⟩ | ⟨h1, h2, -, h3, h4⟩
                      · exact ⟨0, _, h1, by omega, h2.trans (mu_i (mu_s _ _ _)).symm, hz, Nat.le_refl _, fun e9 => absurd e9 (by omega)⟩
                      · exact ⟨1, _, h1, by omega, h4, (ls_z hz (by omega) (by omega) (by rw [hr132, hr117, hr129]; exact smz (hz.so (by omega) (by omega)) (hz.so (by omega) (by omega)) : r132 = INF ∨ r132 = 0) h2 h3).1, Nat.le_of_lt (ls_z hz (by omega) (by omega) (by rw [hr132, hr117, hr129]; exact smz (hz.so (by omega) (by omega)) (hz.so (by omega) (by omega)) : r132 = INF ∨ r132 = 0) h2 h3).2, fun _ => (ls_z hz (by omega) (by omega) (by rw [hr132, hr117, hr129]; exact smz (hz.so (by omega) (by omega)) (hz.so (by omega) (by omega)) : r132 = INF ∨ r132 = 0) h2 h3).2⟩
                    obtain ⟨b135, f135, hb9, hb135, he9, hz135, hl135, hlt135⟩ := hq8
                    subst hb9
                    rw [he9] at hP
                    have hP : mw G.1 vwCl B (mu μ ab (.inl (G.2 0, 3744, .inr (.inl f135)))) _ := mw_eq (mu_u _ _ _ _) hP
                    have hz := hz135
                    refine lv_istore (lv' := [(7, .int (nI b135)), (0, .ref md), (1, .int (nI s9)), (2, .int (nI m1)), (3, .int (nI p1)), (4, .int (nI q1)), (6, .int (nI r1))]) hx hb dX7_close_138 hl (by decide) rfl (fun ls hl => ?_)
                    refine lv_iload_n hx hb dX7_close_140 rfl (lv_at hl 3 rfl) ?_
                    refine lv_if_ne (tgt := 149) hx hb dX7_close_141 (by decide) (fun hc141 => ?_) (fun hc141 => ?_)
                    · refine lv_iconst (v := nI 1) hx hb dX7_close_149 (by decide) ?_
                      refine lv_goto (tgt := 154) hx hb dX7_close_150 (by decide) ?_
                      refine lv_istore_n (lv' := [(2, .int (nI 1)), (7, .int (nI b135)), (0, .ref md), (1, .int (nI s9)), (3, .int (nI p1)), (4, .int (nI q1)), (6, .int (nI r1))]) hx hb dX7_close_154 rfl hl (by decide) rfl (fun ls hl => ?_)
                      refine lv_iinc (v := nI (r1 + 1)) (lv' := [(6, .int (nI (r1 + 1))), (2, .int (nI 1)), (7, .int (nI b135)), (0, .ref md), (1, .int (nI s9)), (3, .int (nI p1)), (4, .int (nI q1))]) hx hb dX7_close_155 hl (k := 6) rfl (nI_add _ _) (by decide) rfl (fun ls hl => ?_)
                      refine lv_goto (tgt := 100) hx hb dX7_close_158 (by decide) ?_
                      exact ih100 (r1 + 1) 1 f135 (by omega) (by omega) (by omega) (by omega) (hz) (by intro em; first | omega | exact hlt em | (have h1 := hlt (nb_1 hm1 hc83); omega) | (have h1 := hlt69 (nb_1 hb69 hc72); omega) | (have h1 := hlt (nb_1 hm1 hc141); omega) | (have h1 := hlt135 (nb_1 hb135 hc146); omega)) (by first | omega | exact Nat.le_refl _) _ _ hP hS ls (lv_sub hl [3, 4, 1, 5, 6, 0] rfl)
                    · refine lv_iload hx hb dX7_close_144 (lv_at hl 0 rfl) ?_
                      refine lv_if_eq (tgt := 153) hx hb dX7_close_146 (by decide) (fun hc146 => ?_) (fun hc146 => ?_)
                      · refine lv_iconst (v := nI 0) hx hb dX7_close_153 (by decide) ?_
                        refine lv_istore_n (lv' := [(2, .int (nI 0)), (7, .int (nI b135)), (0, .ref md), (1, .int (nI s9)), (3, .int (nI p1)), (4, .int (nI q1)), (6, .int (nI r1))]) hx hb dX7_close_154 rfl hl (by decide) rfl (fun ls hl => ?_)
                        refine lv_iinc (v := nI (r1 + 1)) (lv' := [(6, .int (nI (r1 + 1))), (2, .int (nI 0)), (7, .int (nI b135)), (0, .ref md), (1, .int (nI s9)), (3, .int (nI p1)), (4, .int (nI q1))]) hx hb dX7_close_155 hl (k := 6) rfl (nI_add _ _) (by decide) rfl (fun ls hl => ?_)
                        refine lv_goto (tgt := 100) hx hb dX7_close_158 (by decide) ?_
                        exact ih100 (r1 + 1) 0 f135 (by omega) (by omega) (by omega) (by omega) (hz) (by intro em; first | omega | exact hlt em | (have h1 := hlt (nb_1 hm1 hc83); omega) | (have h1 := hlt69 (nb_1 hb69 hc72); omega) | (have h1 := hlt (nb_1 hm1 hc141); omega) | (have h1 := hlt135 (nb_1 hb135 hc146); omega)) (by first | omega | exact Nat.le_refl _) _ _ hP hS ls (lv_sub hl [3, 4, 1, 5, 6, 0] rfl)
                      · refine lv_iconst (v := nI 1) hx hb dX7_close_149 (by decide) ?_
                        refine lv_goto (tgt := 154) hx hb dX7_close_150 (by decide) ?_
                        refine lv_istore_n (lv' := [(2, .int (nI 1)), (7, .int (nI b135)), (0, .ref md), (1, .int (nI s9)), (3, .int (nI p1)), (4, .int (nI q1)), (6, .int (nI r1))]) hx hb dX7_close_154 rfl hl (by decide) rfl (fun ls hl => ?_)
                        refine lv_iinc (v := nI (r1 + 1)) (lv' := [(6, .int (nI (r1 + 1))), (2, .int (nI 1)), (7, .int (nI b135)), (0, .ref md), (1, .int (nI s9)), (3, .int (nI p1)), (4, .int (nI q1))]) hx hb dX7_close_155 hl (k := 6) rfl (nI_add _ _) (by decide) rfl (fun ls hl => ?_)
                        refine lv_goto (tgt := 100) hx hb dX7_close_158 (by decide) ?_
                        exact ih100 (r1 + 1) 1 f135 (by omega) (by omega) (by omega) (by omega) (hz) (by intro em; first | omega | exact hlt em | (have h1 := hlt (nb_1 hm1 hc83); omega) | (have h1 := hlt69 (nb_1 hb69 hc72); omega) | (have h1 := hlt (nb_1 hm1 hc141); omega) | (have h1 := hlt135 (nb_1 hb135 hc146); omega)) (by first | omega | exact Nat.le_refl _) _ _ hP hS ls (lv_sub hl [3, 4, 1, 5, 6, 0] rfl)
              refine lv_iload hx hb dX7_close_32 (lv_at hl 4 rfl) ?_
              refine lv_bipush (v := nI 12) hx hb dX7_close_34 (by decide) ?_
              refine nv_icmp_ge (tgt := 167) hx hb (by omega) (by omega) dX7_close_36 (by decide) (fun hc36 => ?_) (fun hc36 => ?_)
              · refine lv_iinc (v := nI (p1 + 1)) (lv' := [(3, .int (nI (p1 + 1))), (0, .ref md), (1, .int (nI s9)), (2, .int (nI m1)), (4, .int (nI q1))]) hx hb dX7_close_167 hl (k := 3) rfl (nI_add _ _) (by decide) rfl (fun ls hl => ?_)
                refine lv_goto (tgt := 23) hx hb dX7_close_170 (by decide) ?_
                exact ih23 (p1 + 1) m1 f1 (by omega) (by omega) (by first | exact hm01 | exact nb_1 hm0 hc16) (by omega) (hz) (by intro em; first | omega | exact hlt em | (have h1 := hlt (nb_1 hm1 hc83); omega) | (have h1 := hlt69 (nb_1 hb69 hc72); omega) | (have h1 := hlt (nb_1 hm1 hc141); omega) | (have h1 := hlt135 (nb_1 hb135 hc146); omega)) (by first | omega | exact Nat.le_refl _) _ _ hP hS ls (lv_sub hl [1, 2, 3, 0] rfl)
              · refine lv_iload_n hx hb dX7_close_39 rfl (lv_at hl 3 rfl) ?_
                refine lv_iload hx hb dX7_close_40 (lv_at hl 4 rfl) ?_
                refine nv_icmp_eq (tgt := 79) hx hb (by omega) (by omega) dX7_close_42 (by decide) (fun hc42 => ?_) (fun hc42 => ?_)
                · refine lv_iconst (v := nI 0) hx hb dX7_close_79 (by decide) ?_
                  refine lv_istore (lv' := [(5, .int (nI 0)), (0, .ref md), (1, .int (nI s9)), (2, .int (nI m1)), (3, .int (nI p1)), (4, .int (nI q1))]) hx hb dX7_close_80 hl (by decide) rfl (fun ls hl => ?_)
                  refine lv_iload_n hx hb dX7_close_82 rfl (lv_at hl 3 rfl) ?_
                  refine lv_if_ne (tgt := 91) hx hb dX7_close_83 (by decide) (fun hc83 => ?_) (fun hc83 => ?_)
                  · refine lv_iconst (v := nI 1) hx hb dX7_close_91 (by decide) ?_
                    refine lv_goto (tgt := 96) hx hb dX7_close_92 (by decide) ?_
                    refine lv_istore_n (lv' := [(2, .int (nI 1)), (5, .int (nI 0)), (0, .ref md), (1, .int (nI s9)), (3, .int (nI p1)), (4, .int (nI q1))]) hx hb dX7_close_96 rfl hl (by decide) rfl (fun ls hl => ?_)
                    refine lv_iconst (v := nI 0) hx hb dX7_close_97 (by decide) ?_
                    refine lv_istore (lv' := [(6, .int (nI 0)), (2, .int (nI 1)), (5, .int (nI 0)), (0, .ref md), (1, .int (nI s9)), (3, .int (nI p1)), (4, .int (nI q1))]) hx hb dX7_close_98 hl (by decide) rfl (fun ls hl => ?_)
                    exact L100 _ 0 1 f1 (Nat.lt_succ_self _) (by omega) (by omega) (by omega) (hz) (by intro em; first | omega | exact hlt em | (have h1 := hlt (nb_1 hm1 hc83); omega) | (have h1 := hlt69 (nb_1 hb69 hc72); omega) | (have h1 := hlt (nb_1 hm1 hc141); omega) | (have h1 := hlt135 (nb_1 hb135 hc146); omega)) (by first | omega | exact Nat.le_refl _) _ _ hP hS ls (lv_sub hl [3, 4, 1, 5, 6, 0] rfl)
                  · refine lv_iload hx hb dX7_close_86 (lv_at hl 0 rfl) ?_
                    refine lv_if_eq (tgt := 95) hx hb dX7_close_88 (by decide) (fun hc88 => ?_) (fun hc88 => ?_)
                    · refine lv_iconst (v := nI 0) hx hb dX7_close_95 (by decide) ?_
                      refine lv_istore_n (lv' := [(2, .int (nI 0)), (5, .int (nI 0)), (0, .ref md), (1, .int (nI s9)), (3, .int (nI p1)), (4, .int (nI q1))]) hx hb dX7_close_96 rfl hl (by decide) rfl (fun ls hl => ?_)
                      refine lv_iconst (v := nI 0) hx hb dX7_close_97 (by decide) ?_
                      refine lv_istore (lv' := [(6, .int (nI 0)), (2, .int (nI 0)), (5, .int (nI 0)), (0, .ref md), (1, .int (nI s9)), (3, .int (nI p1)), (4, .int (nI q1))]) hx hb dX7_close_98 hl (by decide) rfl (fun ls hl => ?_)
                      exact L100 _ 0 0 f1 (Nat.lt_succ_self _) (by omega) (by omega) (by omega) (hz) (by intro em; first | omega | exact hlt em | (have h1 := hlt (nb_1 hm1 hc83); omega) | (have h1 := hlt69 (nb_1 hb69 hc72); omega) | (have h1 := hlt (nb_1 hm1 hc141); omega) | (have h1 := hlt135 (nb_1 hb135 hc146); omega)) (by first | omega | exact Nat.le_refl _) _ _ hP hS ls (lv_sub hl [3, 4, 1, 5, 6, 0] rfl)
                    · exact absurd rfl hc88
                · refine lv_aload_n hx hb dX7_close_45 rfl (lv_at hl 0 rfl) ?_
                  refine lv_iload_n hx hb dX7_close_46 rfl (lv_at hl 1 rfl) ?_
                  refine lv_iload_n hx hb dX7_close_47 rfl (lv_at hl 3 rfl) ?_
                  refine lv_iload hx hb dX7_close_48 (lv_at hl 4 rfl) ?_
                  refine lv_aload_n hx hb dX7_close_50 rfl (lv_at hl 0 rfl) ?_
                  refine lv_iload_n hx hb dX7_close_51 rfl (lv_at hl 1 rfl) ?_
                  refine lv_iload_n hx hb dX7_close_52 rfl (lv_at hl 3 rfl) ?_
                  refine lv_iload_n hx hb dX7_close_53 rfl (lv_at hl 3 rfl) ?_
                  refine kc_l (va_runV (As := [.int (nI s9), .int (nI p1), .int (nI p1)]) (rest := [.int (nI q1), .int (nI p1), .int (nI s9), .ref md]) ⟨hx, hb, hml, hown, hts⟩ (c_X7_get l G B (mu μ ab (.inl (G.2 0, 3744, .inr (.inl f1)))) md ab av c1 c2 c3 c4 c5 c6 c7 c8 c9 fl st f1 v s9 p1 p1 ((mu_n ne0_1).trans (hm)) (mu_s _ _ _) ((mu_n ((mp_ne hav hab (by simp)))).trans (hav)) (by omega) (by omega) (by omega)) (cwV 3 hts gX7_close_X7_get rfl rfl rfl (by decide +kernel) ⟨Nat.le_of_ble_eq_true rfl, Nat.le_of_ble_eq_true rfl⟩) ⟨KW.blind, hP.recv hK rfl ((mu_n ne0_1).trans (hm)), fun U9 hU9 hW9 => ⟨rfl, KW.pre hBs hKK hS hP U9 hU9 hW9⟩⟩ rfl rfl hl.1 rfl (lv_room (Nat.le_of_ble_eq_true rfl)) dX7_close_54 ⟨(Nat.le_of_ble_eq_true rfl), (Nat.le_of_ble_eq_true rfl)⟩) hS (fun r54 m54 H locs hq9 hP hz9 hS => ?_)
                  obtain ⟨he9, hr54⟩ := hq9
                  rw [he9] at hP
                  refine lv_aload_n hx hb dX7_close_57 rfl (lv_at hl 0 rfl) ?_
                  refine lv_iload_n hx hb dX7_close_58 rfl (lv_at hl 1 rfl) ?_
                  refine lv_iload hx hb dX7_close_59 (lv_at hl 4 rfl) ?_
                  refine lv_iload hx hb dX7_close_61 (lv_at hl 4 rfl) ?_
                  refine kc_l (va_runV (As := [.int (nI s9), .int (nI q1), .int (nI q1)]) (rest := [.long r54, .int (nI q1), .int (nI p1), .int (nI s9), .ref md]) ⟨hx, hb, hml, hown, hts⟩ (c_X7_get l G B (mu μ ab (.inl (G.2 0, 3744, .inr (.inl f1)))) md ab av c1 c2 c3 c4 c5 c6 c7 c8 c9 fl st f1 v s9 q1 q1 ((mu_n ne0_1).trans (hm)) (mu_s _ _ _) ((mu_n ((mp_ne hav hab (by simp)))).trans (hav)) (by omega) (by omega) (by omega)) (cwV 3 hts gX7_close_X7_get rfl rfl rfl (by decide +kernel) ⟨Nat.le_of_ble_eq_true rfl, Nat.le_of_ble_eq_true rfl⟩) ⟨KW.blind, hP.recv hK rfl ((mu_n ne0_1).trans (hm)), fun U9 hU9 hW9 => ⟨rfl, KW.pre hBs hKK hS hP U9 hU9 hW9⟩⟩ rfl rfl hl.1 rfl (lv_room (Nat.le_of_ble_eq_true rfl)) dX7_close_63 ⟨(Nat.le_of_ble_eq_true rfl), (Nat.le_of_ble_eq_true rfl)⟩) hS (fun r63 m63 H locs hq9 hP hz9 hS => ?_)
                  obtain ⟨he9, hr63⟩ := hq9
                  rw [he9] at hP
                  refine kc_l (va_runS (As := [.long r54, .long r63]) (rest := [.int (nI q1), .int (nI p1), .int (nI s9), .ref md]) ⟨hx, hb, hml, hown, hts⟩ (c_X7_sum l G B (mu μ ab (.inl (G.2 0, 3744, .inr (.inl f1)))) r54 r63) (va_cwS 2 hts gX7_close_X7_sum rfl rfl rfl (by decide +kernel) ⟨Nat.le_of_ble_eq_true rfl, Nat.le_of_ble_eq_true rfl⟩) ⟨KW.blind, fun U9 hU9 hW9 => ⟨rfl, KW.pre hBs hKK hS hP U9 hU9 hW9⟩⟩ rfl rfl hl.1 rfl (lv_room (Nat.le_of_ble_eq_true rfl)) dX7_close_66 ⟨(Nat.le_of_ble_eq_true rfl), (Nat.le_of_ble_eq_true rfl)⟩) hS (fun r66 m66 H locs hq9 hP hz9 hS => ?_)
                  obtain ⟨he9, hr66⟩ := hq9
                  rw [he9] at hP
                  refine kc_i (va_runV (As := [.int (nI s9), .int (nI p1), .int (nI q1), .long r66]) (rest := []) ⟨hx, hb, hml, hown, hts⟩ (c_X7_lessen l G B (mu μ ab (.inl (G.2 0, 3744, .inr (.inl f1)))) md ab av c1 c2 c3 c4 c5 c6 c7 c8 c9 fl st f1 v s9 p1 q1 r66 ((mu_n ne0_1).trans (hm)) (mu_s _ _ _) ((mu_n ((mp_ne hav hab (by simp)))).trans (hav)) (by omega) (by omega) (by omega) hv0 (fun _ _ => z_nn (by rw [hr66, hr54, hr63]; exact smz (hz.g (by omega) (by omega)) (hz.g (by omega) (by omega)) : r66 = INF ∨ r66 = 0))) (cwV 4 hts gX7_close_X7_lessen rfl rfl rfl (by decide +kernel) ⟨Nat.le_of_ble_eq_true rfl, Nat.le_of_ble_eq_true rfl⟩) ⟨KW.blind, hP.recv hK rfl ((mu_n ne0_1).trans (hm)), fun U9 hU9 hW9 => ⟨rfl, KW.pre hBs hKK hS hP U9 hU9 hW9⟩⟩ rfl rfl hl.1 rfl (lv_room (Nat.le_of_ble_eq_true rfl)) dX7_close_69 ⟨(Nat.le_of_ble_eq_true rfl), (Nat.le_of_ble_eq_true rfl)⟩) hS (fun r69 m69 H locs hq9 hP hz9 hS => ?_)
                  have hq8 : ∃ (b69 : Nat) (f69 : Nat → Int64), r69 = nI b69 ∧ b69 ≤ 1 ∧ m69 = mu (mu μ ab (.inl (G.2 0, 3744, .inr (.inl f1)))) ab (.inl (G.2 0, 3744, .inr (.inl f69))) ∧ Zs f69 s9 ∧ cn f69 s9 144 ≤ cn f1 s9 144 ∧ (b69 = 1 → cn f69 s9 144 < cn f1 s9 144) := by
                    rcases hq9 with ⟨h1, h2, -⟩ | ⟨h1, h2, -, h3, h4⟩
                    · exact ⟨0, _, h1, by omega, h2.trans (mu_i (mu_s _ _ _)).symm, hz, Nat.le_refl _, fun e9 => absurd e9 (by omega)⟩
                    · exact ⟨1, _, h1, by omega, h4, (ls_z hz (by omega) (by omega) (by rw [hr66, hr54, hr63]; exact smz (hz.g (by omega) (by omega)) (hz.g (by omega) (by omega)) : r66 = INF ∨ r66 = 0) h2 h3).1, Nat.le_of_lt (ls_z hz (by omega) (by omega) (by rw [hr66, hr54, hr63]; exact smz (hz.g (by omega) (by omega)) (hz.g (by omega) (by omega)) : r66 = INF ∨ r66 = 0) h2 h3).2, fun _ => (ls_z hz (by omega) (by omega) (by rw [hr66, hr54, hr63]; exact smz (hz.g (by omega) (by omega)) (hz.g (by omega) (by omega)) : r66 = INF ∨ r66 = 0) h2 h3).2⟩
                  obtain ⟨b69, f69, hb9, hb69, he9, hz69, hl69, hlt69⟩ := hq8
                  subst hb9
                  rw [he9] at hP
                  have hP : mw G.1 vwCl B (mu μ ab (.inl (G.2 0, 3744, .inr (.inl f69)))) _ := mw_eq (mu_u _ _ _ _) hP
                  have hz := hz69
                  refine lv_if_eq (tgt := 79) hx hb dX7_close_72 (by decide) (fun hc72 => ?_) (fun hc72 => ?_)
                  · refine lv_iconst (v := nI 0) hx hb dX7_close_79 (by decide) ?_
                    refine lv_istore (lv' := [(5, .int (nI 0)), (0, .ref md), (1, .int (nI s9)), (2, .int (nI m1)), (3, .int (nI p1)), (4, .int (nI q1))]) hx hb dX7_close_80 hl (by decide) rfl (fun ls hl => ?_)
                    refine lv_iload_n hx hb dX7_close_82 rfl (lv_at hl 3 rfl) ?_
                    refine lv_if_ne (tgt := 91) hx hb dX7_close_83 (by decide) (fun hc83 => ?_) (fun hc83 => ?_)
                    · refine lv_iconst (v := nI 1) hx hb dX7_close_91 (by decide) ?_
                      refine lv_goto (tgt := 96) hx hb dX7_close_92 (by decide) ?_
                      refine lv_istore_n (lv' := [(2, .int (nI 1)), (5, .int (nI 0)), (0, .ref md), (1, .int (nI s9)), (3, .int (nI p1)), (4, .int (nI q1))]) hx hb dX7_close_96 rfl hl (by decide) rfl (fun ls hl => ?_)
                      refine lv_iconst (v := nI 0) hx hb dX7_close_97 (by decide) ?_
                      refine lv_istore (lv' := [(6, .int (nI 0)), (2, .int (nI 1)), (5, .int (nI 0)), (0, .ref md), (1, .int (nI s9)), (3, .int (nI p1)), (4, .int (nI q1))]) hx hb dX7_close_98 hl (by decide) rfl (fun ls hl => ?_)
                      exact L100 _ 0 1 f69 (Nat.lt_succ_self _) (by omega) (by omega) (by omega) (hz) (by intro em; first | omega | exact hlt em | (have h1 := hlt (nb_1 hm1 hc83); omega) | (have h1 := hlt69 (nb_1 hb69 hc72); omega) | (have h1 := hlt (nb_1 hm1 hc141); omega) | (have h1 := hlt135 (nb_1 hb135 hc146); omega)) (by first | omega | exact Nat.le_refl _) _ _ hP hS ls (lv_sub hl [3, 4, 1, 5, 6, 0] rfl)
                    · refine lv_iload hx hb dX7_close_86 (lv_at hl 0 rfl) ?_
                      refine lv_if_eq (tgt := 95) hx hb dX7_close_88 (by decide) (fun hc88 => ?_) (fun hc88 => ?_)
                      · refine lv_iconst (v := nI 0) hx hb dX7_close_95 (by decide) ?_
                        refine lv_istore_n (lv' := [(2, .int (nI 0)), (5, .int (nI 0)), (0, .ref md), (1, .int (nI s9)), (3, .int (nI p1)), (4, .int (nI q1))]) hx hb dX7_close_96 rfl hl (by decide) rfl (fun ls hl => ?_)
                        refine lv_iconst (v := nI 0) hx hb dX7_close_97 (by decide) ?_
                        refine lv_istore (lv' := [(6, .int (nI 0)), (2, .int (nI 0)), (5, .int (nI 0)), (0, .ref md), (1, .int (nI s9)), (3, .int (nI p1)), (4, .int (nI q1))]) hx hb dX7_close_98 hl (by decide) rfl (fun ls hl => ?_)
                        exact L100 _ 0 0 f69 (Nat.lt_succ_self _) (by omega) (by omega) (by omega) (hz) (by intro em; first | omega | exact hlt em | (have h1 := hlt (nb_1 hm1 hc83); omega) | (have h1 := hlt69 (nb_1 hb69 hc72); omega) | (have h1 := hlt (nb_1 hm1 hc141); omega) | (have h1 := hlt135 (nb_1 hb135 hc146); omega)) (by first | omega | exact Nat.le_refl _) _ _ hP hS ls (lv_sub hl [3, 4, 1, 5, 6, 0] rfl)
                      · exact absurd rfl hc88
                  · refine lv_iconst (v := nI 1) hx hb dX7_close_75 (by decide) ?_
                    refine lv_goto (tgt := 80) hx hb dX7_close_76 (by decide) ?_
                    refine lv_istore (lv' := [(5, .int (nI 1)), (0, .ref md), (1, .int (nI s9)), (2, .int (nI m1)), (3, .int (nI p1)), (4, .int (nI q1))]) hx hb dX7_close_80 hl (by decide) rfl (fun ls hl => ?_)
                    refine lv_iload_n hx hb dX7_close_82 rfl (lv_at hl 3 rfl) ?_
                    refine lv_if_ne (tgt := 91) hx hb dX7_close_83 (by decide) (fun hc83 => ?_) (fun hc83 => ?_)
                    · refine lv_iconst (v := nI 1) hx hb dX7_close_91 (by decide) ?_
                      refine lv_goto (tgt := 96) hx hb dX7_close_92 (by decide) ?_
                      refine lv_istore_n (lv' := [(2, .int (nI 1)), (5, .int (nI 1)), (0, .ref md), (1, .int (nI s9)), (3, .int (nI p1)), (4, .int (nI q1))]) hx hb dX7_close_96 rfl hl (by decide) rfl (fun ls hl => ?_)
                      refine lv_iconst (v := nI 0) hx hb dX7_close_97 (by decide) ?_
                      refine lv_istore (lv' := [(6, .int (nI 0)), (2, .int (nI 1)), (5, .int (nI 1)), (0, .ref md), (1, .int (nI s9)), (3, .int (nI p1)), (4, .int (nI q1))]) hx hb dX7_close_98 hl (by decide) rfl (fun ls hl => ?_)
                      exact L100 _ 0 1 f69 (Nat.lt_succ_self _) (by omega) (by omega) (by omega) (hz) (by intro em; first | omega | exact hlt em | (have h1 := hlt (nb_1 hm1 hc83); omega) | (have h1 := hlt69 (nb_1 hb69 hc72); omega) | (have h1 := hlt (nb_1 hm1 hc141); omega) | (have h1 := hlt135 (nb_1 hb135 hc146); omega)) (by first | omega | exact Nat.le_refl _) _ _ hP hS ls (lv_sub hl [3, 4, 1, 5, 6, 0] rfl)
                    · refine lv_iload hx hb dX7_close_86 (lv_at hl 0 rfl) ?_
                      refine lv_if_eq (tgt := 95) hx hb dX7_close_88 (by decide) (fun hc88 => ?_) (fun hc88 => ?_)
                      · exact absurd hc88 (by decide)
                      · refine lv_iconst (v := nI 1) hx hb dX7_close_91 (by decide) ?_
                        refine lv_goto (tgt := 96) hx hb dX7_close_92 (by decide) ?_
                        refine lv_istore_n (lv' := [(2, .int (nI 1)), (5, .int (nI 1)), (0, .ref md), (1, .int (nI s9)), (3, .int (nI p1)), (4, .int (nI q1))]) hx hb dX7_close_96 rfl hl (by decide) rfl (fun ls hl => ?_)
                        refine lv_iconst (v := nI 0) hx hb dX7_close_97 (by decide) ?_
                        refine lv_istore (lv' := [(6, .int (nI 0)), (2, .int (nI 1)), (5, .int (nI 1)), (0, .ref md), (1, .int (nI s9)), (3, .int (nI p1)), (4, .int (nI q1))]) hx hb dX7_close_98 hl (by decide) rfl (fun ls hl => ?_)
                        exact L100 _ 0 1 f69 (Nat.lt_succ_self _) (by omega) (by omega) (by omega) (hz) (by intro em; first | omega | exact hlt em | (have h1 := hlt (nb_1 hm1 hc83); omega) | (have h1 := hlt69 (nb_1 hb69 hc72); omega) | (have h1 := hlt (nb_1 hm1 hc141); omega) | (have h1 := hlt135 (nb_1 hb135 hc146); omega)) (by first | omega | exact Nat.le_refl _) _ _ hP hS ls (lv_sub hl [3, 4, 1, 5, 6, 0] rfl)
          refine lv_iload_n hx hb dX7_close_23 rfl (lv_at hl 3 rfl) ?_
          refine lv_bipush (v := nI 12) hx hb dX7_close_24 (by decide) ?_
          refine nv_icmp_ge (tgt := 173) hx hb (by omega) (by omega) dX7_close_26 (by decide) (fun hc26 => ?_) (fun hc26 => ?_)
          · refine lv_iload_n hx hb dX7_close_173 rfl (lv_at hl 2 rfl) ?_
            refine lv_if_eq (tgt := 190) hx hb dX7_close_174 (by decide) (fun hc174 => ?_) (fun hc174 => ?_)
            · refine lv_iconst (v := nI 0) hx hb dX7_close_190 (by decide) ?_
              refine lv_istore_n (lv' := [(2, .int (nI 0)), (0, .ref md), (1, .int (nI s9)), (3, .int (nI p1))]) hx hb dX7_close_191 rfl hl (by decide) rfl (fun ls hl => ?_)
              refine lv_goto (tgt := 15) hx hb dX7_close_192 (by decide) ?_
              exact ih15 0 f1 (by first | (have h2 := hlt (nb_1 hm1 hc174); omega) | omega) (by omega) (hz) _ _ hP hS ls (lv_sub hl [1, 2, 0] rfl)
            · refine lv_aload_n hx hb dX7_close_177 rfl (lv_at hl 0 rfl) ?_
              refine mw_get (C := RX7) (T := TX7) (N := 13) hx hb hts in_X7_close_X7 hown hK hP ((mu_n ne0_1).trans (hm)) rfl 2 (by decide) (hts (.fieldLink RX7 13 "OctagonDeskModel" "isVoid" "[Z") (by decide +kernel)) (fun _ h9 => h9) rfl dX7_close_178 ?_
              refine lv_iload_n hx hb dX7_close_181 rfl (lv_at hl 1 rfl) ?_
              refine mw_zald hx hb hK hP 2 ((mu_n ((mp_ne hav hab (by simp)))).trans (hav)) rfl (by omega) (by omega) dX7_close_182 ?_
              refine lv_if_ne (tgt := 190) hx hb dX7_close_183 (by decide) (fun hc183 => ?_) (fun hc183 => ?_)
              · exact absurd hv0 hc183
              · refine lv_iconst (v := nI 1) hx hb dX7_close_186 (by decide) ?_
                refine lv_goto (tgt := 191) hx hb dX7_close_187 (by decide) ?_
                refine lv_istore_n (lv' := [(2, .int (nI 1)), (0, .ref md), (1, .int (nI s9)), (3, .int (nI p1))]) hx hb dX7_close_191 rfl hl (by decide) rfl (fun ls hl => ?_)
                refine lv_goto (tgt := 15) hx hb dX7_close_192 (by decide) ?_
                exact ih15 1 f1 (by first | (have h2 := hlt (nb_1 hm1 hc174); omega) | omega) (by omega) (hz) _ _ hP hS ls (lv_sub hl [1, 2, 0] rfl)
          · refine lv_iconst (v := nI 0) hx hb dX7_close_29 (by decide) ?_
            refine lv_istore (lv' := [(4, .int (nI 0)), (0, .ref md), (1, .int (nI s9)), (2, .int (nI m1)), (3, .int (nI p1))]) hx hb dX7_close_30 hl (by decide) rfl (fun ls hl => ?_)
            exact L32 _ 0 m1 f1 (Nat.lt_succ_self _) (by omega) (by omega) (by omega) (hz) (by intro em; first | omega | exact hlt em | (have h1 := hlt (nb_1 hm1 hc83); omega) | (have h1 := hlt69 (nb_1 hb69 hc72); omega) | (have h1 := hlt (nb_1 hm1 hc141); omega) | (have h1 := hlt135 (nb_1 hb135 hc146); omega)) (by first | omega | exact Nat.le_refl _) _ _ hP hS ls (lv_sub hl [1, 2, 3, 4, 0] rfl)
      refine lv_iload_n hx hb dX7_close_15 rfl (lv_at hl 2 rfl) ?_
      refine lv_if_eq (tgt := 195) hx hb dX7_close_16 (by decide) (fun hc16 => ?_) (fun hc16 => ?_)
      · rw [hQ]
        exact W.vret hx hb hr (fun t99 ht99 hW99 => ⟨⟨mu μ ab (.inl (G.2 0, 3744, .inr (.inl f0))), rfl, (⟨_, rfl, hz⟩), by show mw _ _ _ _ t99.heap; rw [ht99]; exact hP⟩, hS.F ht99⟩) hS.2.2 dX7_close_195
      · refine lv_iconst (v := nI 0) hx hb dX7_close_19 (by decide) ?_
        refine lv_istore_n (lv' := [(2, .int (nI 0)), (0, .ref md), (1, .int (nI s9))]) hx hb dX7_close_20 rfl hl (by decide) rfl (fun ls hl => ?_)
        refine lv_iconst (v := nI 0) hx hb dX7_close_21 (by decide) ?_
        refine lv_istore_n (lv' := [(3, .int (nI 0)), (2, .int (nI 0)), (0, .ref md), (1, .int (nI s9))]) hx hb dX7_close_22 rfl hl (by decide) rfl (fun ls hl => ?_)
        exact L23 _ 0 0 f0 (Nat.lt_succ_self _) (by omega) (by first | exact hm01 | exact nb_1 hm0 hc16) (by omega) (hz) (by intro em; first | omega | exact hlt em | (have h1 := hlt (nb_1 hm1 hc83); omega) | (have h1 := hlt69 (nb_1 hb69 hc72); omega) | (have h1 := hlt (nb_1 hm1 hc141); omega) | (have h1 := hlt135 (nb_1 hb135 hc146); omega)) (by first | omega | exact Nat.le_refl _) _ _ hP hS ls (lv_sub hl [2, 3, 1, 0] rfl)
  have hl := lv_entry ([.ref md, .int (nI s9)]) (n := 8) (Nat.le_of_ble_eq_true rfl)
  have he9 : entryFrame m args 8 = entryFrame m ([.ref md, .int (nI s9)] : List Value).toArray 8 := by rw [hargs]
  rw [he9, lg_entry_eq]
  generalize (lg_sl ([.ref md, .int (nI s9)]) ++ List.replicate (8 - (lg_sl ([.ref md, .int (nI s9)])).length) Slot.unset).toArray = ls at hl ⊢
  have hl : lv_has ls 8 [(0, .ref md), (1, .int (nI s9))] := hl
  refine lv_aload_n hx hb dX7_close_0 rfl (lv_at hl 0 rfl) ?_
  refine mw_get (C := RX7) (T := TX7) (N := 13) hx hb hts in_X7_close_X7 hown hK hP ((mu_n ne0_1).trans (hm)) rfl 2 (by decide) (hts (.fieldLink RX7 13 "OctagonDeskModel" "isVoid" "[Z") (by decide +kernel)) (fun _ h9 => h9) rfl dX7_close_1 ?_
  refine lv_iload_n hx hb dX7_close_4 rfl (lv_at hl 1 rfl) ?_
  refine mw_zald hx hb hK hP 2 ((mu_n ((mp_ne hav hab (by simp)))).trans (hav)) rfl (by omega) (by omega) dX7_close_5 ?_
  refine lv_if_ne (tgt := 13) hx hb dX7_close_6 (by decide) (fun hc6 => ?_) (fun hc6 => ?_)
  · exact absurd hv0 hc6
  · refine lv_iconst (v := nI 1) hx hb dX7_close_9 (by decide) ?_
    refine lv_goto (tgt := 14) hx hb dX7_close_10 (by decide) ?_
    refine lv_istore_n (lv' := [(2, .int (nI 1)), (0, .ref md), (1, .int (nI s9))]) hx hb dX7_close_14 rfl hl (by decide) rfl (fun ls hl => ?_)
    exact L15 _ 1 f (Nat.lt_succ_self _) (by omega) (hzs) _ _ hP hS ls (lv_sub hl [1, 2, 0] rfl)

abbrev rm_X7_load : Room := { frames := 0, cells := 0, slots := 0, locals := 0 }
set_option maxHeartbeats 4000000 in
set_option maxRecDepth 100000 in
theorem c_X7_load (l : Launch) (G : GG) (B : Nat) (μ : mp) (md ab av c1 c2 c3 c4 c5 c6 c7 c8 c9 fl st : Nat) (f : Nat → Int64) (v : Nat → Int32) (t9 a9 : Nat) (hm : μ md = some (.inr (7, [.int (nI fl), .ref ab, .ref av, .int (nI st), .ref c1, .ref c2, .ref c3, .ref c4, .ref c5, .ref c6, .ref c7, .ref c8, .ref c9]))) (hab : μ ab = some (.inl (G.2 0, 3744, .inr (.inl f)))) (hav : μ av = some (.inl (G.2 2, 26, .inl v))) (ht9 : t9 < 26) (ha9 : a9 < 26) (hvb : v a9 = 0 ∨ v a9 = 1) : Met l yX7_load wsX7_load rm_X7_load (va_Pc [.ref md, .int (nI t9), .int (nI a9)] (KW G B μ)) (va_Qv (fun μ2 => ∃ g9 : Nat → Int64, μ2 = mu (mu μ ab (.inl (G.2 0, 3744, .inr (.inl g9)))) av (.inl (G.2 2, 26, .inl (upd v t9 (v a9)))) ∧ Ld f g9 t9 a9 144) (BB G B) (fun q => B ≤ q)) 0 0 (fun q => B ≤ q) := by
  refine Met.ofW (cc := cX7_load) (maxL := 4) (ret := none) (by decide) rfl ?_
  intro p e s m args below meth c s₁ B9 hml hv
  obtain ⟨hargs, hBs, hP, hKK⟩ := hv
  have hx := B9.exec
  have hb := B9.bytes
  have hr := B9.returns
  have hts := atoms_spec (ws := wsX7_load) B9.pre
  have hown : s.vm.findClass RX7 = some m.cls := findClass_of_methodNamed B9.named
  have hlocks := B9.notSynchronized
  have hK := hKK.k
  have hS : va_S (fun q => B ≤ q) s.heap s.heap [] := va_S.rf
  obtain ⟨Q, hQ⟩ : ∃ Q, Q = MQ below (va_Qv (fun μ2 => ∃ g9 : Nat → Int64, μ2 = mu (mu μ ab (.inl (G.2 0, 3744, .inr (.inl g9)))) av (.inl (G.2 2, 26, .inl (upd v t9 (v a9)))) ∧ Ld f g9 t9 a9 144) (BB G B) (fun q => B ≤ q)) args s 0 0 (fun q => B ≤ q) := ⟨_, rfl⟩
  rw [← hQ]
  have ne0_1 : md ≠ ab := mp_ne hm hab (by simp)
  have ne0_2 : md ≠ av := mp_ne hm hav (by simp)
  have in_X7_load_X7 : ∀ w ∈ wsX70, w ∈ wsX7_load := by decide +kernel
  have hP : mw G.1 vwCl B (mu (mu μ ab (.inl (G.2 0, 3744, .inr (.inl f)))) av (.inl (G.2 2, 26, .inl v))) s.heap := mw_eq ((congrArg (fun z => mu z av (.inl (G.2 2, 26, .inl v))) (mu_i hab)).trans (mu_i hav)).symm hP
  have L2 : ∀ (N2 : Nat) (k1 : Nat) (g1 : Nat → Int64) (hN2 : 144 - k1 < N2) (hk1 : k1 ≤ 144) (hL : Ld f g1 t9 a9 k1), ∀ (H : Heap) (locs : List Loc), mw G.1 vwCl B (mu (mu μ ab (.inl (G.2 0, 3744, .inr (.inl g1)))) av (.inl (G.2 2, 26, .inl v))) H → va_S (fun q => B ≤ q) s.heap H locs → ∀ ls : Array Slot, lv_has ls 4 [(0, .ref md), (1, .int (nI t9)), (2, .int (nI a9)), (3, .int (nI k1))] → W p l e rm_X7_load s m args below meth c H locs 0 0 Q (F0 m 2 ls []) := by
    intro N2
    induction N2 with
    | zero => intro k1 g1 hN2; exact absurd hN2 (Nat.not_lt_zero _)
    | succ N2 ih2 =>
      intro k1 g1 hN2 hk1 hL H locs hP hS ls hl
      refine lv_iload_n hx hb dX7_load_2 rfl (lv_at hl 3 rfl) ?_
      refine lv_sipush (v := nI 144) hx hb dX7_load_3 (by decide) ?_
      refine nv_icmp_ge (tgt := 39) hx hb (by omega) (by omega) dX7_load_6 (by decide) (fun hc6 => ?_) (fun hc6 => ?_)
      · refine lv_aload_n hx hb dX7_load_39 rfl (lv_at hl 0 rfl) ?_
        refine mw_get (C := RX7) (T := TX7) (N := 13) hx hb hts in_X7_load_X7 hown hK hP ((mu_n ne0_2).trans ((mu_n ne0_1).trans (hm))) rfl 2 (by decide) (hts (.fieldLink RX7 13 "OctagonDeskModel" "isVoid" "[Z") (by decide +kernel)) (fun _ h9 => h9) rfl dX7_load_40 ?_
        refine lv_iload_n hx hb dX7_load_43 rfl (lv_at hl 1 rfl) ?_
        refine lv_aload_n hx hb dX7_load_44 rfl (lv_at hl 0 rfl) ?_
        refine mw_get (C := RX7) (T := TX7) (N := 13) hx hb hts in_X7_load_X7 hown hK hP ((mu_n ne0_2).trans ((mu_n ne0_1).trans (hm))) rfl 2 (by decide) (hts (.fieldLink RX7 13 "OctagonDeskModel" "isVoid" "[Z") (by decide +kernel)) (fun _ h9 => h9) rfl dX7_load_45 ?_
        refine lv_iload_n hx hb dX7_load_48 rfl (lv_at hl 2 rfl) ?_
        refine mw_zald hx hb hK hP 2 (mu_s _ _ _) rfl (by omega) (by omega) dX7_load_49 ?_
        refine mw_zast hx hb hK hP hS 2 (mu_s _ _ _) rfl (zb_r hvb) (by omega) (by omega) dX7_load_50 (fun H locs hP hS => ?_)
        have hP : mw G.1 vwCl B (mu (mu μ ab (.inl (G.2 0, 3744, .inr (.inl g1)))) av (.inl (G.2 2, 26, .inl (upd v t9 (v a9))))) _ := mw_eq (mu_u _ _ _ _) hP
        rw [hQ]
        exact W.vret hx hb hr (fun t99 ht99 hW99 => ⟨⟨mu (mu μ ab (.inl (G.2 0, 3744, .inr (.inl g1)))) av (.inl (G.2 2, 26, .inl (upd v t9 (v a9)))), rfl, (⟨_, rfl, by have e9 : k1 = 144 := (by omega); subst e9; exact hL⟩), by show mw _ _ _ _ t99.heap; rw [ht99]; exact hP⟩, hS.F ht99⟩) hS.2.2 dX7_load_51
      · refine lv_aload_n hx hb dX7_load_9 rfl (lv_at hl 0 rfl) ?_
        refine mw_get (C := RX7) (T := TX7) (N := 13) hx hb hts in_X7_load_X7 hown hK hP ((mu_n ne0_2).trans ((mu_n ne0_1).trans (hm))) rfl 1 (by decide) (hts (.fieldLink RX7 7 "OctagonDeskModel" "bound" "[J") (by decide +kernel)) (fun _ h9 => h9) rfl dX7_load_10 ?_
        refine lv_sipush (v := nI 144) hx hb dX7_load_13 (by decide) ?_
        refine lv_iload_n hx hb dX7_load_16 rfl (lv_at hl 1 rfl) ?_
        refine nv_imul hx hb dX7_load_17 ?_
        refine lv_iload_n hx hb dX7_load_18 rfl (lv_at hl 3 rfl) ?_
        refine nv_iadd hx hb dX7_load_19 ?_
        refine lv_aload_n hx hb dX7_load_20 rfl (lv_at hl 0 rfl) ?_
        refine mw_get (C := RX7) (T := TX7) (N := 13) hx hb hts in_X7_load_X7 hown hK hP ((mu_n ne0_2).trans ((mu_n ne0_1).trans (hm))) rfl 1 (by decide) (hts (.fieldLink RX7 7 "OctagonDeskModel" "bound" "[J") (by decide +kernel)) (fun _ h9 => h9) rfl dX7_load_21 ?_
        refine lv_sipush (v := nI 144) hx hb dX7_load_24 (by decide) ?_
        refine lv_iload_n hx hb dX7_load_27 rfl (lv_at hl 2 rfl) ?_
        refine nv_imul hx hb dX7_load_28 ?_
        refine lv_iload_n hx hb dX7_load_29 rfl (lv_at hl 3 rfl) ?_
        refine nv_iadd hx hb dX7_load_30 ?_
        refine mw_lald hx hb hK hP 0 ((mu_n ((mp_ne hab hav (by simp)))).trans (mu_s _ _ _)) rfl (by omega) (by omega) dX7_load_31 ?_
        refine lv_topl (fun v32 ev32 => ?_)
        refine mw_last hx hb hK hP hS 0 ((mu_n ((mp_ne hab hav (by simp)))).trans (mu_s _ _ _)) rfl (by omega) (by omega) dX7_load_32 (fun H locs hP hS => ?_)
        have hP : mw G.1 vwCl B (mu (mu μ ab (.inl (G.2 0, 3744, .inr (.inl (vp_updL g1 ((144 * t9) + k1) v32))))) av (.inl (G.2 2, 26, .inl v))) _ := mw_eq ((mu_c _ _ ((mp_ne hav hab (by simp)))).trans (congrArg (fun z => mu z av (.inl (G.2 2, 26, .inl v))) (mu_u _ _ _ _))) hP
        refine lv_iinc (v := nI (k1 + 1)) (lv' := [(3, .int (nI (k1 + 1))), (0, .ref md), (1, .int (nI t9)), (2, .int (nI a9))]) hx hb dX7_load_33 hl (k := 3) rfl (nI_add _ _) (by decide) rfl (fun ls hl => ?_)
        refine lv_goto (tgt := 2) hx hb dX7_load_36 (by decide) ?_
        exact ih2 (k1 + 1) (vp_updL g1 ((144 * t9) + k1) v32) (by omega) (by omega) (by have h9 := hL.s (by omega); rw [← ev32] at h9; exact h9) _ _ hP hS ls (lv_sub hl [1, 2, 3, 0] rfl)
  have hl := lv_entry ([.ref md, .int (nI t9), .int (nI a9)]) (n := 4) (Nat.le_of_ble_eq_true rfl)
  have he9 : entryFrame m args 4 = entryFrame m ([.ref md, .int (nI t9), .int (nI a9)] : List Value).toArray 4 := by rw [hargs]
  rw [he9, lg_entry_eq]
  generalize (lg_sl ([.ref md, .int (nI t9), .int (nI a9)]) ++ List.replicate (4 - (lg_sl ([.ref md, .int (nI t9), .int (nI a9)])).length) Slot.unset).toArray = ls at hl ⊢
  have hl : lv_has ls 4 [(0, .ref md), (1, .int (nI t9)), (2, .int (nI a9))] := hl
  refine lv_iconst (v := nI 0) hx hb dX7_load_0 (by decide) ?_
  refine lv_istore_n (lv' := [(3, .int (nI 0)), (0, .ref md), (1, .int (nI t9)), (2, .int (nI a9))]) hx hb dX7_load_1 rfl hl (by decide) rfl (fun ls hl => ?_)
  exact L2 _ 0 f (Nat.lt_succ_self _) (by omega) (Ld.z f t9 a9) _ _ hP hS ls (lv_sub hl [1, 2, 3, 0] rfl)

abbrev rm_X7_all : Room := { frames := 0, cells := 0, slots := 0, locals := 0 }
set_option maxHeartbeats 4000000 in
set_option maxRecDepth 100000 in
theorem c_X7_all (l : Launch) (G : GG) (B : Nat) (μ : mp) (md ab av c1 c2 c3 c4 c5 c6 c7 c8 c9 fl st : Nat) (f : Nat → Int64) (v : Nat → Int32) (s9 : Nat) (hm : μ md = some (.inr (7, [.int (nI fl), .ref ab, .ref av, .int (nI st), .ref c1, .ref c2, .ref c3, .ref c4, .ref c5, .ref c6, .ref c7, .ref c8, .ref c9]))) (hab : μ ab = some (.inl (G.2 0, 3744, .inr (.inl f)))) (hav : μ av = some (.inl (G.2 2, 26, .inl v))) (hs9 : s9 < 26) : Met l yX7_all wsX7_all rm_X7_all (va_Pc [.ref md, .int (nI s9)] (KW G B μ)) (va_Qv (fun μ2 => ∃ g9 : Nat → Int64, μ2 = mu (mu μ ab (.inl (G.2 0, 3744, .inr (.inl g9)))) av (.inl (G.2 2, 26, .inl (upd v s9 (nI 0)))) ∧ Al4 f g9 s9 144) (BB G B) (fun q => B ≤ q)) 0 0 (fun q => B ≤ q) := by
  refine Met.ofW (cc := cX7_all) (maxL := 3) (ret := none) (by decide) rfl ?_
  intro p e s m args below meth c s₁ B9 hml hv
  obtain ⟨hargs, hBs, hP, hKK⟩ := hv
  have hx := B9.exec
  have hb := B9.bytes
  have hr := B9.returns
  have hts := atoms_spec (ws := wsX7_all) B9.pre
  have hown : s.vm.findClass RX7 = some m.cls := findClass_of_methodNamed B9.named
  have hlocks := B9.notSynchronized
  have hK := hKK.k
  have hS : va_S (fun q => B ≤ q) s.heap s.heap [] := va_S.rf
  obtain ⟨Q, hQ⟩ : ∃ Q, Q = MQ below (va_Qv (fun μ2 => ∃ g9 : Nat → Int64, μ2 = mu (mu μ ab (.inl (G.2 0, 3744, .inr (.inl g9)))) av (.inl (G.2 2, 26, .inl (upd v s9 (nI 0)))) ∧ Al4 f g9 s9 144) (BB G B) (fun q => B ≤ q)) args s 0 0 (fun q => B ≤ q) := ⟨_, rfl⟩
  rw [← hQ]
  have ne0_1 : md ≠ ab := mp_ne hm hab (by simp)
  have ne0_2 : md ≠ av := mp_ne hm hav (by simp)
  have in_X7_all_X7 : ∀ w ∈ wsX70, w ∈ wsX7_all := by decide +kernel
  have hP : mw G.1 vwCl B (mu (mu μ ab (.inl (G.2 0, 3744, .inr (.inl f)))) av (.inl (G.2 2, 26, .inl v))) s.heap := mw_eq ((congrArg (fun z => mu z av (.inl (G.2 2, 26, .inl v))) (mu_i hab)).trans (mu_i hav)).symm hP
  have L2 : ∀ (N2 : Nat) (k1 : Nat) (g1 : Nat → Int64) (hN2 : 144 - k1 < N2) (hk1 : k1 ≤ 144) (hL : Al4 f g1 s9 k1), ∀ (H : Heap) (locs : List Loc), mw G.1 vwCl B (mu (mu μ ab (.inl (G.2 0, 3744, .inr (.inl g1)))) av (.inl (G.2 2, 26, .inl v))) H → va_S (fun q => B ≤ q) s.heap H locs → ∀ ls : Array Slot, lv_has ls 3 [(0, .ref md), (1, .int (nI s9)), (2, .int (nI k1))] → W p l e rm_X7_all s m args below meth c H locs 0 0 Q (F0 m 2 ls []) := by
    intro N2
    induction N2 with
    | zero => intro k1 g1 hN2; exact absurd hN2 (Nat.not_lt_zero _)
    | succ N2 ih2 =>
      intro k1 g1 hN2 hk1 hL H locs hP hS ls hl
      refine lv_iload_n hx hb dX7_all_2 rfl (lv_at hl 2 rfl) ?_
      refine lv_sipush (v := nI 144) hx hb dX7_all_3 (by decide) ?_
      refine nv_icmp_ge (tgt := 30) hx hb (by omega) (by omega) dX7_all_6 (by decide) (fun hc6 => ?_) (fun hc6 => ?_)
      · refine lv_aload_n hx hb dX7_all_30 rfl (lv_at hl 0 rfl) ?_
        refine mw_get (C := RX7) (T := TX7) (N := 13) hx hb hts in_X7_all_X7 hown hK hP ((mu_n ne0_2).trans ((mu_n ne0_1).trans (hm))) rfl 2 (by decide) (hts (.fieldLink RX7 13 "OctagonDeskModel" "isVoid" "[Z") (by decide +kernel)) (fun _ h9 => h9) rfl dX7_all_31 ?_
        refine lv_iload_n hx hb dX7_all_34 rfl (lv_at hl 1 rfl) ?_
        refine lv_iconst (v := nI 0) hx hb dX7_all_35 (by decide) ?_
        refine mw_zast hx hb hK hP hS 2 (mu_s _ _ _) rfl (by decide) (by omega) (by omega) dX7_all_36 (fun H locs hP hS => ?_)
        have hP : mw G.1 vwCl B (mu (mu μ ab (.inl (G.2 0, 3744, .inr (.inl g1)))) av (.inl (G.2 2, 26, .inl (upd v s9 (nI 0))))) _ := mw_eq (mu_u _ _ _ _) hP
        rw [hQ]
        exact W.vret hx hb hr (fun t99 ht99 hW99 => ⟨⟨mu (mu μ ab (.inl (G.2 0, 3744, .inr (.inl g1)))) av (.inl (G.2 2, 26, .inl (upd v s9 (nI 0)))), rfl, (⟨_, rfl, by have e9 : k1 = 144 := (by omega); subst e9; exact hL⟩), by show mw _ _ _ _ t99.heap; rw [ht99]; exact hP⟩, hS.F ht99⟩) hS.2.2 dX7_all_37
      · refine lv_aload_n hx hb dX7_all_9 rfl (lv_at hl 0 rfl) ?_
        refine mw_get (C := RX7) (T := TX7) (N := 13) hx hb hts in_X7_all_X7 hown hK hP ((mu_n ne0_2).trans ((mu_n ne0_1).trans (hm))) rfl 1 (by decide) (hts (.fieldLink RX7 7 "OctagonDeskModel" "bound" "[J") (by decide +kernel)) (fun _ h9 => h9) rfl dX7_all_10 ?_
        refine lv_sipush (v := nI 144) hx hb dX7_all_13 (by decide) ?_
        refine lv_iload_n hx hb dX7_all_16 rfl (lv_at hl 1 rfl) ?_
        refine nv_imul hx hb dX7_all_17 ?_
        refine lv_iload_n hx hb dX7_all_18 rfl (lv_at hl 2 rfl) ?_
        refine nv_iadd hx hb dX7_all_19 ?_
        refine lv_ldc2 (v := (9223372036854775807)) hx hb hown (hts (.constantLong RX7 45 (9223372036854775807)) (by decide +kernel)) dX7_all_20 ?_
        refine mw_last hx hb hK hP hS 0 ((mu_n ((mp_ne hab hav (by simp)))).trans (mu_s _ _ _)) rfl (by omega) (by omega) dX7_all_23 (fun H locs hP hS => ?_)
        have hP : mw G.1 vwCl B (mu (mu μ ab (.inl (G.2 0, 3744, .inr (.inl (vp_updL g1 ((144 * s9) + k1) 9223372036854775807))))) av (.inl (G.2 2, 26, .inl v))) _ := mw_eq ((mu_c _ _ ((mp_ne hav hab (by simp)))).trans (congrArg (fun z => mu z av (.inl (G.2 2, 26, .inl v))) (mu_u _ _ _ _))) hP
        refine lv_iinc (v := nI (k1 + 1)) (lv' := [(2, .int (nI (k1 + 1))), (0, .ref md), (1, .int (nI s9))]) hx hb dX7_all_24 hl (k := 2) rfl (nI_add _ _) (by decide) rfl (fun ls hl => ?_)
        refine lv_goto (tgt := 2) hx hb dX7_all_27 (by decide) ?_
        exact ih2 (k1 + 1) (vp_updL g1 ((144 * s9) + k1) 9223372036854775807) (by omega) (by omega) (hL.s) _ _ hP hS ls (lv_sub hl [1, 2, 0] rfl)
  have hl := lv_entry ([.ref md, .int (nI s9)]) (n := 3) (Nat.le_of_ble_eq_true rfl)
  have he9 : entryFrame m args 3 = entryFrame m ([.ref md, .int (nI s9)] : List Value).toArray 3 := by rw [hargs]
  rw [he9, lg_entry_eq]
  generalize (lg_sl ([.ref md, .int (nI s9)]) ++ List.replicate (3 - (lg_sl ([.ref md, .int (nI s9)])).length) Slot.unset).toArray = ls at hl ⊢
  have hl : lv_has ls 3 [(0, .ref md), (1, .int (nI s9))] := hl
  refine lv_iconst (v := nI 0) hx hb dX7_all_0 (by decide) ?_
  refine lv_istore_n (lv' := [(2, .int (nI 0)), (0, .ref md), (1, .int (nI s9))]) hx hb dX7_all_1 rfl hl (by decide) rfl (fun ls hl => ?_)
  exact L2 _ 0 f (Nat.lt_succ_self _) (by omega) (Al4.z f s9) _ _ hP hS ls (lv_sub hl [1, 2, 0] rfl)

abbrev rm_X7_drop : Room := { frames := 1, cells := 0, slots := 0, locals := 25 }
set_option maxHeartbeats 4000000 in
set_option maxRecDepth 100000 in
theorem c_X7_drop (l : Launch) (G : GG) (B : Nat) (μ : mp) (md ab av c1 c2 c3 c4 c5 c6 c7 c8 c9 fl st : Nat) (f : Nat → Int64) (v : Nat → Int32) (s9 i9 : Nat) (hm : μ md = some (.inr (7, [.int (nI fl), .ref ab, .ref av, .int (nI st), .ref c1, .ref c2, .ref c3, .ref c4, .ref c5, .ref c6, .ref c7, .ref c8, .ref c9]))) (hab : μ ab = some (.inl (G.2 0, 3744, .inr (.inl f)))) (hav : μ av = some (.inl (G.2 2, 26, .inl v))) (hs9 : s9 < 26) (hi9 : i9 < 6) (hAI : AI f s9) : Met l yX7_drop wsX7_drop rm_X7_drop (va_Pc [.ref md, .int (nI s9), .int (nI i9)] (KW G B μ)) (va_Qv (fun μ2 => ∃ g9 : Nat → Int64, μ2 = mu μ ab (.inl (G.2 0, 3744, .inr (.inl g9))) ∧ AI g9 s9) (BB G B) (fun q => B ≤ q)) 0 0 (fun q => B ≤ q) := by
  refine Met.ofW (cc := cX7_drop) (maxL := 4) (ret := none) (by decide) rfl ?_
  intro p e s m args below meth c s₁ B9 hml hv
  obtain ⟨hargs, hBs, hP, hKK⟩ := hv
  have hx := B9.exec
  have hb := B9.bytes
  have hr := B9.returns
  have hts := atoms_spec (ws := wsX7_drop) B9.pre
  have hown : s.vm.findClass RX7 = some m.cls := findClass_of_methodNamed B9.named
  have hlocks := B9.notSynchronized
  have hK := hKK.k
  have hS : va_S (fun q => B ≤ q) s.heap s.heap [] := va_S.rf
  obtain ⟨Q, hQ⟩ : ∃ Q, Q = MQ below (va_Qv (fun μ2 => ∃ g9 : Nat → Int64, μ2 = mu μ ab (.inl (G.2 0, 3744, .inr (.inl g9))) ∧ AI g9 s9) (BB G B) (fun q => B ≤ q)) args s 0 0 (fun q => B ≤ q) := ⟨_, rfl⟩
  rw [← hQ]
  have ne0_1 : md ≠ ab := mp_ne hm hab (by simp)
  have ne0_2 : md ≠ av := mp_ne hm hav (by simp)
  have hP : mw G.1 vwCl B (mu μ ab (.inl (G.2 0, 3744, .inr (.inl f)))) s.heap := mw_eq (mu_i hab).symm hP
  have L2 : ∀ (N2 : Nat) (p1 : Nat) (g1 : Nat → Int64) (hN2 : 12 - p1 < N2) (hp1 : p1 ≤ 12) (hA : AI g1 s9), ∀ (H : Heap) (locs : List Loc), mw G.1 vwCl B (mu μ ab (.inl (G.2 0, 3744, .inr (.inl g1)))) H → va_S (fun q => B ≤ q) s.heap H locs → ∀ ls : Array Slot, lv_has ls 4 [(0, .ref md), (1, .int (nI s9)), (2, .int (nI i9)), (3, .int (nI p1))] → W p l e rm_X7_drop s m args below meth c H locs 0 0 Q (F0 m 2 ls []) := by
    intro N2
    induction N2 with
    | zero => intro p1 g1 hN2; exact absurd hN2 (Nat.not_lt_zero _)
    | succ N2 ih2 =>
      intro p1 g1 hN2 hp1 hA H locs hP hS ls hl
      refine lv_iload_n hx hb dX7_drop_2 rfl (lv_at hl 3 rfl) ?_
      refine lv_bipush (v := nI 12) hx hb dX7_drop_3 (by decide) ?_
      refine nv_icmp_ge (tgt := 40) hx hb (by omega) (by omega) dX7_drop_5 (by decide) (fun hc5 => ?_) (fun hc5 => ?_)
      · rw [hQ]
        exact W.vret hx hb hr (fun t99 ht99 hW99 => ⟨⟨mu μ ab (.inl (G.2 0, 3744, .inr (.inl g1))), rfl, (⟨_, rfl, hA⟩), by show mw _ _ _ _ t99.heap; rw [ht99]; exact hP⟩, hS.F ht99⟩) hS.2.2 dX7_drop_40
      · refine lv_aload_n hx hb dX7_drop_8 rfl (lv_at hl 0 rfl) ?_
        refine lv_iload_n hx hb dX7_drop_9 rfl (lv_at hl 1 rfl) ?_
        refine lv_iconst (v := nI 2) hx hb dX7_drop_10 (by decide) ?_
        refine lv_iload_n hx hb dX7_drop_11 rfl (lv_at hl 2 rfl) ?_
        refine nv_imul hx hb dX7_drop_12 ?_
        refine lv_iload_n hx hb dX7_drop_13 rfl (lv_at hl 3 rfl) ?_
        refine lv_ldc2 (v := (9223372036854775807)) hx hb hown (hts (.constantLong RX7 45 (9223372036854775807)) (by decide +kernel)) dX7_drop_14 ?_
        refine kc_v (va_runV (As := [.int (nI s9), .int (nI (2 * i9)), .int (nI p1), .long 9223372036854775807]) (rest := []) ⟨hx, hb, hml, hown, hts⟩ (c_X7_set l G B (mu μ ab (.inl (G.2 0, 3744, .inr (.inl g1)))) md ab av c1 c2 c3 c4 c5 c6 c7 c8 c9 fl st g1 v s9 (2 * i9) p1 9223372036854775807 ((mu_n ne0_1).trans (hm)) (mu_s _ _ _) ((mu_n ((mp_ne hav hab (by simp)))).trans (hav)) (by omega) (by omega) (by omega)) (cwV 4 hts gX7_drop_X7_set rfl rfl rfl (by decide +kernel) ⟨Nat.le_of_ble_eq_true rfl, Nat.le_of_ble_eq_true rfl⟩) ⟨KW.blind, hP.recv hK rfl ((mu_n ne0_1).trans (hm)), fun U9 hU9 hW9 => ⟨rfl, KW.pre hBs hKK hS hP U9 hU9 hW9⟩⟩ rfl rfl hl.1 rfl (lv_room (Nat.le_of_ble_eq_true rfl)) dX7_drop_17 ⟨(Nat.le_of_ble_eq_true rfl), (Nat.le_of_ble_eq_true rfl)⟩) hS (fun m17 H locs hq9 hP hz9 hS => ?_)
        rw [hq9] at hP
        have hP : mw G.1 vwCl B (mu μ ab (.inl (G.2 0, 3744, .inr (.inl (stf g1 s9 (2 * i9) p1 9223372036854775807))))) _ := mw_eq (mu_u _ _ _ _) hP
        refine lv_aload_n hx hb dX7_drop_20 rfl (lv_at hl 0 rfl) ?_
        refine lv_iload_n hx hb dX7_drop_21 rfl (lv_at hl 1 rfl) ?_
        refine lv_iconst (v := nI 2) hx hb dX7_drop_22 (by decide) ?_
        refine lv_iload_n hx hb dX7_drop_23 rfl (lv_at hl 2 rfl) ?_
        refine nv_imul hx hb dX7_drop_24 ?_
        refine lv_iconst (v := nI 1) hx hb dX7_drop_25 (by decide) ?_
        refine nv_iadd hx hb dX7_drop_26 ?_
        refine lv_iload_n hx hb dX7_drop_27 rfl (lv_at hl 3 rfl) ?_
        refine lv_ldc2 (v := (9223372036854775807)) hx hb hown (hts (.constantLong RX7 45 (9223372036854775807)) (by decide +kernel)) dX7_drop_28 ?_
        refine kc_v (va_runV (As := [.int (nI s9), .int (nI ((2 * i9) + 1)), .int (nI p1), .long 9223372036854775807]) (rest := []) ⟨hx, hb, hml, hown, hts⟩ (c_X7_set l G B (mu μ ab (.inl (G.2 0, 3744, .inr (.inl (stf g1 s9 (2 * i9) p1 9223372036854775807))))) md ab av c1 c2 c3 c4 c5 c6 c7 c8 c9 fl st (stf g1 s9 (2 * i9) p1 9223372036854775807) v s9 ((2 * i9) + 1) p1 9223372036854775807 ((mu_n ne0_1).trans (hm)) (mu_s _ _ _) ((mu_n ((mp_ne hav hab (by simp)))).trans (hav)) (by omega) (by omega) (by omega)) (cwV 4 hts gX7_drop_X7_set rfl rfl rfl (by decide +kernel) ⟨Nat.le_of_ble_eq_true rfl, Nat.le_of_ble_eq_true rfl⟩) ⟨KW.blind, hP.recv hK rfl ((mu_n ne0_1).trans (hm)), fun U9 hU9 hW9 => ⟨rfl, KW.pre hBs hKK hS hP U9 hU9 hW9⟩⟩ rfl rfl hl.1 rfl (lv_room (Nat.le_of_ble_eq_true rfl)) dX7_drop_31 ⟨(Nat.le_of_ble_eq_true rfl), (Nat.le_of_ble_eq_true rfl)⟩) hS (fun m31 H locs hq9 hP hz9 hS => ?_)
        rw [hq9] at hP
        have hP : mw G.1 vwCl B (mu μ ab (.inl (G.2 0, 3744, .inr (.inl (stf (stf g1 s9 (2 * i9) p1 9223372036854775807) s9 ((2 * i9) + 1) p1 9223372036854775807))))) _ := mw_eq (mu_u _ _ _ _) hP
        refine lv_iinc (v := nI (p1 + 1)) (lv' := [(3, .int (nI (p1 + 1))), (0, .ref md), (1, .int (nI s9)), (2, .int (nI i9))]) hx hb dX7_drop_34 hl (k := 3) rfl (nI_add _ _) (by decide) rfl (fun ls hl => ?_)
        refine lv_goto (tgt := 2) hx hb dX7_drop_37 (by decide) ?_
        exact ih2 (p1 + 1) (stf (stf g1 s9 (2 * i9) p1 9223372036854775807) s9 ((2 * i9) + 1) p1 9223372036854775807) (by omega) (by omega) (hA.st.st) _ _ hP hS ls (lv_sub hl [1, 2, 3, 0] rfl)
  have hl := lv_entry ([.ref md, .int (nI s9), .int (nI i9)]) (n := 4) (Nat.le_of_ble_eq_true rfl)
  have he9 : entryFrame m args 4 = entryFrame m ([.ref md, .int (nI s9), .int (nI i9)] : List Value).toArray 4 := by rw [hargs]
  rw [he9, lg_entry_eq]
  generalize (lg_sl ([.ref md, .int (nI s9), .int (nI i9)]) ++ List.replicate (4 - (lg_sl ([.ref md, .int (nI s9), .int (nI i9)])).length) Slot.unset).toArray = ls at hl ⊢
  have hl : lv_has ls 4 [(0, .ref md), (1, .int (nI s9)), (2, .int (nI i9))] := hl
  refine lv_iconst (v := nI 0) hx hb dX7_drop_0 (by decide) ?_
  refine lv_istore_n (lv' := [(3, .int (nI 0)), (0, .ref md), (1, .int (nI s9)), (2, .int (nI i9))]) hx hb dX7_drop_1 rfl hl (by decide) rfl (fun ls hl => ?_)
  exact L2 _ 0 f (Nat.lt_succ_self _) (by omega) (hAI) _ _ hP hS ls (lv_sub hl [1, 2, 3, 0] rfl)

abbrev rm_X7_refused : Room := { frames := 0, cells := 0, slots := 0, locals := 0 }
set_option maxHeartbeats 4000000 in
set_option maxRecDepth 100000 in
theorem c_X7_refused (l : Launch) (G : GG) (B : Nat) (μ : mp) (md ab av c1 c2 c3 c4 c5 c6 c7 c8 c9 fl st : Nat) (f : Nat → Int64) (v : Nat → Int32) (w9 : Nat) (hm : μ md = some (.inr (7, [.int (nI fl), .ref ab, .ref av, .int (nI st), .ref c1, .ref c2, .ref c3, .ref c4, .ref c5, .ref c6, .ref c7, .ref c8, .ref c9]))) (hab : μ ab = some (.inl (G.2 0, 3744, .inr (.inl f)))) (hav : μ av = some (.inl (G.2 2, 26, .inl v))) (hw9 : w9 < 3) : Met l yX7_refused wsX7_refused rm_X7_refused (va_Pc [.ref md, .int (nI w9)] (KW G B μ)) (va_Qi (fun r μ2 => μ2 = mu μ md (.inr (7, [.int (nI w9), .ref ab, .ref av, .int (nI st), .ref c1, .ref c2, .ref c3, .ref c4, .ref c5, .ref c6, .ref c7, .ref c8, .ref c9])) ∧ (w9 = 0 → r = nI 0) ∧ (¬ w9 = 0 → r = nI 1)) (BB G B) (fun q => B ≤ q)) 0 0 (fun q => B ≤ q) := by
  refine Met.ofW (cc := cX7_refused) (maxL := 2) (ret := (some .boolean)) (by decide) rfl ?_
  intro p e s m args below meth c s₁ B9 hml hv
  obtain ⟨hargs, hBs, hP, hKK⟩ := hv
  have hx := B9.exec
  have hb := B9.bytes
  have hr := B9.returns
  have hts := atoms_spec (ws := wsX7_refused) B9.pre
  have hown : s.vm.findClass RX7 = some m.cls := findClass_of_methodNamed B9.named
  have hlocks := B9.notSynchronized
  have hK := hKK.k
  have hS : va_S (fun q => B ≤ q) s.heap s.heap [] := va_S.rf
  obtain ⟨Q, hQ⟩ : ∃ Q, Q = MQ below (va_Qi (fun r μ2 => μ2 = mu μ md (.inr (7, [.int (nI w9), .ref ab, .ref av, .int (nI st), .ref c1, .ref c2, .ref c3, .ref c4, .ref c5, .ref c6, .ref c7, .ref c8, .ref c9])) ∧ (w9 = 0 → r = nI 0) ∧ (¬ w9 = 0 → r = nI 1)) (BB G B) (fun q => B ≤ q)) args s 0 0 (fun q => B ≤ q) := ⟨_, rfl⟩
  rw [← hQ]
  have ne0_1 : md ≠ ab := mp_ne hm hab (by simp)
  have ne0_2 : md ≠ av := mp_ne hm hav (by simp)
  have in_X7_refused_X7 : ∀ w ∈ wsX70, w ∈ wsX7_refused := by decide +kernel
  have hP : mw G.1 vwCl B (mu μ md (.inr (7, [.int (nI fl), .ref ab, .ref av, .int (nI st), .ref c1, .ref c2, .ref c3, .ref c4, .ref c5, .ref c6, .ref c7, .ref c8, .ref c9]))) s.heap := mw_eq (mu_i hm).symm hP
  have hl := lv_entry ([.ref md, .int (nI w9)]) (n := 2) (Nat.le_of_ble_eq_true rfl)
  have he9 : entryFrame m args 2 = entryFrame m ([.ref md, .int (nI w9)] : List Value).toArray 2 := by rw [hargs]
  rw [he9, lg_entry_eq]
  generalize (lg_sl ([.ref md, .int (nI w9)]) ++ List.replicate (2 - (lg_sl ([.ref md, .int (nI w9)])).length) Slot.unset).toArray = ls at hl ⊢
  have hl : lv_has ls 2 [(0, .ref md), (1, .int (nI w9))] := hl
  refine lv_aload_n hx hb dX7_refused_0 rfl (lv_at hl 0 rfl) ?_
  refine lv_iload_n hx hb dX7_refused_1 rfl (lv_at hl 1 rfl) ?_
  refine mw_put (ty := .int) (v := .int (nI w9)) (C := RX7) (T := TX7) (N := 13) hx hb hts in_X7_refused_X7 tyX7 tyX7_ok nmX7 hown hK hP hS (mu_s _ _ _) rfl 0 (by decide) (hts (.fieldLink RX7 47 "OctagonDeskModel" "fault" "I") (by decide +kernel)) (fun _ h9 => h9) rfl (by decide +kernel) (by first | rfl | decide +kernel) (by first | rfl | decide +kernel) (Nat.le_of_ble_eq_true rfl) dX7_refused_2 (fun H locs hP hS => ?_)
  have hP : mw G.1 vwCl B (mu μ md (.inr (7, [.int (nI w9), .ref ab, .ref av, .int (nI st), .ref c1, .ref c2, .ref c3, .ref c4, .ref c5, .ref c6, .ref c7, .ref c8, .ref c9]))) _ := mw_eq (mu_u _ _ _ _) hP
  refine lv_iload_n hx hb dX7_refused_5 rfl (lv_at hl 1 rfl) ?_
  refine lv_if_le (tgt := 13) hx hb dX7_refused_6 (by decide) (fun hc6 => ?_) (fun hc6 => ?_)
  · have hc6 : w9 = 0 := by rcases (show w9 = 0 ∨ w9 = 1 ∨ w9 = 2 by omega) with e9 | e9 | e9; exact e9; (subst e9; exact absurd hc6 (by decide)); (subst e9; exact absurd hc6 (by decide))
    refine lv_iconst (v := nI 0) hx hb dX7_refused_13 (by decide) ?_
    rw [hQ]
    exact W.zret (v := nI 0) (ty := .boolean) hx hb hr (by first | rfl | decide) (fun t99 ht99 hW99 => ⟨⟨nI 0, mu μ md (.inr (7, [.int (nI w9), .ref ab, .ref av, .int (nI st), .ref c1, .ref c2, .ref c3, .ref c4, .ref c5, .ref c6, .ref c7, .ref c8, .ref c9])), rfl, (⟨rfl, fun _ => rfl, fun h9 => absurd hc6 h9⟩), by show mw _ _ _ _ t99.heap; rw [ht99]; exact hP⟩, hS.F ht99⟩) hS.2.2 dX7_refused_14
  · have hc6 : ¬ w9 = 0 := fun e9 => by subst e9; exact absurd (by decide) hc6
    refine lv_iconst (v := nI 1) hx hb dX7_refused_9 (by decide) ?_
    refine lv_goto (tgt := 14) hx hb dX7_refused_10 (by decide) ?_
    rw [hQ]
    exact W.zret (v := nI 1) (ty := .boolean) hx hb hr (by first | rfl | decide) (fun t99 ht99 hW99 => ⟨⟨nI 1, mu μ md (.inr (7, [.int (nI w9), .ref ab, .ref av, .int (nI st), .ref c1, .ref c2, .ref c3, .ref c4, .ref c5, .ref c6, .ref c7, .ref c8, .ref c9])), rfl, (⟨rfl, fun h9 => absurd h9 hc6, fun _ => rfl⟩), by show mw _ _ _ _ t99.heap; rw [ht99]; exact hP⟩, hS.F ht99⟩) hS.2.2 dX7_refused_14

abbrev rm_X7_thrown : Room := { frames := 0, cells := 0, slots := 0, locals := 0 }
set_option maxHeartbeats 4000000 in
set_option maxRecDepth 100000 in
theorem c_X7_thrown (l : Launch) (G : GG) (B : Nat) (μ : mp) (md ab av c1 c2 c3 c4 c5 c6 c7 c8 c9 fl st : Nat) (f : Nat → Int64) (v : Nat → Int32) (hm : μ md = some (.inr (7, [.int (nI fl), .ref ab, .ref av, .int (nI st), .ref c1, .ref c2, .ref c3, .ref c4, .ref c5, .ref c6, .ref c7, .ref c8, .ref c9]))) (hab : μ ab = some (.inl (G.2 0, 3744, .inr (.inl f)))) (hav : μ av = some (.inl (G.2 2, 26, .inl v))) : Met l yX7_thrown wsX7_thrown rm_X7_thrown (va_Pc [.ref md] (KW G B μ)) (va_Qi (fun r μ2 => μ2 = μ ∧ r = nI fl) (BB G B) (fun q => B ≤ q)) 0 0 (fun q => B ≤ q) := by
  refine Met.ofW (cc := cX7_thrown) (maxL := 1) (ret := (some .int)) (by decide) rfl ?_
  intro p e s m args below meth c s₁ B9 hml hv
  obtain ⟨hargs, hBs, hP, hKK⟩ := hv
  have hx := B9.exec
  have hb := B9.bytes
  have hr := B9.returns
  have hts := atoms_spec (ws := wsX7_thrown) B9.pre
  have hown : s.vm.findClass RX7 = some m.cls := findClass_of_methodNamed B9.named
  have hlocks := B9.notSynchronized
  have hK := hKK.k
  have hS : va_S (fun q => B ≤ q) s.heap s.heap [] := va_S.rf
  obtain ⟨Q, hQ⟩ : ∃ Q, Q = MQ below (va_Qi (fun r μ2 => μ2 = μ ∧ r = nI fl) (BB G B) (fun q => B ≤ q)) args s 0 0 (fun q => B ≤ q) := ⟨_, rfl⟩
  rw [← hQ]
  have ne0_1 : md ≠ ab := mp_ne hm hab (by simp)
  have ne0_2 : md ≠ av := mp_ne hm hav (by simp)
  have in_X7_thrown_X7 : ∀ w ∈ wsX70, w ∈ wsX7_thrown := by decide +kernel
  have hl := lv_entry ([.ref md]) (n := 1) (Nat.le_of_ble_eq_true rfl)
  have he9 : entryFrame m args 1 = entryFrame m ([.ref md] : List Value).toArray 1 := by rw [hargs]
  rw [he9, lg_entry_eq]
  generalize (lg_sl ([.ref md]) ++ List.replicate (1 - (lg_sl ([.ref md])).length) Slot.unset).toArray = ls at hl ⊢
  have hl : lv_has ls 1 [(0, .ref md)] := hl
  refine lv_aload_n hx hb dX7_thrown_0 rfl (lv_at hl 0 rfl) ?_
  refine mw_get (C := RX7) (T := TX7) (N := 13) hx hb hts in_X7_thrown_X7 hown hK hP (hm) rfl 0 (by decide) (hts (.fieldLink RX7 47 "OctagonDeskModel" "fault" "I") (by decide +kernel)) (fun _ h9 => h9) rfl dX7_thrown_1 ?_
  rw [hQ]
  exact W.iret (v := nI fl) hx hb hr (fun t99 ht99 hW99 => ⟨⟨nI fl, μ, rfl, (⟨rfl, rfl⟩), by show mw _ _ _ _ t99.heap; rw [ht99]; exact hP⟩, hS.F ht99⟩) hS.2.2 dX7_thrown_4

abbrev rm_X7_areSlots : Room := { frames := 2, cells := 0, slots := 0, locals := 42 }
set_option maxHeartbeats 4000000 in
set_option maxRecDepth 100000 in
theorem c_X7_areSlots (l : Launch) (G : GG) (B : Nat) (μ : mp) (x9 y9 z9 : Int32) : Met l yX7_areSlots wsX7_areSlots rm_X7_areSlots (va_Pc [.int x9, .int y9, .int z9] (KW G B μ)) (va_Qi (fun r μ2 => μ2 = μ ∧ ((r = 1 ∧ (okS x9 ∧ okS y9 ∧ okS z9)) ∨ (r = 0 ∧ ¬ ((okS x9 ∧ okS y9 ∧ okS z9))))) (BB G B) (fun q => B ≤ q)) 0 0 (fun q => B ≤ q) := by
  refine Met.ofW (cc := cX7_areSlots) (maxL := 3) (ret := (some .boolean)) (by decide) rfl ?_
  intro p e s m args below meth c s₁ B9 hml hv
  obtain ⟨hargs, hBs, hP, hKK⟩ := hv
  have hx := B9.exec
  have hb := B9.bytes
  have hr := B9.returns
  have hts := atoms_spec (ws := wsX7_areSlots) B9.pre
  have hown : s.vm.findClass RX7 = some m.cls := findClass_of_methodNamed B9.named
  have hlocks := B9.notSynchronized
  have hK := hKK.k
  have hS : va_S (fun q => B ≤ q) s.heap s.heap [] := va_S.rf
  obtain ⟨Q, hQ⟩ : ∃ Q, Q = MQ below (va_Qi (fun r μ2 => μ2 = μ ∧ ((r = 1 ∧ (okS x9 ∧ okS y9 ∧ okS z9)) ∨ (r = 0 ∧ ¬ ((okS x9 ∧ okS y9 ∧ okS z9))))) (BB G B) (fun q => B ≤ q)) args s 0 0 (fun q => B ≤ q) := ⟨_, rfl⟩
  rw [← hQ]
  have hl := lv_entry ([.int x9, .int y9, .int z9]) (n := 3) (Nat.le_of_ble_eq_true rfl)
  have he9 : entryFrame m args 3 = entryFrame m ([.int x9, .int y9, .int z9] : List Value).toArray 3 := by rw [hargs]
  rw [he9, lg_entry_eq]
  generalize (lg_sl ([.int x9, .int y9, .int z9]) ++ List.replicate (3 - (lg_sl ([.int x9, .int y9, .int z9])).length) Slot.unset).toArray = ls at hl ⊢
  have hl : lv_has ls 3 [(0, .int x9), (1, .int y9), (2, .int z9)] := hl
  refine lv_iload_n hx hb dX7_areSlots_0 rfl (lv_at hl 0 rfl) ?_
  refine kc_i (va_runS (As := [.int x9]) (rest := []) ⟨hx, hb, hml, hown, hts⟩ (c_X7_isSlot l G B (μ) x9) (va_cwS 1 hts gX7_areSlots_X7_isSlot rfl rfl rfl (by decide +kernel) ⟨Nat.le_of_ble_eq_true rfl, Nat.le_of_ble_eq_true rfl⟩) ⟨KW.blind, fun U9 hU9 hW9 => ⟨rfl, KW.pre hBs hKK hS hP U9 hU9 hW9⟩⟩ rfl rfl hl.1 rfl (lv_room (Nat.le_of_ble_eq_true rfl)) dX7_areSlots_1 ⟨(Nat.le_of_ble_eq_true rfl), (Nat.le_of_ble_eq_true rfl)⟩) hS (fun r1 m1 H locs hq9 hP hz9 hS => ?_)
  obtain ⟨he9, hy1⟩ := hq9
  rw [he9] at hP
  refine lv_if_eq (tgt := 25) hx hb dX7_areSlots_4 (by decide) (fun hc4 => ?_) (fun hc4 => ?_)
  · refine lv_iconst (v := nI 0) hx hb dX7_areSlots_25 (by decide) ?_
    rw [hQ]
    exact W.zret (v := nI 0) (ty := .boolean) hx hb hr (by first | rfl | decide) (fun t99 ht99 hW99 => ⟨⟨nI 0, μ, rfl, (⟨rfl, Or.inr ⟨rfl, fun h9 => by first | exact yn_f hy1 hc4 h9.1 | exact yn_f hy8 hc11 h9.2.1 | exact yn_f hy15 hc18 h9.2.2⟩⟩), by show mw _ _ _ _ t99.heap; rw [ht99]; exact hP⟩, hS.F ht99⟩) hS.2.2 dX7_areSlots_26
  · refine lv_iload_n hx hb dX7_areSlots_7 rfl (lv_at hl 1 rfl) ?_
    refine kc_i (va_runS (As := [.int y9]) (rest := []) ⟨hx, hb, hml, hown, hts⟩ (c_X7_isSlot l G B (μ) y9) (va_cwS 1 hts gX7_areSlots_X7_isSlot rfl rfl rfl (by decide +kernel) ⟨Nat.le_of_ble_eq_true rfl, Nat.le_of_ble_eq_true rfl⟩) ⟨KW.blind, fun U9 hU9 hW9 => ⟨rfl, KW.pre hBs hKK hS hP U9 hU9 hW9⟩⟩ rfl rfl hl.1 rfl (lv_room (Nat.le_of_ble_eq_true rfl)) dX7_areSlots_8 ⟨(Nat.le_of_ble_eq_true rfl), (Nat.le_of_ble_eq_true rfl)⟩) hS (fun r8 m8 H locs hq9 hP hz9 hS => ?_)
    obtain ⟨he9, hy8⟩ := hq9
    rw [he9] at hP
    refine lv_if_eq (tgt := 25) hx hb dX7_areSlots_11 (by decide) (fun hc11 => ?_) (fun hc11 => ?_)
    · refine lv_iconst (v := nI 0) hx hb dX7_areSlots_25 (by decide) ?_
      rw [hQ]
      exact W.zret (v := nI 0) (ty := .boolean) hx hb hr (by first | rfl | decide) (fun t99 ht99 hW99 => ⟨⟨nI 0, μ, rfl, (⟨rfl, Or.inr ⟨rfl, fun h9 => by first | exact yn_f hy1 hc4 h9.1 | exact yn_f hy8 hc11 h9.2.1 | exact yn_f hy15 hc18 h9.2.2⟩⟩), by show mw _ _ _ _ t99.heap; rw [ht99]; exact hP⟩, hS.F ht99⟩) hS.2.2 dX7_areSlots_26
    · refine lv_iload_n hx hb dX7_areSlots_14 rfl (lv_at hl 2 rfl) ?_
      refine kc_i (va_runS (As := [.int z9]) (rest := []) ⟨hx, hb, hml, hown, hts⟩ (c_X7_isSlot l G B (μ) z9) (va_cwS 1 hts gX7_areSlots_X7_isSlot rfl rfl rfl (by decide +kernel) ⟨Nat.le_of_ble_eq_true rfl, Nat.le_of_ble_eq_true rfl⟩) ⟨KW.blind, fun U9 hU9 hW9 => ⟨rfl, KW.pre hBs hKK hS hP U9 hU9 hW9⟩⟩ rfl rfl hl.1 rfl (lv_room (Nat.le_of_ble_eq_true rfl)) dX7_areSlots_15 ⟨(Nat.le_of_ble_eq_true rfl), (Nat.le_of_ble_eq_true rfl)⟩) hS (fun r15 m15 H locs hq9 hP hz9 hS => ?_)
      obtain ⟨he9, hy15⟩ := hq9
      rw [he9] at hP
      refine lv_if_eq (tgt := 25) hx hb dX7_areSlots_18 (by decide) (fun hc18 => ?_) (fun hc18 => ?_)
      · refine lv_iconst (v := nI 0) hx hb dX7_areSlots_25 (by decide) ?_
        rw [hQ]
        exact W.zret (v := nI 0) (ty := .boolean) hx hb hr (by first | rfl | decide) (fun t99 ht99 hW99 => ⟨⟨nI 0, μ, rfl, (⟨rfl, Or.inr ⟨rfl, fun h9 => by first | exact yn_f hy1 hc4 h9.1 | exact yn_f hy8 hc11 h9.2.1 | exact yn_f hy15 hc18 h9.2.2⟩⟩), by show mw _ _ _ _ t99.heap; rw [ht99]; exact hP⟩, hS.F ht99⟩) hS.2.2 dX7_areSlots_26
      · refine lv_iconst (v := nI 1) hx hb dX7_areSlots_21 (by decide) ?_
        refine lv_goto (tgt := 26) hx hb dX7_areSlots_22 (by decide) ?_
        rw [hQ]
        exact W.zret (v := nI 1) (ty := .boolean) hx hb hr (by first | rfl | decide) (fun t99 ht99 hW99 => ⟨⟨nI 1, μ, rfl, (⟨rfl, Or.inl ⟨rfl, yn_t hy1 hc4, yn_t hy8 hc11, yn_t hy15 hc18⟩⟩), by show mw _ _ _ _ t99.heap; rw [ht99]; exact hP⟩, hS.F ht99⟩) hS.2.2 dX7_areSlots_26

abbrev rm_X7_isAction : Room := { frames := 2, cells := 0, slots := 0, locals := 42 }
set_option maxHeartbeats 4000000 in
set_option maxRecDepth 100000 in
theorem c_X7_isAction (l : Launch) (G : GG) (B : Nat) (μ : mp) (k9 a9 b9 c9 : Int32) : Met l yX7_isAction wsX7_isAction rm_X7_isAction (va_Pc [.int k9, .int a9, .int b9, .int c9] (KW G B μ)) (va_Qi (fun r μ2 => μ2 = μ ∧ ((r = 1 ∧ okA k9 a9 b9 c9) ∨ (r = 0 ∧ ¬ (okA k9 a9 b9 c9)))) (BB G B) (fun q => B ≤ q)) 0 0 (fun q => B ≤ q) := by
  refine Met.ofW (cc := cX7_isAction) (maxL := 4) (ret := (some .boolean)) (by decide) rfl ?_
  intro p e s m args below meth c s₁ B9 hml hv
  obtain ⟨hargs, hBs, hP, hKK⟩ := hv
  have hx := B9.exec
  have hb := B9.bytes
  have hr := B9.returns
  have hts := atoms_spec (ws := wsX7_isAction) B9.pre
  have hown : s.vm.findClass RX7 = some m.cls := findClass_of_methodNamed B9.named
  have hlocks := B9.notSynchronized
  have hK := hKK.k
  have hS : va_S (fun q => B ≤ q) s.heap s.heap [] := va_S.rf
  obtain ⟨Q, hQ⟩ : ∃ Q, Q = MQ below (va_Qi (fun r μ2 => μ2 = μ ∧ ((r = 1 ∧ okA k9 a9 b9 c9) ∨ (r = 0 ∧ ¬ (okA k9 a9 b9 c9)))) (BB G B) (fun q => B ≤ q)) args s 0 0 (fun q => B ≤ q) := ⟨_, rfl⟩
  rw [← hQ]
  have hl := lv_entry ([.int k9, .int a9, .int b9, .int c9]) (n := 4) (Nat.le_of_ble_eq_true rfl)
  have he9 : entryFrame m args 4 = entryFrame m ([.int k9, .int a9, .int b9, .int c9] : List Value).toArray 4 := by rw [hargs]
  rw [he9, lg_entry_eq]
  generalize (lg_sl ([.int k9, .int a9, .int b9, .int c9]) ++ List.replicate (4 - (lg_sl ([.int k9, .int a9, .int b9, .int c9])).length) Slot.unset).toArray = ls at hl ⊢
  have hl : lv_has ls 4 [(0, .int k9), (1, .int a9), (2, .int b9), (3, .int c9)] := hl
  refine lv_iload_n hx hb dX7_isAction_0 rfl (lv_at hl 3 rfl) ?_
  refine kc_i (va_runS (As := [.int c9]) (rest := []) ⟨hx, hb, hml, hown, hts⟩ (c_X7_isNumber l G B (μ) c9) (va_cwS 1 hts gX7_isAction_X7_isNumber rfl rfl rfl (by decide +kernel) ⟨Nat.le_of_ble_eq_true rfl, Nat.le_of_ble_eq_true rfl⟩) ⟨KW.blind, fun U9 hU9 hW9 => ⟨rfl, KW.pre hBs hKK hS hP U9 hU9 hW9⟩⟩ rfl rfl hl.1 rfl (lv_room (Nat.le_of_ble_eq_true rfl)) dX7_isAction_1 ⟨(Nat.le_of_ble_eq_true rfl), (Nat.le_of_ble_eq_true rfl)⟩) hS (fun r1 m1 H locs hq9 hP hz9 hS => ?_)
  obtain ⟨he9, hy1⟩ := hq9
  rw [he9] at hP
  refine lv_if_ne (tgt := 9) hx hb dX7_isAction_4 (by decide) (fun hc4 => ?_) (fun hc4 => ?_)
  · refine lv_iload_n hx hb dX7_isAction_9 rfl (lv_at hl 0 rfl) ?_
    refine lv_if_ne (tgt := 43) hx hb dX7_isAction_10 (by decide) (fun hc10 => ?_) (fun hc10 => ?_)
    · refine lv_iload_n hx hb dX7_isAction_43 rfl (lv_at hl 0 rfl) ?_
      refine lv_iconst (v := nI 1) hx hb dX7_isAction_44 (by decide) ?_
      refine lv_icmp_ne (tgt := 72) hx hb dX7_isAction_45 (by decide) (fun hc45 => ?_) (fun hc45 => ?_)
      · refine lv_iload_n hx hb dX7_isAction_72 rfl (lv_at hl 0 rfl) ?_
        refine lv_iconst (v := nI 2) hx hb dX7_isAction_73 (by decide) ?_
        refine lv_icmp_ne (tgt := 102) hx hb dX7_isAction_74 (by decide) (fun hc74 => ?_) (fun hc74 => ?_)
        · refine lv_iconst (v := nI 0) hx hb dX7_isAction_102 (by decide) ?_
          rw [hQ]
          exact W.zret (v := nI 0) (ty := .boolean) hx hb hr (by first | rfl | decide) (fun t99 ht99 hW99 => ⟨⟨nI 0, μ, rfl, (⟨rfl, Or.inr ⟨rfl, fun h9 => by first | exact yn_f hy1 hc4 h9.1 | exact yn_f hy14 hc17 (h9.k0 hc10).1 | exact yn_f hy21 hc24 (h9.k0 hc10).2.1 | exact (h9.k0 hc10).2.2 (by rw [ne_x _ (by omega), hc32]) | exact yn_f hy51 hc54 (isI_S.mpr (h9.k1 hc45).1) | exact yn_f hy58 hc61 (h9.k1 hc45).2 | exact yn_f hy80 hc83 (isI_S.mpr (h9.k2 hc74).1) | exact yn_f hy87 hc90 (h9.k2 hc74).2.1 | exact absurd hc95 (Int32.not_lt.mpr (h9.k2 hc74).2.2) | exact h9.kn hc10 hc45 hc74⟩⟩), by show mw _ _ _ _ t99.heap; rw [ht99]; exact hP⟩, hS.F ht99⟩) hS.2.2 dX7_isAction_103
        · refine lv_iload_n hx hb dX7_isAction_77 rfl (lv_at hl 1 rfl) ?_
          refine lv_iconst (v := nI 0) hx hb dX7_isAction_78 (by decide) ?_
          refine lv_iconst (v := nI 5) hx hb dX7_isAction_79 (by decide) ?_
          refine kc_i (va_runS (As := [.int a9, .int (nI 0), .int (nI 5)]) (rest := []) ⟨hx, hb, hml, hown, hts⟩ (c_X7_isIn l G B (μ) a9 (nI 0) (nI 5)) (va_cwS 3 hts gX7_isAction_X7_isIn rfl rfl rfl (by decide +kernel) ⟨Nat.le_of_ble_eq_true rfl, Nat.le_of_ble_eq_true rfl⟩) ⟨KW.blind, fun U9 hU9 hW9 => ⟨rfl, KW.pre hBs hKK hS hP U9 hU9 hW9⟩⟩ rfl rfl hl.1 rfl (lv_room (Nat.le_of_ble_eq_true rfl)) dX7_isAction_80 ⟨(Nat.le_of_ble_eq_true rfl), (Nat.le_of_ble_eq_true rfl)⟩) hS (fun r80 m80 H locs hq9 hP hz9 hS => ?_)
          obtain ⟨he9, hy80⟩ := hq9
          rw [he9] at hP
          refine lv_if_eq (tgt := 102) hx hb dX7_isAction_83 (by decide) (fun hc83 => ?_) (fun hc83 => ?_)
          · refine lv_iconst (v := nI 0) hx hb dX7_isAction_102 (by decide) ?_
            rw [hQ]
            exact W.zret (v := nI 0) (ty := .boolean) hx hb hr (by first | rfl | decide) (fun t99 ht99 hW99 => ⟨⟨nI 0, μ, rfl, (⟨rfl, Or.inr ⟨rfl, fun h9 => by first | exact yn_f hy1 hc4 h9.1 | exact yn_f hy14 hc17 (h9.k0 hc10).1 | exact yn_f hy21 hc24 (h9.k0 hc10).2.1 | exact (h9.k0 hc10).2.2 (by rw [ne_x _ (by omega), hc32]) | exact yn_f hy51 hc54 (isI_S.mpr (h9.k1 hc45).1) | exact yn_f hy58 hc61 (h9.k1 hc45).2 | exact yn_f hy80 hc83 (isI_S.mpr (h9.k2 hc74).1) | exact yn_f hy87 hc90 (h9.k2 hc74).2.1 | exact absurd hc95 (Int32.not_lt.mpr (h9.k2 hc74).2.2) | exact h9.kn hc10 hc45 hc74⟩⟩), by show mw _ _ _ _ t99.heap; rw [ht99]; exact hP⟩, hS.F ht99⟩) hS.2.2 dX7_isAction_103
          · refine lv_iload_n hx hb dX7_isAction_86 rfl (lv_at hl 2 rfl) ?_
            refine kc_i (va_runS (As := [.int b9]) (rest := []) ⟨hx, hb, hml, hown, hts⟩ (c_X7_isNumber l G B (μ) b9) (va_cwS 1 hts gX7_isAction_X7_isNumber rfl rfl rfl (by decide +kernel) ⟨Nat.le_of_ble_eq_true rfl, Nat.le_of_ble_eq_true rfl⟩) ⟨KW.blind, fun U9 hU9 hW9 => ⟨rfl, KW.pre hBs hKK hS hP U9 hU9 hW9⟩⟩ rfl rfl hl.1 rfl (lv_room (Nat.le_of_ble_eq_true rfl)) dX7_isAction_87 ⟨(Nat.le_of_ble_eq_true rfl), (Nat.le_of_ble_eq_true rfl)⟩) hS (fun r87 m87 H locs hq9 hP hz9 hS => ?_)
            obtain ⟨he9, hy87⟩ := hq9
            rw [he9] at hP
            refine lv_if_eq (tgt := 102) hx hb dX7_isAction_90 (by decide) (fun hc90 => ?_) (fun hc90 => ?_)
            · refine lv_iconst (v := nI 0) hx hb dX7_isAction_102 (by decide) ?_
              rw [hQ]
              exact W.zret (v := nI 0) (ty := .boolean) hx hb hr (by first | rfl | decide) (fun t99 ht99 hW99 => ⟨⟨nI 0, μ, rfl, (⟨rfl, Or.inr ⟨rfl, fun h9 => by first | exact yn_f hy1 hc4 h9.1 | exact yn_f hy14 hc17 (h9.k0 hc10).1 | exact yn_f hy21 hc24 (h9.k0 hc10).2.1 | exact (h9.k0 hc10).2.2 (by rw [ne_x _ (by omega), hc32]) | exact yn_f hy51 hc54 (isI_S.mpr (h9.k1 hc45).1) | exact yn_f hy58 hc61 (h9.k1 hc45).2 | exact yn_f hy80 hc83 (isI_S.mpr (h9.k2 hc74).1) | exact yn_f hy87 hc90 (h9.k2 hc74).2.1 | exact absurd hc95 (Int32.not_lt.mpr (h9.k2 hc74).2.2) | exact h9.kn hc10 hc45 hc74⟩⟩), by show mw _ _ _ _ t99.heap; rw [ht99]; exact hP⟩, hS.F ht99⟩) hS.2.2 dX7_isAction_103
            · refine lv_iload_n hx hb dX7_isAction_93 rfl (lv_at hl 2 rfl) ?_
              refine lv_iload_n hx hb dX7_isAction_94 rfl (lv_at hl 3 rfl) ?_
              refine lv_icmp_gt (tgt := 102) hx hb dX7_isAction_95 (by decide) (fun hc95 => ?_) (fun hc95 => ?_)
              · refine lv_iconst (v := nI 0) hx hb dX7_isAction_102 (by decide) ?_
                rw [hQ]
                exact W.zret (v := nI 0) (ty := .boolean) hx hb hr (by first | rfl | decide) (fun t99 ht99 hW99 => ⟨⟨nI 0, μ, rfl, (⟨rfl, Or.inr ⟨rfl, fun h9 => by first | exact yn_f hy1 hc4 h9.1 | exact yn_f hy14 hc17 (h9.k0 hc10).1 | exact yn_f hy21 hc24 (h9.k0 hc10).2.1 | exact (h9.k0 hc10).2.2 (by rw [ne_x _ (by omega), hc32]) | exact yn_f hy51 hc54 (isI_S.mpr (h9.k1 hc45).1) | exact yn_f hy58 hc61 (h9.k1 hc45).2 | exact yn_f hy80 hc83 (isI_S.mpr (h9.k2 hc74).1) | exact yn_f hy87 hc90 (h9.k2 hc74).2.1 | exact absurd hc95 (Int32.not_lt.mpr (h9.k2 hc74).2.2) | exact h9.kn hc10 hc45 hc74⟩⟩), by show mw _ _ _ _ t99.heap; rw [ht99]; exact hP⟩, hS.F ht99⟩) hS.2.2 dX7_isAction_103
              · refine lv_iconst (v := nI 1) hx hb dX7_isAction_98 (by decide) ?_
                refine lv_goto (tgt := 103) hx hb dX7_isAction_99 (by decide) ?_
                rw [hQ]
                exact W.zret (v := nI 1) (ty := .boolean) hx hb hr (by first | rfl | decide) (fun t99 ht99 hW99 => ⟨⟨nI 1, μ, rfl, (⟨rfl, Or.inl ⟨rfl, yn_t hy1 hc4, by first | exact Or.inl ⟨hc10, ha9, hb9, hp9⟩ | exact Or.inr (Or.inl ⟨hc45, isI_S.mp (yn_t hy51 hc54), yn_t hy58 hc61⟩) | exact Or.inr (Or.inr ⟨hc74, isI_S.mp (yn_t hy80 hc83), yn_t hy87 hc90, Int32.not_lt.mp hc95⟩)⟩⟩), by show mw _ _ _ _ t99.heap; rw [ht99]; exact hP⟩, hS.F ht99⟩) hS.2.2 dX7_isAction_103
      · refine lv_iload_n hx hb dX7_isAction_48 rfl (lv_at hl 1 rfl) ?_
        refine lv_iconst (v := nI 0) hx hb dX7_isAction_49 (by decide) ?_
        refine lv_iconst (v := nI 5) hx hb dX7_isAction_50 (by decide) ?_
        refine kc_i (va_runS (As := [.int a9, .int (nI 0), .int (nI 5)]) (rest := []) ⟨hx, hb, hml, hown, hts⟩ (c_X7_isIn l G B (μ) a9 (nI 0) (nI 5)) (va_cwS 3 hts gX7_isAction_X7_isIn rfl rfl rfl (by decide +kernel) ⟨Nat.le_of_ble_eq_true rfl, Nat.le_of_ble_eq_true rfl⟩) ⟨KW.blind, fun U9 hU9 hW9 => ⟨rfl, KW.pre hBs hKK hS hP U9 hU9 hW9⟩⟩ rfl rfl hl.1 rfl (lv_room (Nat.le_of_ble_eq_true rfl)) dX7_isAction_51 ⟨(Nat.le_of_ble_eq_true rfl), (Nat.le_of_ble_eq_true rfl)⟩) hS (fun r51 m51 H locs hq9 hP hz9 hS => ?_)
        obtain ⟨he9, hy51⟩ := hq9
        rw [he9] at hP
        refine lv_if_eq (tgt := 68) hx hb dX7_isAction_54 (by decide) (fun hc54 => ?_) (fun hc54 => ?_)
        · refine lv_iconst (v := nI 0) hx hb dX7_isAction_68 (by decide) ?_
          refine lv_goto (tgt := 103) hx hb dX7_isAction_69 (by decide) ?_
          rw [hQ]
          exact W.zret (v := nI 0) (ty := .boolean) hx hb hr (by first | rfl | decide) (fun t99 ht99 hW99 => ⟨⟨nI 0, μ, rfl, (⟨rfl, Or.inr ⟨rfl, fun h9 => by first | exact yn_f hy1 hc4 h9.1 | exact yn_f hy14 hc17 (h9.k0 hc10).1 | exact yn_f hy21 hc24 (h9.k0 hc10).2.1 | exact (h9.k0 hc10).2.2 (by rw [ne_x _ (by omega), hc32]) | exact yn_f hy51 hc54 (isI_S.mpr (h9.k1 hc45).1) | exact yn_f hy58 hc61 (h9.k1 hc45).2 | exact yn_f hy80 hc83 (isI_S.mpr (h9.k2 hc74).1) | exact yn_f hy87 hc90 (h9.k2 hc74).2.1 | exact absurd hc95 (Int32.not_lt.mpr (h9.k2 hc74).2.2) | exact h9.kn hc10 hc45 hc74⟩⟩), by show mw _ _ _ _ t99.heap; rw [ht99]; exact hP⟩, hS.F ht99⟩) hS.2.2 dX7_isAction_103
        · refine lv_iload_n hx hb dX7_isAction_57 rfl (lv_at hl 2 rfl) ?_
          refine kc_i (va_runS (As := [.int b9]) (rest := []) ⟨hx, hb, hml, hown, hts⟩ (c_X7_isTerm l G B (μ) b9) (va_cwS 1 hts gX7_isAction_X7_isTerm rfl rfl rfl (by decide +kernel) ⟨Nat.le_of_ble_eq_true rfl, Nat.le_of_ble_eq_true rfl⟩) ⟨KW.blind, fun U9 hU9 hW9 => ⟨rfl, KW.pre hBs hKK hS hP U9 hU9 hW9⟩⟩ rfl rfl hl.1 rfl (lv_room (Nat.le_of_ble_eq_true rfl)) dX7_isAction_58 ⟨(Nat.le_of_ble_eq_true rfl), (Nat.le_of_ble_eq_true rfl)⟩) hS (fun r58 m58 H locs hq9 hP hz9 hS => ?_)
          obtain ⟨he9, hy58⟩ := hq9
          rw [he9] at hP
          refine lv_if_eq (tgt := 68) hx hb dX7_isAction_61 (by decide) (fun hc61 => ?_) (fun hc61 => ?_)
          · refine lv_iconst (v := nI 0) hx hb dX7_isAction_68 (by decide) ?_
            refine lv_goto (tgt := 103) hx hb dX7_isAction_69 (by decide) ?_
            rw [hQ]
            exact W.zret (v := nI 0) (ty := .boolean) hx hb hr (by first | rfl | decide) (fun t99 ht99 hW99 => ⟨⟨nI 0, μ, rfl, (⟨rfl, Or.inr ⟨rfl, fun h9 => by first | exact yn_f hy1 hc4 h9.1 | exact yn_f hy14 hc17 (h9.k0 hc10).1 | exact yn_f hy21 hc24 (h9.k0 hc10).2.1 | exact (h9.k0 hc10).2.2 (by rw [ne_x _ (by omega), hc32]) | exact yn_f hy51 hc54 (isI_S.mpr (h9.k1 hc45).1) | exact yn_f hy58 hc61 (h9.k1 hc45).2 | exact yn_f hy80 hc83 (isI_S.mpr (h9.k2 hc74).1) | exact yn_f hy87 hc90 (h9.k2 hc74).2.1 | exact absurd hc95 (Int32.not_lt.mpr (h9.k2 hc74).2.2) | exact h9.kn hc10 hc45 hc74⟩⟩), by show mw _ _ _ _ t99.heap; rw [ht99]; exact hP⟩, hS.F ht99⟩) hS.2.2 dX7_isAction_103
          · refine lv_iconst (v := nI 1) hx hb dX7_isAction_64 (by decide) ?_
            refine lv_goto (tgt := 103) hx hb dX7_isAction_65 (by decide) ?_
            rw [hQ]
            exact W.zret (v := nI 1) (ty := .boolean) hx hb hr (by first | rfl | decide) (fun t99 ht99 hW99 => ⟨⟨nI 1, μ, rfl, (⟨rfl, Or.inl ⟨rfl, yn_t hy1 hc4, by first | exact Or.inl ⟨hc10, ha9, hb9, hp9⟩ | exact Or.inr (Or.inl ⟨hc45, isI_S.mp (yn_t hy51 hc54), yn_t hy58 hc61⟩) | exact Or.inr (Or.inr ⟨hc74, isI_S.mp (yn_t hy80 hc83), yn_t hy87 hc90, Int32.not_lt.mp hc95⟩)⟩⟩), by show mw _ _ _ _ t99.heap; rw [ht99]; exact hP⟩, hS.F ht99⟩) hS.2.2 dX7_isAction_103
    · refine lv_iload_n hx hb dX7_isAction_13 rfl (lv_at hl 1 rfl) ?_
      refine kc_i (va_runS (As := [.int a9]) (rest := []) ⟨hx, hb, hml, hown, hts⟩ (c_X7_isTerm l G B (μ) a9) (va_cwS 1 hts gX7_isAction_X7_isTerm rfl rfl rfl (by decide +kernel) ⟨Nat.le_of_ble_eq_true rfl, Nat.le_of_ble_eq_true rfl⟩) ⟨KW.blind, fun U9 hU9 hW9 => ⟨rfl, KW.pre hBs hKK hS hP U9 hU9 hW9⟩⟩ rfl rfl hl.1 rfl (lv_room (Nat.le_of_ble_eq_true rfl)) dX7_isAction_14 ⟨(Nat.le_of_ble_eq_true rfl), (Nat.le_of_ble_eq_true rfl)⟩) hS (fun r14 m14 H locs hq9 hP hz9 hS => ?_)
      obtain ⟨he9, hy14⟩ := hq9
      rw [he9] at hP
      refine lv_if_eq (tgt := 39) hx hb dX7_isAction_17 (by decide) (fun hc17 => ?_) (fun hc17 => ?_)
      · refine lv_iconst (v := nI 0) hx hb dX7_isAction_39 (by decide) ?_
        refine lv_goto (tgt := 103) hx hb dX7_isAction_40 (by decide) ?_
        rw [hQ]
        exact W.zret (v := nI 0) (ty := .boolean) hx hb hr (by first | rfl | decide) (fun t99 ht99 hW99 => ⟨⟨nI 0, μ, rfl, (⟨rfl, Or.inr ⟨rfl, fun h9 => by first | exact yn_f hy1 hc4 h9.1 | exact yn_f hy14 hc17 (h9.k0 hc10).1 | exact yn_f hy21 hc24 (h9.k0 hc10).2.1 | exact (h9.k0 hc10).2.2 (by rw [ne_x _ (by omega), hc32]) | exact yn_f hy51 hc54 (isI_S.mpr (h9.k1 hc45).1) | exact yn_f hy58 hc61 (h9.k1 hc45).2 | exact yn_f hy80 hc83 (isI_S.mpr (h9.k2 hc74).1) | exact yn_f hy87 hc90 (h9.k2 hc74).2.1 | exact absurd hc95 (Int32.not_lt.mpr (h9.k2 hc74).2.2) | exact h9.kn hc10 hc45 hc74⟩⟩), by show mw _ _ _ _ t99.heap; rw [ht99]; exact hP⟩, hS.F ht99⟩) hS.2.2 dX7_isAction_103
      · refine lv_iload_n hx hb dX7_isAction_20 rfl (lv_at hl 2 rfl) ?_
        refine kc_i (va_runS (As := [.int b9]) (rest := []) ⟨hx, hb, hml, hown, hts⟩ (c_X7_isTerm l G B (μ) b9) (va_cwS 1 hts gX7_isAction_X7_isTerm rfl rfl rfl (by decide +kernel) ⟨Nat.le_of_ble_eq_true rfl, Nat.le_of_ble_eq_true rfl⟩) ⟨KW.blind, fun U9 hU9 hW9 => ⟨rfl, KW.pre hBs hKK hS hP U9 hU9 hW9⟩⟩ rfl rfl hl.1 rfl (lv_room (Nat.le_of_ble_eq_true rfl)) dX7_isAction_21 ⟨(Nat.le_of_ble_eq_true rfl), (Nat.le_of_ble_eq_true rfl)⟩) hS (fun r21 m21 H locs hq9 hP hz9 hS => ?_)
        obtain ⟨he9, hy21⟩ := hq9
        rw [he9] at hP
        refine lv_if_eq (tgt := 39) hx hb dX7_isAction_24 (by decide) (fun hc24 => ?_) (fun hc24 => ?_)
        · refine lv_iconst (v := nI 0) hx hb dX7_isAction_39 (by decide) ?_
          refine lv_goto (tgt := 103) hx hb dX7_isAction_40 (by decide) ?_
          rw [hQ]
          exact W.zret (v := nI 0) (ty := .boolean) hx hb hr (by first | rfl | decide) (fun t99 ht99 hW99 => ⟨⟨nI 0, μ, rfl, (⟨rfl, Or.inr ⟨rfl, fun h9 => by first | exact yn_f hy1 hc4 h9.1 | exact yn_f hy14 hc17 (h9.k0 hc10).1 | exact yn_f hy21 hc24 (h9.k0 hc10).2.1 | exact (h9.k0 hc10).2.2 (by rw [ne_x _ (by omega), hc32]) | exact yn_f hy51 hc54 (isI_S.mpr (h9.k1 hc45).1) | exact yn_f hy58 hc61 (h9.k1 hc45).2 | exact yn_f hy80 hc83 (isI_S.mpr (h9.k2 hc74).1) | exact yn_f hy87 hc90 (h9.k2 hc74).2.1 | exact absurd hc95 (Int32.not_lt.mpr (h9.k2 hc74).2.2) | exact h9.kn hc10 hc45 hc74⟩⟩), by show mw _ _ _ _ t99.heap; rw [ht99]; exact hP⟩, hS.F ht99⟩) hS.2.2 dX7_isAction_103
        · have ha9 := yn_t hy14 hc17
          have hb9 := yn_t hy21 hc24
          obtain ⟨na9, hna9, ena9⟩ := ok_nat (n := 12) (by decide) ha9
          subst ena9
          obtain ⟨nb9, hnb9, enb9⟩ := ok_nat (n := 12) (by decide) hb9
          subst enb9
          refine lv_iload_n hx hb dX7_isAction_27 rfl (lv_at hl 1 rfl) ?_
          refine lv_iload_n hx hb dX7_isAction_28 rfl (lv_at hl 2 rfl) ?_
          refine kc_i (va_runS (As := [.int (nI nb9)]) (rest := [.int (nI na9)]) ⟨hx, hb, hml, hown, hts⟩ (c_X7_minus l G B (μ) nb9 (by omega)) (va_cwS 1 hts gX7_isAction_X7_minus rfl rfl rfl (by decide +kernel) ⟨Nat.le_of_ble_eq_true rfl, Nat.le_of_ble_eq_true rfl⟩) ⟨KW.blind, fun U9 hU9 hW9 => ⟨rfl, KW.pre hBs hKK hS hP U9 hU9 hW9⟩⟩ rfl rfl hl.1 rfl (lv_room (Nat.le_of_ble_eq_true rfl)) dX7_isAction_29 ⟨(Nat.le_of_ble_eq_true rfl), (Nat.le_of_ble_eq_true rfl)⟩) hS (fun r29 m29 H locs hq9 hP hz9 hS => ?_)
          obtain ⟨he9, rfl⟩ := hq9
          rw [he9] at hP
          have hne29 := ne_lt (p := nb9) (by omega)
          refine nv_icmp_eq (tgt := 39) hx hb (by omega) (by omega) dX7_isAction_32 (by decide) (fun hc32 => ?_) (fun hc32 => ?_)
          · refine lv_iconst (v := nI 0) hx hb dX7_isAction_39 (by decide) ?_
            refine lv_goto (tgt := 103) hx hb dX7_isAction_40 (by decide) ?_
            rw [hQ]
            exact W.zret (v := nI 0) (ty := .boolean) hx hb hr (by first | rfl | decide) (fun t99 ht99 hW99 => ⟨⟨nI 0, μ, rfl, (⟨rfl, Or.inr ⟨rfl, fun h9 => by first | exact yn_f hy1 hc4 h9.1 | exact yn_f hy14 hc17 (h9.k0 hc10).1 | exact yn_f hy21 hc24 (h9.k0 hc10).2.1 | exact (h9.k0 hc10).2.2 (by rw [ne_x _ (by omega), hc32]) | exact yn_f hy51 hc54 (isI_S.mpr (h9.k1 hc45).1) | exact yn_f hy58 hc61 (h9.k1 hc45).2 | exact yn_f hy80 hc83 (isI_S.mpr (h9.k2 hc74).1) | exact yn_f hy87 hc90 (h9.k2 hc74).2.1 | exact absurd hc95 (Int32.not_lt.mpr (h9.k2 hc74).2.2) | exact h9.kn hc10 hc45 hc74⟩⟩), by show mw _ _ _ _ t99.heap; rw [ht99]; exact hP⟩, hS.F ht99⟩) hS.2.2 dX7_isAction_103
          · have hp9 : ¬ nI na9 = nI nb9 ^^^ nI 1 := fun e9 => hc32 (by rw [ne_x _ (by omega)] at e9; exact (nI_eq (by omega) (by omega)).mp e9)
            refine lv_iconst (v := nI 1) hx hb dX7_isAction_35 (by decide) ?_
            refine lv_goto (tgt := 103) hx hb dX7_isAction_36 (by decide) ?_
            rw [hQ]
            exact W.zret (v := nI 1) (ty := .boolean) hx hb hr (by first | rfl | decide) (fun t99 ht99 hW99 => ⟨⟨nI 1, μ, rfl, (⟨rfl, Or.inl ⟨rfl, yn_t hy1 hc4, by first | exact Or.inl ⟨hc10, ha9, hb9, hp9⟩ | exact Or.inr (Or.inl ⟨hc45, isI_S.mp (yn_t hy51 hc54), yn_t hy58 hc61⟩) | exact Or.inr (Or.inr ⟨hc74, isI_S.mp (yn_t hy80 hc83), yn_t hy87 hc90, Int32.not_lt.mp hc95⟩)⟩⟩), by show mw _ _ _ _ t99.heap; rw [ht99]; exact hP⟩, hS.F ht99⟩) hS.2.2 dX7_isAction_103
  · refine lv_iconst (v := nI 0) hx hb dX7_isAction_7 (by decide) ?_
    rw [hQ]
    exact W.zret (v := nI 0) (ty := .boolean) hx hb hr (by first | rfl | decide) (fun t99 ht99 hW99 => ⟨⟨nI 0, μ, rfl, (⟨rfl, Or.inr ⟨rfl, fun h9 => by first | exact yn_f hy1 hc4 h9.1 | exact yn_f hy14 hc17 (h9.k0 hc10).1 | exact yn_f hy21 hc24 (h9.k0 hc10).2.1 | exact (h9.k0 hc10).2.2 (by rw [ne_x _ (by omega), hc32]) | exact yn_f hy51 hc54 (isI_S.mpr (h9.k1 hc45).1) | exact yn_f hy58 hc61 (h9.k1 hc45).2 | exact yn_f hy80 hc83 (isI_S.mpr (h9.k2 hc74).1) | exact yn_f hy87 hc90 (h9.k2 hc74).2.1 | exact absurd hc95 (Int32.not_lt.mpr (h9.k2 hc74).2.2) | exact h9.kn hc10 hc45 hc74⟩⟩), by show mw _ _ _ _ t99.heap; rw [ht99]; exact hP⟩, hS.F ht99⟩) hS.2.2 dX7_isAction_8

abbrev rm_X7_clear : Room := { frames := 2, cells := 0, slots := 0, locals := 42 }
set_option maxHeartbeats 4000000 in
set_option maxRecDepth 100000 in
theorem c_X7_clear (l : Launch) (G : GG) (B : Nat) (μ : mp) (md ab av c1 c2 c3 c4 c5 c6 c7 c8 c9 fl st : Nat) (f : Nat → Int64) (v : Nat → Int32) (x9 : Int32) (hm : μ md = some (.inr (7, [.int (nI fl), .ref ab, .ref av, .int (nI st), .ref c1, .ref c2, .ref c3, .ref c4, .ref c5, .ref c6, .ref c7, .ref c8, .ref c9]))) (hab : μ ab = some (.inl (G.2 0, 3744, .inr (.inl f)))) (hav : μ av = some (.inl (G.2 2, 26, .inl v))) (hNM : NM f v) : Met l yX7_clear wsX7_clear rm_X7_clear (va_Pc [.ref md, .int x9] (KW G B μ)) (va_Qv (fun μ2 => ∃ (fl9 : Nat) (g9 : Nat → Int64) (w9 : Nat → Int32), μ2 = mu (mu (mu μ md (.inr (7, [.int (nI fl9), .ref ab, .ref av, .int (nI st), .ref c1, .ref c2, .ref c3, .ref c4, .ref c5, .ref c6, .ref c7, .ref c8, .ref c9]))) ab (.inl (G.2 0, 3744, .inr (.inl g9)))) av (.inl (G.2 2, 26, .inl w9)) ∧ ((fl9 = 0 ∧ (okS x9)) ∨ (fl9 = 1 ∧ ¬ (okS x9)))) (BB G B) (fun q => B ≤ q)) 0 0 (fun q => B ≤ q) := by
  refine Met.ofW (cc := cX7_clear) (maxL := 2) (ret := none) (by decide) rfl ?_
  intro p e s m args below meth c s₁ B9 hml hv
  obtain ⟨hargs, hBs, hP, hKK⟩ := hv
  have hx := B9.exec
  have hb := B9.bytes
  have hr := B9.returns
  have hts := atoms_spec (ws := wsX7_clear) B9.pre
  have hown : s.vm.findClass RX7 = some m.cls := findClass_of_methodNamed B9.named
  have hlocks := B9.notSynchronized
  have hK := hKK.k
  have hS : va_S (fun q => B ≤ q) s.heap s.heap [] := va_S.rf
  obtain ⟨Q, hQ⟩ : ∃ Q, Q = MQ below (va_Qv (fun μ2 => ∃ (fl9 : Nat) (g9 : Nat → Int64) (w9 : Nat → Int32), μ2 = mu (mu (mu μ md (.inr (7, [.int (nI fl9), .ref ab, .ref av, .int (nI st), .ref c1, .ref c2, .ref c3, .ref c4, .ref c5, .ref c6, .ref c7, .ref c8, .ref c9]))) ab (.inl (G.2 0, 3744, .inr (.inl g9)))) av (.inl (G.2 2, 26, .inl w9)) ∧ ((fl9 = 0 ∧ (okS x9)) ∨ (fl9 = 1 ∧ ¬ (okS x9)))) (BB G B) (fun q => B ≤ q)) args s 0 0 (fun q => B ≤ q) := ⟨_, rfl⟩
  rw [← hQ]
  have ne0_1 : md ≠ ab := mp_ne hm hab (by simp)
  have ne0_2 : md ≠ av := mp_ne hm hav (by simp)
  have hP : mw G.1 vwCl B (mu (mu (mu μ md (.inr (7, [.int (nI fl), .ref ab, .ref av, .int (nI st), .ref c1, .ref c2, .ref c3, .ref c4, .ref c5, .ref c6, .ref c7, .ref c8, .ref c9]))) ab (.inl (G.2 0, 3744, .inr (.inl f)))) av (.inl (G.2 2, 26, .inl v))) s.heap := mw_eq ((congrArg (fun z => mu z av (.inl (G.2 2, 26, .inl v))) ((congrArg (fun z => mu z ab (.inl (G.2 0, 3744, .inr (.inl f)))) (mu_i hm)).trans (mu_i hab))).trans (mu_i hav)).symm hP
  have hl := lv_entry ([.ref md, .int x9]) (n := 2) (Nat.le_of_ble_eq_true rfl)
  have he9 : entryFrame m args 2 = entryFrame m ([.ref md, .int x9] : List Value).toArray 2 := by rw [hargs]
  rw [he9, lg_entry_eq]
  generalize (lg_sl ([.ref md, .int x9]) ++ List.replicate (2 - (lg_sl ([.ref md, .int x9])).length) Slot.unset).toArray = ls at hl ⊢
  have hl : lv_has ls 2 [(0, .ref md), (1, .int x9)] := hl
  refine lv_aload_n hx hb dX7_clear_0 rfl (lv_at hl 0 rfl) ?_
  refine lv_iload_n hx hb dX7_clear_1 rfl (lv_at hl 1 rfl) ?_
  refine kc_i (va_runS (As := [.int x9]) (rest := [.ref md]) ⟨hx, hb, hml, hown, hts⟩ (c_X7_isSlot l G B (mu (mu (mu μ md (.inr (7, [.int (nI fl), .ref ab, .ref av, .int (nI st), .ref c1, .ref c2, .ref c3, .ref c4, .ref c5, .ref c6, .ref c7, .ref c8, .ref c9]))) ab (.inl (G.2 0, 3744, .inr (.inl f)))) av (.inl (G.2 2, 26, .inl v))) x9) (va_cwS 1 hts gX7_clear_X7_isSlot rfl rfl rfl (by decide +kernel) ⟨Nat.le_of_ble_eq_true rfl, Nat.le_of_ble_eq_true rfl⟩) ⟨KW.blind, fun U9 hU9 hW9 => ⟨rfl, KW.pre hBs hKK hS hP U9 hU9 hW9⟩⟩ rfl rfl hl.1 rfl (lv_room (Nat.le_of_ble_eq_true rfl)) dX7_clear_2 ⟨(Nat.le_of_ble_eq_true rfl), (Nat.le_of_ble_eq_true rfl)⟩) hS (fun r2 m2 H locs hq9 hP hz9 hS => ?_)
  obtain ⟨he9, hy2⟩ := hq9
  rw [he9] at hP
  refine lv_if_eq (tgt := 12) hx hb dX7_clear_5 (by decide) (fun hc5 => ?_) (fun hc5 => ?_)
  · refine lv_iconst (v := nI 1) hx hb dX7_clear_12 (by decide) ?_
    refine kc_i (va_runV (As := [.int (nI 1)]) (rest := []) ⟨hx, hb, hml, hown, hts⟩ (c_X7_refused l G B (mu (mu (mu μ md (.inr (7, [.int (nI fl), .ref ab, .ref av, .int (nI st), .ref c1, .ref c2, .ref c3, .ref c4, .ref c5, .ref c6, .ref c7, .ref c8, .ref c9]))) ab (.inl (G.2 0, 3744, .inr (.inl f)))) av (.inl (G.2 2, 26, .inl v))) md ab av c1 c2 c3 c4 c5 c6 c7 c8 c9 fl st f v 1 ((mu_n ne0_2).trans ((mu_n ne0_1).trans (mu_s _ _ _))) ((mu_n ((mp_ne hab hav (by simp)))).trans (mu_s _ _ _)) (mu_s _ _ _) (by omega)) (cwV 1 hts gX7_clear_X7_refused rfl rfl rfl (by decide +kernel) ⟨Nat.le_of_ble_eq_true rfl, Nat.le_of_ble_eq_true rfl⟩) ⟨KW.blind, hP.recv hK rfl ((mu_n ne0_2).trans ((mu_n ne0_1).trans (mu_s _ _ _))), fun U9 hU9 hW9 => ⟨rfl, KW.pre hBs hKK hS hP U9 hU9 hW9⟩⟩ rfl rfl hl.1 rfl (lv_room (Nat.le_of_ble_eq_true rfl)) dX7_clear_13 ⟨(Nat.le_of_ble_eq_true rfl), (Nat.le_of_ble_eq_true rfl)⟩) hS (fun r13 m13 H locs hq9 hP hz9 hS => ?_)
    obtain ⟨he9, hw0, hw1⟩ := hq9
    rw [he9] at hP
    have hP : mw G.1 vwCl B (mu (mu (mu μ md (.inr (7, [.int (nI 1), .ref ab, .ref av, .int (nI st), .ref c1, .ref c2, .ref c3, .ref c4, .ref c5, .ref c6, .ref c7, .ref c8, .ref c9]))) ab (.inl (G.2 0, 3744, .inr (.inl f)))) av (.inl (G.2 2, 26, .inl v))) _ := mw_eq ((mu_c _ _ ((Ne.symm ne0_2))).trans (congrArg (fun z => mu z av (.inl (G.2 2, 26, .inl v))) ((mu_c _ _ ((Ne.symm ne0_1))).trans (congrArg (fun z => mu z ab (.inl (G.2 0, 3744, .inr (.inl f)))) (mu_u _ _ _ _))))) hP
    obtain rfl : r13 = nI 1 := hw1 (by decide)
    refine lv_if_ne (tgt := 24) hx hb dX7_clear_16 (by decide) (fun hc16 => ?_) (fun hc16 => ?_)
    · rw [hQ]
      exact W.vret hx hb hr (fun t99 ht99 hW99 => ⟨⟨mu (mu (mu μ md (.inr (7, [.int (nI 1), .ref ab, .ref av, .int (nI st), .ref c1, .ref c2, .ref c3, .ref c4, .ref c5, .ref c6, .ref c7, .ref c8, .ref c9]))) ab (.inl (G.2 0, 3744, .inr (.inl f)))) av (.inl (G.2 2, 26, .inl v)), rfl, (⟨_, _, _, rfl, Or.inr ⟨rfl, fun h9 => by first | exact yn_f hy2 hc5 h9⟩⟩), by show mw _ _ _ _ t99.heap; rw [ht99]; exact hP⟩, hS.F ht99⟩) hS.2.2 dX7_clear_24
    · exact absurd hc16 (by decide)
  · refine lv_iconst (v := nI 0) hx hb dX7_clear_8 (by decide) ?_
    refine lv_goto (tgt := 13) hx hb dX7_clear_9 (by decide) ?_
    refine kc_i (va_runV (As := [.int (nI 0)]) (rest := []) ⟨hx, hb, hml, hown, hts⟩ (c_X7_refused l G B (mu (mu (mu μ md (.inr (7, [.int (nI fl), .ref ab, .ref av, .int (nI st), .ref c1, .ref c2, .ref c3, .ref c4, .ref c5, .ref c6, .ref c7, .ref c8, .ref c9]))) ab (.inl (G.2 0, 3744, .inr (.inl f)))) av (.inl (G.2 2, 26, .inl v))) md ab av c1 c2 c3 c4 c5 c6 c7 c8 c9 fl st f v 0 ((mu_n ne0_2).trans ((mu_n ne0_1).trans (mu_s _ _ _))) ((mu_n ((mp_ne hab hav (by simp)))).trans (mu_s _ _ _)) (mu_s _ _ _) (by omega)) (cwV 1 hts gX7_clear_X7_refused rfl rfl rfl (by decide +kernel) ⟨Nat.le_of_ble_eq_true rfl, Nat.le_of_ble_eq_true rfl⟩) ⟨KW.blind, hP.recv hK rfl ((mu_n ne0_2).trans ((mu_n ne0_1).trans (mu_s _ _ _))), fun U9 hU9 hW9 => ⟨rfl, KW.pre hBs hKK hS hP U9 hU9 hW9⟩⟩ rfl rfl hl.1 rfl (lv_room (Nat.le_of_ble_eq_true rfl)) dX7_clear_13 ⟨(Nat.le_of_ble_eq_true rfl), (Nat.le_of_ble_eq_true rfl)⟩) hS (fun r13 m13 H locs hq9 hP hz9 hS => ?_)
    obtain ⟨he9, hw0, hw1⟩ := hq9
    rw [he9] at hP
    have hP : mw G.1 vwCl B (mu (mu (mu μ md (.inr (7, [.int (nI 0), .ref ab, .ref av, .int (nI st), .ref c1, .ref c2, .ref c3, .ref c4, .ref c5, .ref c6, .ref c7, .ref c8, .ref c9]))) ab (.inl (G.2 0, 3744, .inr (.inl f)))) av (.inl (G.2 2, 26, .inl v))) _ := mw_eq ((mu_c _ _ ((Ne.symm ne0_2))).trans (congrArg (fun z => mu z av (.inl (G.2 2, 26, .inl v))) ((mu_c _ _ ((Ne.symm ne0_1))).trans (congrArg (fun z => mu z ab (.inl (G.2 0, 3744, .inr (.inl f)))) (mu_u _ _ _ _))))) hP
    obtain rfl : r13 = nI 0 := hw0 rfl
    refine lv_if_ne (tgt := 24) hx hb dX7_clear_16 (by decide) (fun hc16 => ?_) (fun hc16 => ?_)
    · exact absurd rfl hc16
    · have hok : okS x9 := yn_t hy2 hc5
      obtain ⟨nx9, hnx9, enx9⟩ := ok_nat (n := 6) (by decide) hok
      subst enx9
      refine lv_aload_n hx hb dX7_clear_19 rfl (lv_at hl 0 rfl) ?_
      refine lv_iload_n hx hb dX7_clear_20 rfl (lv_at hl 1 rfl) ?_
      refine kc_v (va_runV (As := [.int (nI nx9)]) (rest := []) ⟨hx, hb, hml, hown, hts⟩ (c_X7_all l G B (mu (mu (mu μ md (.inr (7, [.int (nI 0), .ref ab, .ref av, .int (nI st), .ref c1, .ref c2, .ref c3, .ref c4, .ref c5, .ref c6, .ref c7, .ref c8, .ref c9]))) ab (.inl (G.2 0, 3744, .inr (.inl f)))) av (.inl (G.2 2, 26, .inl v))) md ab av c1 c2 c3 c4 c5 c6 c7 c8 c9 0 st f v nx9 ((mu_n ne0_2).trans ((mu_n ne0_1).trans (mu_s _ _ _))) ((mu_n ((mp_ne hab hav (by simp)))).trans (mu_s _ _ _)) (mu_s _ _ _) (by omega)) (cwV 1 hts gX7_clear_X7_all rfl rfl rfl (by decide +kernel) ⟨Nat.le_of_ble_eq_true rfl, Nat.le_of_ble_eq_true rfl⟩) ⟨KW.blind, hP.recv hK rfl ((mu_n ne0_2).trans ((mu_n ne0_1).trans (mu_s _ _ _))), fun U9 hU9 hW9 => ⟨rfl, KW.pre hBs hKK hS hP U9 hU9 hW9⟩⟩ rfl rfl hl.1 rfl (lv_room (Nat.le_of_ble_eq_true rfl)) dX7_clear_21 ⟨(Nat.le_of_ble_eq_true rfl), (Nat.le_of_ble_eq_true rfl)⟩) hS (fun m21 H locs hq9 hP hz9 hS => ?_)
      obtain ⟨g21, rfl, hL21⟩ := hq9
      have hP : mw G.1 vwCl B (mu (mu (mu μ md (.inr (7, [.int (nI 0), .ref ab, .ref av, .int (nI st), .ref c1, .ref c2, .ref c3, .ref c4, .ref c5, .ref c6, .ref c7, .ref c8, .ref c9]))) ab (.inl (G.2 0, 3744, .inr (.inl g21)))) av (.inl (G.2 2, 26, .inl (upd v nx9 (nI 0))))) _ := mw_eq ((congrArg (fun z => mu z av (.inl (G.2 2, 26, .inl (upd v nx9 (nI 0))))) ((mu_c _ _ ((mp_ne hav hab (by simp)))).trans (congrArg (fun z => mu z av (.inl (G.2 2, 26, .inl v))) (mu_u _ _ _ _)))).trans (mu_u _ _ _ _)) hP
      rw [hQ]
      exact W.vret hx hb hr (fun t99 ht99 hW99 => ⟨⟨mu (mu (mu μ md (.inr (7, [.int (nI 0), .ref ab, .ref av, .int (nI st), .ref c1, .ref c2, .ref c3, .ref c4, .ref c5, .ref c6, .ref c7, .ref c8, .ref c9]))) ab (.inl (G.2 0, 3744, .inr (.inl g21)))) av (.inl (G.2 2, 26, .inl (upd v nx9 (nI 0)))), rfl, (⟨_, _, _, rfl, Or.inl ⟨rfl, hok⟩⟩), by show mw _ _ _ _ t99.heap; rw [ht99]; exact hP⟩, hS.F ht99⟩) hS.2.2 dX7_clear_24

abbrev rm_X7_copy : Room := { frames := 2, cells := 0, slots := 0, locals := 42 }
set_option maxHeartbeats 4000000 in
set_option maxRecDepth 100000 in
theorem c_X7_copy (l : Launch) (G : GG) (B : Nat) (μ : mp) (md ab av c1 c2 c3 c4 c5 c6 c7 c8 c9 fl st : Nat) (f : Nat → Int64) (v : Nat → Int32) (x9 y9 : Int32) (hm : μ md = some (.inr (7, [.int (nI fl), .ref ab, .ref av, .int (nI st), .ref c1, .ref c2, .ref c3, .ref c4, .ref c5, .ref c6, .ref c7, .ref c8, .ref c9]))) (hab : μ ab = some (.inl (G.2 0, 3744, .inr (.inl f)))) (hav : μ av = some (.inl (G.2 2, 26, .inl v))) (hNM : NM f v) : Met l yX7_copy wsX7_copy rm_X7_copy (va_Pc [.ref md, .int x9, .int y9] (KW G B μ)) (va_Qv (fun μ2 => ∃ (fl9 : Nat) (g9 : Nat → Int64) (w9 : Nat → Int32), μ2 = mu (mu (mu μ md (.inr (7, [.int (nI fl9), .ref ab, .ref av, .int (nI st), .ref c1, .ref c2, .ref c3, .ref c4, .ref c5, .ref c6, .ref c7, .ref c8, .ref c9]))) ab (.inl (G.2 0, 3744, .inr (.inl g9)))) av (.inl (G.2 2, 26, .inl w9)) ∧ ((fl9 = 0 ∧ (okS x9 ∧ okS y9)) ∨ (fl9 = 1 ∧ ¬ (okS x9 ∧ okS y9)))) (BB G B) (fun q => B ≤ q)) 0 0 (fun q => B ≤ q) := by
  refine Met.ofW (cc := cX7_copy) (maxL := 3) (ret := none) (by decide) rfl ?_
  intro p e s m args below meth c s₁ B9 hml hv
  obtain ⟨hargs, hBs, hP, hKK⟩ := hv
  have hx := B9.exec
  have hb := B9.bytes
  have hr := B9.returns
  have hts := atoms_spec (ws := wsX7_copy) B9.pre
  have hown : s.vm.findClass RX7 = some m.cls := findClass_of_methodNamed B9.named
  have hlocks := B9.notSynchronized
  have hK := hKK.k
  have hS : va_S (fun q => B ≤ q) s.heap s.heap [] := va_S.rf
  obtain ⟨Q, hQ⟩ : ∃ Q, Q = MQ below (va_Qv (fun μ2 => ∃ (fl9 : Nat) (g9 : Nat → Int64) (w9 : Nat → Int32), μ2 = mu (mu (mu μ md (.inr (7, [.int (nI fl9), .ref ab, .ref av, .int (nI st), .ref c1, .ref c2, .ref c3, .ref c4, .ref c5, .ref c6, .ref c7, .ref c8, .ref c9]))) ab (.inl (G.2 0, 3744, .inr (.inl g9)))) av (.inl (G.2 2, 26, .inl w9)) ∧ ((fl9 = 0 ∧ (okS x9 ∧ okS y9)) ∨ (fl9 = 1 ∧ ¬ (okS x9 ∧ okS y9)))) (BB G B) (fun q => B ≤ q)) args s 0 0 (fun q => B ≤ q) := ⟨_, rfl⟩
  rw [← hQ]
  have ne0_1 : md ≠ ab := mp_ne hm hab (by simp)
  have ne0_2 : md ≠ av := mp_ne hm hav (by simp)
  have hP : mw G.1 vwCl B (mu (mu (mu μ md (.inr (7, [.int (nI fl), .ref ab, .ref av, .int (nI st), .ref c1, .ref c2, .ref c3, .ref c4, .ref c5, .ref c6, .ref c7, .ref c8, .ref c9]))) ab (.inl (G.2 0, 3744, .inr (.inl f)))) av (.inl (G.2 2, 26, .inl v))) s.heap := mw_eq ((congrArg (fun z => mu z av (.inl (G.2 2, 26, .inl v))) ((congrArg (fun z => mu z ab (.inl (G.2 0, 3744, .inr (.inl f)))) (mu_i hm)).trans (mu_i hab))).trans (mu_i hav)).symm hP
  have hl := lv_entry ([.ref md, .int x9, .int y9]) (n := 3) (Nat.le_of_ble_eq_true rfl)
  have he9 : entryFrame m args 3 = entryFrame m ([.ref md, .int x9, .int y9] : List Value).toArray 3 := by rw [hargs]
  rw [he9, lg_entry_eq]
  generalize (lg_sl ([.ref md, .int x9, .int y9]) ++ List.replicate (3 - (lg_sl ([.ref md, .int x9, .int y9])).length) Slot.unset).toArray = ls at hl ⊢
  have hl : lv_has ls 3 [(0, .ref md), (1, .int x9), (2, .int y9)] := hl
  refine lv_aload_n hx hb dX7_copy_0 rfl (lv_at hl 0 rfl) ?_
  refine lv_iload_n hx hb dX7_copy_1 rfl (lv_at hl 1 rfl) ?_
  refine kc_i (va_runS (As := [.int x9]) (rest := [.ref md]) ⟨hx, hb, hml, hown, hts⟩ (c_X7_isSlot l G B (mu (mu (mu μ md (.inr (7, [.int (nI fl), .ref ab, .ref av, .int (nI st), .ref c1, .ref c2, .ref c3, .ref c4, .ref c5, .ref c6, .ref c7, .ref c8, .ref c9]))) ab (.inl (G.2 0, 3744, .inr (.inl f)))) av (.inl (G.2 2, 26, .inl v))) x9) (va_cwS 1 hts gX7_copy_X7_isSlot rfl rfl rfl (by decide +kernel) ⟨Nat.le_of_ble_eq_true rfl, Nat.le_of_ble_eq_true rfl⟩) ⟨KW.blind, fun U9 hU9 hW9 => ⟨rfl, KW.pre hBs hKK hS hP U9 hU9 hW9⟩⟩ rfl rfl hl.1 rfl (lv_room (Nat.le_of_ble_eq_true rfl)) dX7_copy_2 ⟨(Nat.le_of_ble_eq_true rfl), (Nat.le_of_ble_eq_true rfl)⟩) hS (fun r2 m2 H locs hq9 hP hz9 hS => ?_)
  obtain ⟨he9, hy2⟩ := hq9
  rw [he9] at hP
  refine lv_if_eq (tgt := 19) hx hb dX7_copy_5 (by decide) (fun hc5 => ?_) (fun hc5 => ?_)
  · refine lv_iconst (v := nI 1) hx hb dX7_copy_19 (by decide) ?_
    refine kc_i (va_runV (As := [.int (nI 1)]) (rest := []) ⟨hx, hb, hml, hown, hts⟩ (c_X7_refused l G B (mu (mu (mu μ md (.inr (7, [.int (nI fl), .ref ab, .ref av, .int (nI st), .ref c1, .ref c2, .ref c3, .ref c4, .ref c5, .ref c6, .ref c7, .ref c8, .ref c9]))) ab (.inl (G.2 0, 3744, .inr (.inl f)))) av (.inl (G.2 2, 26, .inl v))) md ab av c1 c2 c3 c4 c5 c6 c7 c8 c9 fl st f v 1 ((mu_n ne0_2).trans ((mu_n ne0_1).trans (mu_s _ _ _))) ((mu_n ((mp_ne hab hav (by simp)))).trans (mu_s _ _ _)) (mu_s _ _ _) (by omega)) (cwV 1 hts gX7_copy_X7_refused rfl rfl rfl (by decide +kernel) ⟨Nat.le_of_ble_eq_true rfl, Nat.le_of_ble_eq_true rfl⟩) ⟨KW.blind, hP.recv hK rfl ((mu_n ne0_2).trans ((mu_n ne0_1).trans (mu_s _ _ _))), fun U9 hU9 hW9 => ⟨rfl, KW.pre hBs hKK hS hP U9 hU9 hW9⟩⟩ rfl rfl hl.1 rfl (lv_room (Nat.le_of_ble_eq_true rfl)) dX7_copy_20 ⟨(Nat.le_of_ble_eq_true rfl), (Nat.le_of_ble_eq_true rfl)⟩) hS (fun r20 m20 H locs hq9 hP hz9 hS => ?_)
    obtain ⟨he9, hw0, hw1⟩ := hq9
    rw [he9] at hP
    have hP : mw G.1 vwCl B (mu (mu (mu μ md (.inr (7, [.int (nI 1), .ref ab, .ref av, .int (nI st), .ref c1, .ref c2, .ref c3, .ref c4, .ref c5, .ref c6, .ref c7, .ref c8, .ref c9]))) ab (.inl (G.2 0, 3744, .inr (.inl f)))) av (.inl (G.2 2, 26, .inl v))) _ := mw_eq ((mu_c _ _ ((Ne.symm ne0_2))).trans (congrArg (fun z => mu z av (.inl (G.2 2, 26, .inl v))) ((mu_c _ _ ((Ne.symm ne0_1))).trans (congrArg (fun z => mu z ab (.inl (G.2 0, 3744, .inr (.inl f)))) (mu_u _ _ _ _))))) hP
    obtain rfl : r20 = nI 1 := hw1 (by decide)
    refine lv_if_ne (tgt := 32) hx hb dX7_copy_23 (by decide) (fun hc23 => ?_) (fun hc23 => ?_)
    · rw [hQ]
      exact W.vret hx hb hr (fun t99 ht99 hW99 => ⟨⟨mu (mu (mu μ md (.inr (7, [.int (nI 1), .ref ab, .ref av, .int (nI st), .ref c1, .ref c2, .ref c3, .ref c4, .ref c5, .ref c6, .ref c7, .ref c8, .ref c9]))) ab (.inl (G.2 0, 3744, .inr (.inl f)))) av (.inl (G.2 2, 26, .inl v)), rfl, (⟨_, _, _, rfl, Or.inr ⟨rfl, fun h9 => by first | exact yn_f hy2 hc5 h9.1 | exact yn_f hy9 hc12 h9.2⟩⟩), by show mw _ _ _ _ t99.heap; rw [ht99]; exact hP⟩, hS.F ht99⟩) hS.2.2 dX7_copy_32
    · exact absurd hc23 (by decide)
  · refine lv_iload_n hx hb dX7_copy_8 rfl (lv_at hl 2 rfl) ?_
    refine kc_i (va_runS (As := [.int y9]) (rest := [.ref md]) ⟨hx, hb, hml, hown, hts⟩ (c_X7_isSlot l G B (mu (mu (mu μ md (.inr (7, [.int (nI fl), .ref ab, .ref av, .int (nI st), .ref c1, .ref c2, .ref c3, .ref c4, .ref c5, .ref c6, .ref c7, .ref c8, .ref c9]))) ab (.inl (G.2 0, 3744, .inr (.inl f)))) av (.inl (G.2 2, 26, .inl v))) y9) (va_cwS 1 hts gX7_copy_X7_isSlot rfl rfl rfl (by decide +kernel) ⟨Nat.le_of_ble_eq_true rfl, Nat.le_of_ble_eq_true rfl⟩) ⟨KW.blind, fun U9 hU9 hW9 => ⟨rfl, KW.pre hBs hKK hS hP U9 hU9 hW9⟩⟩ rfl rfl hl.1 rfl (lv_room (Nat.le_of_ble_eq_true rfl)) dX7_copy_9 ⟨(Nat.le_of_ble_eq_true rfl), (Nat.le_of_ble_eq_true rfl)⟩) hS (fun r9 m9 H locs hq9 hP hz9 hS => ?_)
    obtain ⟨he9, hy9⟩ := hq9
    rw [he9] at hP
    refine lv_if_eq (tgt := 19) hx hb dX7_copy_12 (by decide) (fun hc12 => ?_) (fun hc12 => ?_)
    · refine lv_iconst (v := nI 1) hx hb dX7_copy_19 (by decide) ?_
      refine kc_i (va_runV (As := [.int (nI 1)]) (rest := []) ⟨hx, hb, hml, hown, hts⟩ (c_X7_refused l G B (mu (mu (mu μ md (.inr (7, [.int (nI fl), .ref ab, .ref av, .int (nI st), .ref c1, .ref c2, .ref c3, .ref c4, .ref c5, .ref c6, .ref c7, .ref c8, .ref c9]))) ab (.inl (G.2 0, 3744, .inr (.inl f)))) av (.inl (G.2 2, 26, .inl v))) md ab av c1 c2 c3 c4 c5 c6 c7 c8 c9 fl st f v 1 ((mu_n ne0_2).trans ((mu_n ne0_1).trans (mu_s _ _ _))) ((mu_n ((mp_ne hab hav (by simp)))).trans (mu_s _ _ _)) (mu_s _ _ _) (by omega)) (cwV 1 hts gX7_copy_X7_refused rfl rfl rfl (by decide +kernel) ⟨Nat.le_of_ble_eq_true rfl, Nat.le_of_ble_eq_true rfl⟩) ⟨KW.blind, hP.recv hK rfl ((mu_n ne0_2).trans ((mu_n ne0_1).trans (mu_s _ _ _))), fun U9 hU9 hW9 => ⟨rfl, KW.pre hBs hKK hS hP U9 hU9 hW9⟩⟩ rfl rfl hl.1 rfl (lv_room (Nat.le_of_ble_eq_true rfl)) dX7_copy_20 ⟨(Nat.le_of_ble_eq_true rfl), (Nat.le_of_ble_eq_true rfl)⟩) hS (fun r20 m20 H locs hq9 hP hz9 hS => ?_)
      obtain ⟨he9, hw0, hw1⟩ := hq9
      rw [he9] at hP
      have hP : mw G.1 vwCl B (mu (mu (mu μ md (.inr (7, [.int (nI 1), .ref ab, .ref av, .int (nI st), .ref c1, .ref c2, .ref c3, .ref c4, .ref c5, .ref c6, .ref c7, .ref c8, .ref c9]))) ab (.inl (G.2 0, 3744, .inr (.inl f)))) av (.inl (G.2 2, 26, .inl v))) _ := mw_eq ((mu_c _ _ ((Ne.symm ne0_2))).trans (congrArg (fun z => mu z av (.inl (G.2 2, 26, .inl v))) ((mu_c _ _ ((Ne.symm ne0_1))).trans (congrArg (fun z => mu z ab (.inl (G.2 0, 3744, .inr (.inl f)))) (mu_u _ _ _ _))))) hP
      obtain rfl : r20 = nI 1 := hw1 (by decide)
      refine lv_if_ne (tgt := 32) hx hb dX7_copy_23 (by decide) (fun hc23 => ?_) (fun hc23 => ?_)
      · rw [hQ]
        exact W.vret hx hb hr (fun t99 ht99 hW99 => ⟨⟨mu (mu (mu μ md (.inr (7, [.int (nI 1), .ref ab, .ref av, .int (nI st), .ref c1, .ref c2, .ref c3, .ref c4, .ref c5, .ref c6, .ref c7, .ref c8, .ref c9]))) ab (.inl (G.2 0, 3744, .inr (.inl f)))) av (.inl (G.2 2, 26, .inl v)), rfl, (⟨_, _, _, rfl, Or.inr ⟨rfl, fun h9 => by first | exact yn_f hy2 hc5 h9.1 | exact yn_f hy9 hc12 h9.2⟩⟩), by show mw _ _ _ _ t99.heap; rw [ht99]; exact hP⟩, hS.F ht99⟩) hS.2.2 dX7_copy_32
      · exact absurd hc23 (by decide)
    · refine lv_iconst (v := nI 0) hx hb dX7_copy_15 (by decide) ?_
      refine lv_goto (tgt := 20) hx hb dX7_copy_16 (by decide) ?_
      refine kc_i (va_runV (As := [.int (nI 0)]) (rest := []) ⟨hx, hb, hml, hown, hts⟩ (c_X7_refused l G B (mu (mu (mu μ md (.inr (7, [.int (nI fl), .ref ab, .ref av, .int (nI st), .ref c1, .ref c2, .ref c3, .ref c4, .ref c5, .ref c6, .ref c7, .ref c8, .ref c9]))) ab (.inl (G.2 0, 3744, .inr (.inl f)))) av (.inl (G.2 2, 26, .inl v))) md ab av c1 c2 c3 c4 c5 c6 c7 c8 c9 fl st f v 0 ((mu_n ne0_2).trans ((mu_n ne0_1).trans (mu_s _ _ _))) ((mu_n ((mp_ne hab hav (by simp)))).trans (mu_s _ _ _)) (mu_s _ _ _) (by omega)) (cwV 1 hts gX7_copy_X7_refused rfl rfl rfl (by decide +kernel) ⟨Nat.le_of_ble_eq_true rfl, Nat.le_of_ble_eq_true rfl⟩) ⟨KW.blind, hP.recv hK rfl ((mu_n ne0_2).trans ((mu_n ne0_1).trans (mu_s _ _ _))), fun U9 hU9 hW9 => ⟨rfl, KW.pre hBs hKK hS hP U9 hU9 hW9⟩⟩ rfl rfl hl.1 rfl (lv_room (Nat.le_of_ble_eq_true rfl)) dX7_copy_20 ⟨(Nat.le_of_ble_eq_true rfl), (Nat.le_of_ble_eq_true rfl)⟩) hS (fun r20 m20 H locs hq9 hP hz9 hS => ?_)
      obtain ⟨he9, hw0, hw1⟩ := hq9
      rw [he9] at hP
      have hP : mw G.1 vwCl B (mu (mu (mu μ md (.inr (7, [.int (nI 0), .ref ab, .ref av, .int (nI st), .ref c1, .ref c2, .ref c3, .ref c4, .ref c5, .ref c6, .ref c7, .ref c8, .ref c9]))) ab (.inl (G.2 0, 3744, .inr (.inl f)))) av (.inl (G.2 2, 26, .inl v))) _ := mw_eq ((mu_c _ _ ((Ne.symm ne0_2))).trans (congrArg (fun z => mu z av (.inl (G.2 2, 26, .inl v))) ((mu_c _ _ ((Ne.symm ne0_1))).trans (congrArg (fun z => mu z ab (.inl (G.2 0, 3744, .inr (.inl f)))) (mu_u _ _ _ _))))) hP
      obtain rfl : r20 = nI 0 := hw0 rfl
      refine lv_if_ne (tgt := 32) hx hb dX7_copy_23 (by decide) (fun hc23 => ?_) (fun hc23 => ?_)
      · exact absurd rfl hc23
      · have hok : okS x9 ∧ okS y9 := ⟨yn_t hy2 hc5, yn_t hy9 hc12⟩
        obtain ⟨nx9, hnx9, enx9⟩ := ok_nat (n := 6) (by decide) hok.1
        subst enx9
        obtain ⟨ny9, hny9, eny9⟩ := ok_nat (n := 6) (by decide) hok.2
        subst eny9
        refine lv_aload_n hx hb dX7_copy_26 rfl (lv_at hl 0 rfl) ?_
        refine lv_iload_n hx hb dX7_copy_27 rfl (lv_at hl 1 rfl) ?_
        refine lv_iload_n hx hb dX7_copy_28 rfl (lv_at hl 2 rfl) ?_
        refine kc_v (va_runV (As := [.int (nI nx9), .int (nI ny9)]) (rest := []) ⟨hx, hb, hml, hown, hts⟩ (c_X7_load l G B (mu (mu (mu μ md (.inr (7, [.int (nI 0), .ref ab, .ref av, .int (nI st), .ref c1, .ref c2, .ref c3, .ref c4, .ref c5, .ref c6, .ref c7, .ref c8, .ref c9]))) ab (.inl (G.2 0, 3744, .inr (.inl f)))) av (.inl (G.2 2, 26, .inl v))) md ab av c1 c2 c3 c4 c5 c6 c7 c8 c9 0 st f v nx9 ny9 ((mu_n ne0_2).trans ((mu_n ne0_1).trans (mu_s _ _ _))) ((mu_n ((mp_ne hab hav (by simp)))).trans (mu_s _ _ _)) (mu_s _ _ _) (by omega) (by omega) (hNM.2.2.2 ny9)) (cwV 2 hts gX7_copy_X7_load rfl rfl rfl (by decide +kernel) ⟨Nat.le_of_ble_eq_true rfl, Nat.le_of_ble_eq_true rfl⟩) ⟨KW.blind, hP.recv hK rfl ((mu_n ne0_2).trans ((mu_n ne0_1).trans (mu_s _ _ _))), fun U9 hU9 hW9 => ⟨rfl, KW.pre hBs hKK hS hP U9 hU9 hW9⟩⟩ rfl rfl hl.1 rfl (lv_room (Nat.le_of_ble_eq_true rfl)) dX7_copy_29 ⟨(Nat.le_of_ble_eq_true rfl), (Nat.le_of_ble_eq_true rfl)⟩) hS (fun m29 H locs hq9 hP hz9 hS => ?_)
        obtain ⟨g29, rfl, hL29⟩ := hq9
        have hP : mw G.1 vwCl B (mu (mu (mu μ md (.inr (7, [.int (nI 0), .ref ab, .ref av, .int (nI st), .ref c1, .ref c2, .ref c3, .ref c4, .ref c5, .ref c6, .ref c7, .ref c8, .ref c9]))) ab (.inl (G.2 0, 3744, .inr (.inl g29)))) av (.inl (G.2 2, 26, .inl (upd v nx9 (v ny9))))) _ := mw_eq ((congrArg (fun z => mu z av (.inl (G.2 2, 26, .inl (upd v nx9 (v ny9))))) ((mu_c _ _ ((mp_ne hav hab (by simp)))).trans (congrArg (fun z => mu z av (.inl (G.2 2, 26, .inl v))) (mu_u _ _ _ _)))).trans (mu_u _ _ _ _)) hP
        rw [hQ]
        exact W.vret hx hb hr (fun t99 ht99 hW99 => ⟨⟨mu (mu (mu μ md (.inr (7, [.int (nI 0), .ref ab, .ref av, .int (nI st), .ref c1, .ref c2, .ref c3, .ref c4, .ref c5, .ref c6, .ref c7, .ref c8, .ref c9]))) ab (.inl (G.2 0, 3744, .inr (.inl g29)))) av (.inl (G.2 2, 26, .inl (upd v nx9 (v ny9)))), rfl, (⟨_, _, _, rfl, Or.inl ⟨rfl, hok⟩⟩), by show mw _ _ _ _ t99.heap; rw [ht99]; exact hP⟩, hS.F ht99⟩) hS.2.2 dX7_copy_32

abbrev rm_X7_isEmpty : Room := { frames := 2, cells := 0, slots := 0, locals := 42 }
set_option maxHeartbeats 4000000 in
set_option maxRecDepth 100000 in
theorem c_X7_isEmpty (l : Launch) (G : GG) (B : Nat) (μ : mp) (md ab av c1 c2 c3 c4 c5 c6 c7 c8 c9 fl st : Nat) (f : Nat → Int64) (v : Nat → Int32) (x9 : Int32) (hm : μ md = some (.inr (7, [.int (nI fl), .ref ab, .ref av, .int (nI st), .ref c1, .ref c2, .ref c3, .ref c4, .ref c5, .ref c6, .ref c7, .ref c8, .ref c9]))) (hab : μ ab = some (.inl (G.2 0, 3744, .inr (.inl f)))) (hav : μ av = some (.inl (G.2 2, 26, .inl v))) (hNM : NM f v) : Met l yX7_isEmpty wsX7_isEmpty rm_X7_isEmpty (va_Pc [.ref md, .int x9] (KW G B μ)) (va_Qi (fun r μ2 => ∃ (fl9 : Nat) (g9 : Nat → Int64) (w9 : Nat → Int32), μ2 = mu (mu (mu μ md (.inr (7, [.int (nI fl9), .ref ab, .ref av, .int (nI st), .ref c1, .ref c2, .ref c3, .ref c4, .ref c5, .ref c6, .ref c7, .ref c8, .ref c9]))) ab (.inl (G.2 0, 3744, .inr (.inl g9)))) av (.inl (G.2 2, 26, .inl w9)) ∧ ((fl9 = 0 ∧ (okS x9) ∧ r = 0) ∨ (fl9 = 1 ∧ ¬ (okS x9)))) (BB G B) (fun q => B ≤ q)) 0 0 (fun q => B ≤ q) := by
  refine Met.ofW (cc := cX7_isEmpty) (maxL := 2) (ret := (some .boolean)) (by decide) rfl ?_
  intro p e s m args below meth c s₁ B9 hml hv
  obtain ⟨hargs, hBs, hP, hKK⟩ := hv
  have hx := B9.exec
  have hb := B9.bytes
  have hr := B9.returns
  have hts := atoms_spec (ws := wsX7_isEmpty) B9.pre
  have hown : s.vm.findClass RX7 = some m.cls := findClass_of_methodNamed B9.named
  have hlocks := B9.notSynchronized
  have hK := hKK.k
  have hS : va_S (fun q => B ≤ q) s.heap s.heap [] := va_S.rf
  obtain ⟨Q, hQ⟩ : ∃ Q, Q = MQ below (va_Qi (fun r μ2 => ∃ (fl9 : Nat) (g9 : Nat → Int64) (w9 : Nat → Int32), μ2 = mu (mu (mu μ md (.inr (7, [.int (nI fl9), .ref ab, .ref av, .int (nI st), .ref c1, .ref c2, .ref c3, .ref c4, .ref c5, .ref c6, .ref c7, .ref c8, .ref c9]))) ab (.inl (G.2 0, 3744, .inr (.inl g9)))) av (.inl (G.2 2, 26, .inl w9)) ∧ ((fl9 = 0 ∧ (okS x9) ∧ r = 0) ∨ (fl9 = 1 ∧ ¬ (okS x9)))) (BB G B) (fun q => B ≤ q)) args s 0 0 (fun q => B ≤ q) := ⟨_, rfl⟩
  rw [← hQ]
  have ne0_1 : md ≠ ab := mp_ne hm hab (by simp)
  have ne0_2 : md ≠ av := mp_ne hm hav (by simp)
  have in_X7_isEmpty_X7 : ∀ w ∈ wsX70, w ∈ wsX7_isEmpty := by decide +kernel
  have hP : mw G.1 vwCl B (mu (mu (mu μ md (.inr (7, [.int (nI fl), .ref ab, .ref av, .int (nI st), .ref c1, .ref c2, .ref c3, .ref c4, .ref c5, .ref c6, .ref c7, .ref c8, .ref c9]))) ab (.inl (G.2 0, 3744, .inr (.inl f)))) av (.inl (G.2 2, 26, .inl v))) s.heap := mw_eq ((congrArg (fun z => mu z av (.inl (G.2 2, 26, .inl v))) ((congrArg (fun z => mu z ab (.inl (G.2 0, 3744, .inr (.inl f)))) (mu_i hm)).trans (mu_i hab))).trans (mu_i hav)).symm hP
  have hl := lv_entry ([.ref md, .int x9]) (n := 2) (Nat.le_of_ble_eq_true rfl)
  have he9 : entryFrame m args 2 = entryFrame m ([.ref md, .int x9] : List Value).toArray 2 := by rw [hargs]
  rw [he9, lg_entry_eq]
  generalize (lg_sl ([.ref md, .int x9]) ++ List.replicate (2 - (lg_sl ([.ref md, .int x9])).length) Slot.unset).toArray = ls at hl ⊢
  have hl : lv_has ls 2 [(0, .ref md), (1, .int x9)] := hl
  refine lv_aload_n hx hb dX7_isEmpty_0 rfl (lv_at hl 0 rfl) ?_
  refine lv_iload_n hx hb dX7_isEmpty_1 rfl (lv_at hl 1 rfl) ?_
  refine kc_i (va_runS (As := [.int x9]) (rest := [.ref md]) ⟨hx, hb, hml, hown, hts⟩ (c_X7_isSlot l G B (mu (mu (mu μ md (.inr (7, [.int (nI fl), .ref ab, .ref av, .int (nI st), .ref c1, .ref c2, .ref c3, .ref c4, .ref c5, .ref c6, .ref c7, .ref c8, .ref c9]))) ab (.inl (G.2 0, 3744, .inr (.inl f)))) av (.inl (G.2 2, 26, .inl v))) x9) (va_cwS 1 hts gX7_isEmpty_X7_isSlot rfl rfl rfl (by decide +kernel) ⟨Nat.le_of_ble_eq_true rfl, Nat.le_of_ble_eq_true rfl⟩) ⟨KW.blind, fun U9 hU9 hW9 => ⟨rfl, KW.pre hBs hKK hS hP U9 hU9 hW9⟩⟩ rfl rfl hl.1 rfl (lv_room (Nat.le_of_ble_eq_true rfl)) dX7_isEmpty_2 ⟨(Nat.le_of_ble_eq_true rfl), (Nat.le_of_ble_eq_true rfl)⟩) hS (fun r2 m2 H locs hq9 hP hz9 hS => ?_)
  obtain ⟨he9, hy2⟩ := hq9
  rw [he9] at hP
  refine lv_if_eq (tgt := 12) hx hb dX7_isEmpty_5 (by decide) (fun hc5 => ?_) (fun hc5 => ?_)
  · refine lv_iconst (v := nI 1) hx hb dX7_isEmpty_12 (by decide) ?_
    refine kc_i (va_runV (As := [.int (nI 1)]) (rest := []) ⟨hx, hb, hml, hown, hts⟩ (c_X7_refused l G B (mu (mu (mu μ md (.inr (7, [.int (nI fl), .ref ab, .ref av, .int (nI st), .ref c1, .ref c2, .ref c3, .ref c4, .ref c5, .ref c6, .ref c7, .ref c8, .ref c9]))) ab (.inl (G.2 0, 3744, .inr (.inl f)))) av (.inl (G.2 2, 26, .inl v))) md ab av c1 c2 c3 c4 c5 c6 c7 c8 c9 fl st f v 1 ((mu_n ne0_2).trans ((mu_n ne0_1).trans (mu_s _ _ _))) ((mu_n ((mp_ne hab hav (by simp)))).trans (mu_s _ _ _)) (mu_s _ _ _) (by omega)) (cwV 1 hts gX7_isEmpty_X7_refused rfl rfl rfl (by decide +kernel) ⟨Nat.le_of_ble_eq_true rfl, Nat.le_of_ble_eq_true rfl⟩) ⟨KW.blind, hP.recv hK rfl ((mu_n ne0_2).trans ((mu_n ne0_1).trans (mu_s _ _ _))), fun U9 hU9 hW9 => ⟨rfl, KW.pre hBs hKK hS hP U9 hU9 hW9⟩⟩ rfl rfl hl.1 rfl (lv_room (Nat.le_of_ble_eq_true rfl)) dX7_isEmpty_13 ⟨(Nat.le_of_ble_eq_true rfl), (Nat.le_of_ble_eq_true rfl)⟩) hS (fun r13 m13 H locs hq9 hP hz9 hS => ?_)
    obtain ⟨he9, hw0, hw1⟩ := hq9
    rw [he9] at hP
    have hP : mw G.1 vwCl B (mu (mu (mu μ md (.inr (7, [.int (nI 1), .ref ab, .ref av, .int (nI st), .ref c1, .ref c2, .ref c3, .ref c4, .ref c5, .ref c6, .ref c7, .ref c8, .ref c9]))) ab (.inl (G.2 0, 3744, .inr (.inl f)))) av (.inl (G.2 2, 26, .inl v))) _ := mw_eq ((mu_c _ _ ((Ne.symm ne0_2))).trans (congrArg (fun z => mu z av (.inl (G.2 2, 26, .inl v))) ((mu_c _ _ ((Ne.symm ne0_1))).trans (congrArg (fun z => mu z ab (.inl (G.2 0, 3744, .inr (.inl f)))) (mu_u _ _ _ _))))) hP
    obtain rfl : r13 = nI 1 := hw1 (by decide)
    refine lv_if_ne (tgt := 32) hx hb dX7_isEmpty_16 (by decide) (fun hc16 => ?_) (fun hc16 => ?_)
    · refine lv_iconst (v := nI 0) hx hb dX7_isEmpty_32 (by decide) ?_
      rw [hQ]
      exact W.zret (v := nI 0) (ty := .boolean) hx hb hr (by first | rfl | decide) (fun t99 ht99 hW99 => ⟨⟨nI 0, mu (mu (mu μ md (.inr (7, [.int (nI 1), .ref ab, .ref av, .int (nI st), .ref c1, .ref c2, .ref c3, .ref c4, .ref c5, .ref c6, .ref c7, .ref c8, .ref c9]))) ab (.inl (G.2 0, 3744, .inr (.inl f)))) av (.inl (G.2 2, 26, .inl v)), rfl, (⟨_, _, _, rfl, Or.inr ⟨rfl, fun h9 => by first | exact yn_f hy2 hc5 h9⟩⟩), by show mw _ _ _ _ t99.heap; rw [ht99]; exact hP⟩, hS.F ht99⟩) hS.2.2 dX7_isEmpty_33
    · exact absurd hc16 (by decide)
  · refine lv_iconst (v := nI 0) hx hb dX7_isEmpty_8 (by decide) ?_
    refine lv_goto (tgt := 13) hx hb dX7_isEmpty_9 (by decide) ?_
    refine kc_i (va_runV (As := [.int (nI 0)]) (rest := []) ⟨hx, hb, hml, hown, hts⟩ (c_X7_refused l G B (mu (mu (mu μ md (.inr (7, [.int (nI fl), .ref ab, .ref av, .int (nI st), .ref c1, .ref c2, .ref c3, .ref c4, .ref c5, .ref c6, .ref c7, .ref c8, .ref c9]))) ab (.inl (G.2 0, 3744, .inr (.inl f)))) av (.inl (G.2 2, 26, .inl v))) md ab av c1 c2 c3 c4 c5 c6 c7 c8 c9 fl st f v 0 ((mu_n ne0_2).trans ((mu_n ne0_1).trans (mu_s _ _ _))) ((mu_n ((mp_ne hab hav (by simp)))).trans (mu_s _ _ _)) (mu_s _ _ _) (by omega)) (cwV 1 hts gX7_isEmpty_X7_refused rfl rfl rfl (by decide +kernel) ⟨Nat.le_of_ble_eq_true rfl, Nat.le_of_ble_eq_true rfl⟩) ⟨KW.blind, hP.recv hK rfl ((mu_n ne0_2).trans ((mu_n ne0_1).trans (mu_s _ _ _))), fun U9 hU9 hW9 => ⟨rfl, KW.pre hBs hKK hS hP U9 hU9 hW9⟩⟩ rfl rfl hl.1 rfl (lv_room (Nat.le_of_ble_eq_true rfl)) dX7_isEmpty_13 ⟨(Nat.le_of_ble_eq_true rfl), (Nat.le_of_ble_eq_true rfl)⟩) hS (fun r13 m13 H locs hq9 hP hz9 hS => ?_)
    obtain ⟨he9, hw0, hw1⟩ := hq9
    rw [he9] at hP
    have hP : mw G.1 vwCl B (mu (mu (mu μ md (.inr (7, [.int (nI 0), .ref ab, .ref av, .int (nI st), .ref c1, .ref c2, .ref c3, .ref c4, .ref c5, .ref c6, .ref c7, .ref c8, .ref c9]))) ab (.inl (G.2 0, 3744, .inr (.inl f)))) av (.inl (G.2 2, 26, .inl v))) _ := mw_eq ((mu_c _ _ ((Ne.symm ne0_2))).trans (congrArg (fun z => mu z av (.inl (G.2 2, 26, .inl v))) ((mu_c _ _ ((Ne.symm ne0_1))).trans (congrArg (fun z => mu z ab (.inl (G.2 0, 3744, .inr (.inl f)))) (mu_u _ _ _ _))))) hP
    obtain rfl : r13 = nI 0 := hw0 rfl
    refine lv_if_ne (tgt := 32) hx hb dX7_isEmpty_16 (by decide) (fun hc16 => ?_) (fun hc16 => ?_)
    · exact absurd rfl hc16
    · have hok : okS x9 := yn_t hy2 hc5
      obtain ⟨nx9, hnx9, enx9⟩ := ok_nat (n := 6) (by decide) hok
      subst enx9
      refine lv_aload_n hx hb dX7_isEmpty_19 rfl (lv_at hl 0 rfl) ?_
      refine mw_get (C := RX7) (T := TX7) (N := 13) hx hb hts in_X7_isEmpty_X7 hown hK hP ((mu_n ne0_2).trans ((mu_n ne0_1).trans (mu_s _ _ _))) rfl 2 (by decide) (hts (.fieldLink RX7 13 "OctagonDeskModel" "isVoid" "[Z") (by decide +kernel)) (fun _ h9 => h9) rfl dX7_isEmpty_20 ?_
      refine lv_iload_n hx hb dX7_isEmpty_23 rfl (lv_at hl 1 rfl) ?_
      refine mw_zald hx hb hK hP 2 (mu_s _ _ _) rfl (by omega) (by omega) dX7_isEmpty_24 ?_
      refine lv_if_eq (tgt := 32) hx hb dX7_isEmpty_25 (by decide) (fun hc25 => ?_) (fun hc25 => ?_)
      · refine lv_iconst (v := nI 0) hx hb dX7_isEmpty_32 (by decide) ?_
        rw [hQ]
        exact W.zret (v := nI 0) (ty := .boolean) hx hb hr (by first | rfl | decide) (fun t99 ht99 hW99 => ⟨⟨nI 0, mu (mu (mu μ md (.inr (7, [.int (nI 0), .ref ab, .ref av, .int (nI st), .ref c1, .ref c2, .ref c3, .ref c4, .ref c5, .ref c6, .ref c7, .ref c8, .ref c9]))) ab (.inl (G.2 0, 3744, .inr (.inl f)))) av (.inl (G.2 2, 26, .inl v)), rfl, (⟨_, _, _, rfl, Or.inl ⟨rfl, hok, rfl⟩⟩), by show mw _ _ _ _ t99.heap; rw [ht99]; exact hP⟩, hS.F ht99⟩) hS.2.2 dX7_isEmpty_33
      · exact absurd (hNM.2.1 nx9 (by omega)) hc25

abbrev rm_X7_forget : Room := { frames := 2, cells := 0, slots := 0, locals := 48 }
set_option maxHeartbeats 4000000 in
set_option maxRecDepth 100000 in
theorem c_X7_forget (l : Launch) (G : GG) (B : Nat) (μ : mp) (md ab av c1 c2 c3 c4 c5 c6 c7 c8 c9 fl st : Nat) (f : Nat → Int64) (v : Nat → Int32) (x9 y9 : Int32) (hm : μ md = some (.inr (7, [.int (nI fl), .ref ab, .ref av, .int (nI st), .ref c1, .ref c2, .ref c3, .ref c4, .ref c5, .ref c6, .ref c7, .ref c8, .ref c9]))) (hab : μ ab = some (.inl (G.2 0, 3744, .inr (.inl f)))) (hav : μ av = some (.inl (G.2 2, 26, .inl v))) (hNM : NM f v) : Met l yX7_forget wsX7_forget rm_X7_forget (va_Pc [.ref md, .int x9, .int y9] (KW G B μ)) (va_Qv (fun μ2 => ∃ (fl9 : Nat) (g9 : Nat → Int64) (w9 : Nat → Int32), μ2 = mu (mu (mu μ md (.inr (7, [.int (nI fl9), .ref ab, .ref av, .int (nI st), .ref c1, .ref c2, .ref c3, .ref c4, .ref c5, .ref c6, .ref c7, .ref c8, .ref c9]))) ab (.inl (G.2 0, 3744, .inr (.inl g9)))) av (.inl (G.2 2, 26, .inl w9)) ∧ ((fl9 = 0 ∧ (okS x9 ∧ okS y9)) ∨ (fl9 = 1 ∧ ¬ (okS x9 ∧ okS y9)))) (BB G B) (fun q => B ≤ q)) 0 0 (fun q => B ≤ q) := by
  refine Met.ofW (cc := cX7_forget) (maxL := 3) (ret := none) (by decide) rfl ?_
  intro p e s m args below meth c s₁ B9 hml hv
  obtain ⟨hargs, hBs, hP, hKK⟩ := hv
  have hx := B9.exec
  have hb := B9.bytes
  have hr := B9.returns
  have hts := atoms_spec (ws := wsX7_forget) B9.pre
  have hown : s.vm.findClass RX7 = some m.cls := findClass_of_methodNamed B9.named
  have hlocks := B9.notSynchronized
  have hK := hKK.k
  have hS : va_S (fun q => B ≤ q) s.heap s.heap [] := va_S.rf
  obtain ⟨Q, hQ⟩ : ∃ Q, Q = MQ below (va_Qv (fun μ2 => ∃ (fl9 : Nat) (g9 : Nat → Int64) (w9 : Nat → Int32), μ2 = mu (mu (mu μ md (.inr (7, [.int (nI fl9), .ref ab, .ref av, .int (nI st), .ref c1, .ref c2, .ref c3, .ref c4, .ref c5, .ref c6, .ref c7, .ref c8, .ref c9]))) ab (.inl (G.2 0, 3744, .inr (.inl g9)))) av (.inl (G.2 2, 26, .inl w9)) ∧ ((fl9 = 0 ∧ (okS x9 ∧ okS y9)) ∨ (fl9 = 1 ∧ ¬ (okS x9 ∧ okS y9)))) (BB G B) (fun q => B ≤ q)) args s 0 0 (fun q => B ≤ q) := ⟨_, rfl⟩
  rw [← hQ]
  have ne0_1 : md ≠ ab := mp_ne hm hab (by simp)
  have ne0_2 : md ≠ av := mp_ne hm hav (by simp)
  have hP : mw G.1 vwCl B (mu (mu (mu μ md (.inr (7, [.int (nI fl), .ref ab, .ref av, .int (nI st), .ref c1, .ref c2, .ref c3, .ref c4, .ref c5, .ref c6, .ref c7, .ref c8, .ref c9]))) ab (.inl (G.2 0, 3744, .inr (.inl f)))) av (.inl (G.2 2, 26, .inl v))) s.heap := mw_eq ((congrArg (fun z => mu z av (.inl (G.2 2, 26, .inl v))) ((congrArg (fun z => mu z ab (.inl (G.2 0, 3744, .inr (.inl f)))) (mu_i hm)).trans (mu_i hab))).trans (mu_i hav)).symm hP
  have hl := lv_entry ([.ref md, .int x9, .int y9]) (n := 3) (Nat.le_of_ble_eq_true rfl)
  have he9 : entryFrame m args 3 = entryFrame m ([.ref md, .int x9, .int y9] : List Value).toArray 3 := by rw [hargs]
  rw [he9, lg_entry_eq]
  generalize (lg_sl ([.ref md, .int x9, .int y9]) ++ List.replicate (3 - (lg_sl ([.ref md, .int x9, .int y9])).length) Slot.unset).toArray = ls at hl ⊢
  have hl : lv_has ls 3 [(0, .ref md), (1, .int x9), (2, .int y9)] := hl
  refine lv_aload_n hx hb dX7_forget_0 rfl (lv_at hl 0 rfl) ?_
  refine lv_iload_n hx hb dX7_forget_1 rfl (lv_at hl 1 rfl) ?_
  refine kc_i (va_runS (As := [.int x9]) (rest := [.ref md]) ⟨hx, hb, hml, hown, hts⟩ (c_X7_isSlot l G B (mu (mu (mu μ md (.inr (7, [.int (nI fl), .ref ab, .ref av, .int (nI st), .ref c1, .ref c2, .ref c3, .ref c4, .ref c5, .ref c6, .ref c7, .ref c8, .ref c9]))) ab (.inl (G.2 0, 3744, .inr (.inl f)))) av (.inl (G.2 2, 26, .inl v))) x9) (va_cwS 1 hts gX7_forget_X7_isSlot rfl rfl rfl (by decide +kernel) ⟨Nat.le_of_ble_eq_true rfl, Nat.le_of_ble_eq_true rfl⟩) ⟨KW.blind, fun U9 hU9 hW9 => ⟨rfl, KW.pre hBs hKK hS hP U9 hU9 hW9⟩⟩ rfl rfl hl.1 rfl (lv_room (Nat.le_of_ble_eq_true rfl)) dX7_forget_2 ⟨(Nat.le_of_ble_eq_true rfl), (Nat.le_of_ble_eq_true rfl)⟩) hS (fun r2 m2 H locs hq9 hP hz9 hS => ?_)
  obtain ⟨he9, hy2⟩ := hq9
  rw [he9] at hP
  refine lv_if_eq (tgt := 21) hx hb dX7_forget_5 (by decide) (fun hc5 => ?_) (fun hc5 => ?_)
  · refine lv_iconst (v := nI 1) hx hb dX7_forget_21 (by decide) ?_
    refine kc_i (va_runV (As := [.int (nI 1)]) (rest := []) ⟨hx, hb, hml, hown, hts⟩ (c_X7_refused l G B (mu (mu (mu μ md (.inr (7, [.int (nI fl), .ref ab, .ref av, .int (nI st), .ref c1, .ref c2, .ref c3, .ref c4, .ref c5, .ref c6, .ref c7, .ref c8, .ref c9]))) ab (.inl (G.2 0, 3744, .inr (.inl f)))) av (.inl (G.2 2, 26, .inl v))) md ab av c1 c2 c3 c4 c5 c6 c7 c8 c9 fl st f v 1 ((mu_n ne0_2).trans ((mu_n ne0_1).trans (mu_s _ _ _))) ((mu_n ((mp_ne hab hav (by simp)))).trans (mu_s _ _ _)) (mu_s _ _ _) (by omega)) (cwV 1 hts gX7_forget_X7_refused rfl rfl rfl (by decide +kernel) ⟨Nat.le_of_ble_eq_true rfl, Nat.le_of_ble_eq_true rfl⟩) ⟨KW.blind, hP.recv hK rfl ((mu_n ne0_2).trans ((mu_n ne0_1).trans (mu_s _ _ _))), fun U9 hU9 hW9 => ⟨rfl, KW.pre hBs hKK hS hP U9 hU9 hW9⟩⟩ rfl rfl hl.1 rfl (lv_room (Nat.le_of_ble_eq_true rfl)) dX7_forget_22 ⟨(Nat.le_of_ble_eq_true rfl), (Nat.le_of_ble_eq_true rfl)⟩) hS (fun r22 m22 H locs hq9 hP hz9 hS => ?_)
    obtain ⟨he9, hw0, hw1⟩ := hq9
    rw [he9] at hP
    have hP : mw G.1 vwCl B (mu (mu (mu μ md (.inr (7, [.int (nI 1), .ref ab, .ref av, .int (nI st), .ref c1, .ref c2, .ref c3, .ref c4, .ref c5, .ref c6, .ref c7, .ref c8, .ref c9]))) ab (.inl (G.2 0, 3744, .inr (.inl f)))) av (.inl (G.2 2, 26, .inl v))) _ := mw_eq ((mu_c _ _ ((Ne.symm ne0_2))).trans (congrArg (fun z => mu z av (.inl (G.2 2, 26, .inl v))) ((mu_c _ _ ((Ne.symm ne0_1))).trans (congrArg (fun z => mu z ab (.inl (G.2 0, 3744, .inr (.inl f)))) (mu_u _ _ _ _))))) hP
    obtain rfl : r22 = nI 1 := hw1 (by decide)
    refine lv_if_ne (tgt := 34) hx hb dX7_forget_25 (by decide) (fun hc25 => ?_) (fun hc25 => ?_)
    · rw [hQ]
      exact W.vret hx hb hr (fun t99 ht99 hW99 => ⟨⟨mu (mu (mu μ md (.inr (7, [.int (nI 1), .ref ab, .ref av, .int (nI st), .ref c1, .ref c2, .ref c3, .ref c4, .ref c5, .ref c6, .ref c7, .ref c8, .ref c9]))) ab (.inl (G.2 0, 3744, .inr (.inl f)))) av (.inl (G.2 2, 26, .inl v)), rfl, (⟨_, _, _, rfl, Or.inr ⟨rfl, fun h9 => by first | exact yn_f hy2 hc5 h9.1 | exact yn_f hy11 hc14 (isI_S.mpr h9.2)⟩⟩), by show mw _ _ _ _ t99.heap; rw [ht99]; exact hP⟩, hS.F ht99⟩) hS.2.2 dX7_forget_34
    · exact absurd hc25 (by decide)
  · refine lv_iload_n hx hb dX7_forget_8 rfl (lv_at hl 2 rfl) ?_
    refine lv_iconst (v := nI 0) hx hb dX7_forget_9 (by decide) ?_
    refine lv_iconst (v := nI 5) hx hb dX7_forget_10 (by decide) ?_
    refine kc_i (va_runS (As := [.int y9, .int (nI 0), .int (nI 5)]) (rest := [.ref md]) ⟨hx, hb, hml, hown, hts⟩ (c_X7_isIn l G B (mu (mu (mu μ md (.inr (7, [.int (nI fl), .ref ab, .ref av, .int (nI st), .ref c1, .ref c2, .ref c3, .ref c4, .ref c5, .ref c6, .ref c7, .ref c8, .ref c9]))) ab (.inl (G.2 0, 3744, .inr (.inl f)))) av (.inl (G.2 2, 26, .inl v))) y9 (nI 0) (nI 5)) (va_cwS 3 hts gX7_forget_X7_isIn rfl rfl rfl (by decide +kernel) ⟨Nat.le_of_ble_eq_true rfl, Nat.le_of_ble_eq_true rfl⟩) ⟨KW.blind, fun U9 hU9 hW9 => ⟨rfl, KW.pre hBs hKK hS hP U9 hU9 hW9⟩⟩ rfl rfl hl.1 rfl (lv_room (Nat.le_of_ble_eq_true rfl)) dX7_forget_11 ⟨(Nat.le_of_ble_eq_true rfl), (Nat.le_of_ble_eq_true rfl)⟩) hS (fun r11 m11 H locs hq9 hP hz9 hS => ?_)
    obtain ⟨he9, hy11⟩ := hq9
    rw [he9] at hP
    refine lv_if_eq (tgt := 21) hx hb dX7_forget_14 (by decide) (fun hc14 => ?_) (fun hc14 => ?_)
    · refine lv_iconst (v := nI 1) hx hb dX7_forget_21 (by decide) ?_
      refine kc_i (va_runV (As := [.int (nI 1)]) (rest := []) ⟨hx, hb, hml, hown, hts⟩ (c_X7_refused l G B (mu (mu (mu μ md (.inr (7, [.int (nI fl), .ref ab, .ref av, .int (nI st), .ref c1, .ref c2, .ref c3, .ref c4, .ref c5, .ref c6, .ref c7, .ref c8, .ref c9]))) ab (.inl (G.2 0, 3744, .inr (.inl f)))) av (.inl (G.2 2, 26, .inl v))) md ab av c1 c2 c3 c4 c5 c6 c7 c8 c9 fl st f v 1 ((mu_n ne0_2).trans ((mu_n ne0_1).trans (mu_s _ _ _))) ((mu_n ((mp_ne hab hav (by simp)))).trans (mu_s _ _ _)) (mu_s _ _ _) (by omega)) (cwV 1 hts gX7_forget_X7_refused rfl rfl rfl (by decide +kernel) ⟨Nat.le_of_ble_eq_true rfl, Nat.le_of_ble_eq_true rfl⟩) ⟨KW.blind, hP.recv hK rfl ((mu_n ne0_2).trans ((mu_n ne0_1).trans (mu_s _ _ _))), fun U9 hU9 hW9 => ⟨rfl, KW.pre hBs hKK hS hP U9 hU9 hW9⟩⟩ rfl rfl hl.1 rfl (lv_room (Nat.le_of_ble_eq_true rfl)) dX7_forget_22 ⟨(Nat.le_of_ble_eq_true rfl), (Nat.le_of_ble_eq_true rfl)⟩) hS (fun r22 m22 H locs hq9 hP hz9 hS => ?_)
      obtain ⟨he9, hw0, hw1⟩ := hq9
      rw [he9] at hP
      have hP : mw G.1 vwCl B (mu (mu (mu μ md (.inr (7, [.int (nI 1), .ref ab, .ref av, .int (nI st), .ref c1, .ref c2, .ref c3, .ref c4, .ref c5, .ref c6, .ref c7, .ref c8, .ref c9]))) ab (.inl (G.2 0, 3744, .inr (.inl f)))) av (.inl (G.2 2, 26, .inl v))) _ := mw_eq ((mu_c _ _ ((Ne.symm ne0_2))).trans (congrArg (fun z => mu z av (.inl (G.2 2, 26, .inl v))) ((mu_c _ _ ((Ne.symm ne0_1))).trans (congrArg (fun z => mu z ab (.inl (G.2 0, 3744, .inr (.inl f)))) (mu_u _ _ _ _))))) hP
      obtain rfl : r22 = nI 1 := hw1 (by decide)
      refine lv_if_ne (tgt := 34) hx hb dX7_forget_25 (by decide) (fun hc25 => ?_) (fun hc25 => ?_)
      · rw [hQ]
        exact W.vret hx hb hr (fun t99 ht99 hW99 => ⟨⟨mu (mu (mu μ md (.inr (7, [.int (nI 1), .ref ab, .ref av, .int (nI st), .ref c1, .ref c2, .ref c3, .ref c4, .ref c5, .ref c6, .ref c7, .ref c8, .ref c9]))) ab (.inl (G.2 0, 3744, .inr (.inl f)))) av (.inl (G.2 2, 26, .inl v)), rfl, (⟨_, _, _, rfl, Or.inr ⟨rfl, fun h9 => by first | exact yn_f hy2 hc5 h9.1 | exact yn_f hy11 hc14 (isI_S.mpr h9.2)⟩⟩), by show mw _ _ _ _ t99.heap; rw [ht99]; exact hP⟩, hS.F ht99⟩) hS.2.2 dX7_forget_34
      · exact absurd hc25 (by decide)
    · refine lv_iconst (v := nI 0) hx hb dX7_forget_17 (by decide) ?_
      refine lv_goto (tgt := 22) hx hb dX7_forget_18 (by decide) ?_
      refine kc_i (va_runV (As := [.int (nI 0)]) (rest := []) ⟨hx, hb, hml, hown, hts⟩ (c_X7_refused l G B (mu (mu (mu μ md (.inr (7, [.int (nI fl), .ref ab, .ref av, .int (nI st), .ref c1, .ref c2, .ref c3, .ref c4, .ref c5, .ref c6, .ref c7, .ref c8, .ref c9]))) ab (.inl (G.2 0, 3744, .inr (.inl f)))) av (.inl (G.2 2, 26, .inl v))) md ab av c1 c2 c3 c4 c5 c6 c7 c8 c9 fl st f v 0 ((mu_n ne0_2).trans ((mu_n ne0_1).trans (mu_s _ _ _))) ((mu_n ((mp_ne hab hav (by simp)))).trans (mu_s _ _ _)) (mu_s _ _ _) (by omega)) (cwV 1 hts gX7_forget_X7_refused rfl rfl rfl (by decide +kernel) ⟨Nat.le_of_ble_eq_true rfl, Nat.le_of_ble_eq_true rfl⟩) ⟨KW.blind, hP.recv hK rfl ((mu_n ne0_2).trans ((mu_n ne0_1).trans (mu_s _ _ _))), fun U9 hU9 hW9 => ⟨rfl, KW.pre hBs hKK hS hP U9 hU9 hW9⟩⟩ rfl rfl hl.1 rfl (lv_room (Nat.le_of_ble_eq_true rfl)) dX7_forget_22 ⟨(Nat.le_of_ble_eq_true rfl), (Nat.le_of_ble_eq_true rfl)⟩) hS (fun r22 m22 H locs hq9 hP hz9 hS => ?_)
      obtain ⟨he9, hw0, hw1⟩ := hq9
      rw [he9] at hP
      have hP : mw G.1 vwCl B (mu (mu (mu μ md (.inr (7, [.int (nI 0), .ref ab, .ref av, .int (nI st), .ref c1, .ref c2, .ref c3, .ref c4, .ref c5, .ref c6, .ref c7, .ref c8, .ref c9]))) ab (.inl (G.2 0, 3744, .inr (.inl f)))) av (.inl (G.2 2, 26, .inl v))) _ := mw_eq ((mu_c _ _ ((Ne.symm ne0_2))).trans (congrArg (fun z => mu z av (.inl (G.2 2, 26, .inl v))) ((mu_c _ _ ((Ne.symm ne0_1))).trans (congrArg (fun z => mu z ab (.inl (G.2 0, 3744, .inr (.inl f)))) (mu_u _ _ _ _))))) hP
      obtain rfl : r22 = nI 0 := hw0 rfl
      refine lv_if_ne (tgt := 34) hx hb dX7_forget_25 (by decide) (fun hc25 => ?_) (fun hc25 => ?_)
      · exact absurd rfl hc25
      · have hok : okS x9 ∧ okS y9 := ⟨yn_t hy2 hc5, isI_S.mp (yn_t hy11 hc14)⟩
        obtain ⟨nx9, hnx9, enx9⟩ := ok_nat (n := 6) (by decide) hok.1
        subst enx9
        obtain ⟨ny9, hny9, eny9⟩ := ok_nat (n := 6) (by decide) hok.2
        subst eny9
        refine lv_aload_n hx hb dX7_forget_28 rfl (lv_at hl 0 rfl) ?_
        refine lv_iload_n hx hb dX7_forget_29 rfl (lv_at hl 1 rfl) ?_
        refine lv_iload_n hx hb dX7_forget_30 rfl (lv_at hl 2 rfl) ?_
        refine kc_v (va_runV (As := [.int (nI nx9), .int (nI ny9)]) (rest := []) ⟨hx, hb, hml, hown, hts⟩ (c_X7_drop l G B (mu (mu (mu μ md (.inr (7, [.int (nI 0), .ref ab, .ref av, .int (nI st), .ref c1, .ref c2, .ref c3, .ref c4, .ref c5, .ref c6, .ref c7, .ref c8, .ref c9]))) ab (.inl (G.2 0, 3744, .inr (.inl f)))) av (.inl (G.2 2, 26, .inl v))) md ab av c1 c2 c3 c4 c5 c6 c7 c8 c9 0 st f v nx9 ny9 ((mu_n ne0_2).trans ((mu_n ne0_1).trans (mu_s _ _ _))) ((mu_n ((mp_ne hab hav (by simp)))).trans (mu_s _ _ _)) (mu_s _ _ _) (by omega) (by omega) (hNM.1 nx9 (by omega))) (cwV 2 hts gX7_forget_X7_drop rfl rfl rfl (by decide +kernel) ⟨Nat.le_of_ble_eq_true rfl, Nat.le_of_ble_eq_true rfl⟩) ⟨KW.blind, hP.recv hK rfl ((mu_n ne0_2).trans ((mu_n ne0_1).trans (mu_s _ _ _))), fun U9 hU9 hW9 => ⟨rfl, KW.pre hBs hKK hS hP U9 hU9 hW9⟩⟩ rfl rfl hl.1 rfl (lv_room (Nat.le_of_ble_eq_true rfl)) dX7_forget_31 ⟨(Nat.le_of_ble_eq_true rfl), (Nat.le_of_ble_eq_true rfl)⟩) hS (fun m31 H locs hq9 hP hz9 hS => ?_)
        obtain ⟨g31, rfl, hA31⟩ := hq9
        have hP : mw G.1 vwCl B (mu (mu (mu μ md (.inr (7, [.int (nI 0), .ref ab, .ref av, .int (nI st), .ref c1, .ref c2, .ref c3, .ref c4, .ref c5, .ref c6, .ref c7, .ref c8, .ref c9]))) ab (.inl (G.2 0, 3744, .inr (.inl g31)))) av (.inl (G.2 2, 26, .inl v))) _ := mw_eq ((mu_c _ _ ((mp_ne hav hab (by simp)))).trans (congrArg (fun z => mu z av (.inl (G.2 2, 26, .inl v))) (mu_u _ _ _ _))) hP
        rw [hQ]
        exact W.vret hx hb hr (fun t99 ht99 hW99 => ⟨⟨mu (mu (mu μ md (.inr (7, [.int (nI 0), .ref ab, .ref av, .int (nI st), .ref c1, .ref c2, .ref c3, .ref c4, .ref c5, .ref c6, .ref c7, .ref c8, .ref c9]))) ab (.inl (G.2 0, 3744, .inr (.inl g31)))) av (.inl (G.2 2, 26, .inl v)), rfl, (⟨_, _, _, rfl, Or.inl ⟨rfl, hok⟩⟩), by show mw _ _ _ _ t99.heap; rw [ht99]; exact hP⟩, hS.F ht99⟩) hS.2.2 dX7_forget_34

abbrev rm_X7_take : Room := { frames := 2, cells := 0, slots := 0, locals := 42 }
set_option maxHeartbeats 4000000 in
set_option maxRecDepth 100000 in
theorem c_X7_take (l : Launch) (G : GG) (B : Nat) (μ : mp) (md ab av c1 c2 c3 c4 c5 c6 c7 c8 c9 fl st : Nat) (f : Nat → Int64) (v : Nat → Int32) (x9 y9 : Int32) (hm : μ md = some (.inr (7, [.int (nI fl), .ref ab, .ref av, .int (nI st), .ref c1, .ref c2, .ref c3, .ref c4, .ref c5, .ref c6, .ref c7, .ref c8, .ref c9]))) (hab : μ ab = some (.inl (G.2 0, 3744, .inr (.inl f)))) (hav : μ av = some (.inl (G.2 2, 26, .inl v))) (hNM : NM f v) : Met l yX7_take wsX7_take rm_X7_take (va_Pc [.ref md, .int x9, .int y9] (KW G B μ)) (va_Qi (fun r μ2 => ∃ (fl9 : Nat) (g9 : Nat → Int64) (w9 : Nat → Int32), μ2 = mu (mu (mu μ md (.inr (7, [.int (nI fl9), .ref ab, .ref av, .int (nI st), .ref c1, .ref c2, .ref c3, .ref c4, .ref c5, .ref c6, .ref c7, .ref c8, .ref c9]))) ab (.inl (G.2 0, 3744, .inr (.inl g9)))) av (.inl (G.2 2, 26, .inl w9)) ∧ ((fl9 = 0 ∧ (okS x9 ∧ okJ y9) ∧ r = 0) ∨ (fl9 = 1 ∧ ¬ (okS x9 ∧ okJ y9)))) (BB G B) (fun q => B ≤ q)) 0 0 (fun q => B ≤ q) := by
  refine Met.ofW (cc := cX7_take) (maxL := 3) (ret := (some .boolean)) (by decide) rfl ?_
  intro p e s m args below meth c s₁ B9 hml hv
  obtain ⟨hargs, hBs, hP, hKK⟩ := hv
  have hx := B9.exec
  have hb := B9.bytes
  have hr := B9.returns
  have hts := atoms_spec (ws := wsX7_take) B9.pre
  have hown : s.vm.findClass RX7 = some m.cls := findClass_of_methodNamed B9.named
  have hlocks := B9.notSynchronized
  have hK := hKK.k
  have hS : va_S (fun q => B ≤ q) s.heap s.heap [] := va_S.rf
  obtain ⟨Q, hQ⟩ : ∃ Q, Q = MQ below (va_Qi (fun r μ2 => ∃ (fl9 : Nat) (g9 : Nat → Int64) (w9 : Nat → Int32), μ2 = mu (mu (mu μ md (.inr (7, [.int (nI fl9), .ref ab, .ref av, .int (nI st), .ref c1, .ref c2, .ref c3, .ref c4, .ref c5, .ref c6, .ref c7, .ref c8, .ref c9]))) ab (.inl (G.2 0, 3744, .inr (.inl g9)))) av (.inl (G.2 2, 26, .inl w9)) ∧ ((fl9 = 0 ∧ (okS x9 ∧ okJ y9) ∧ r = 0) ∨ (fl9 = 1 ∧ ¬ (okS x9 ∧ okJ y9)))) (BB G B) (fun q => B ≤ q)) args s 0 0 (fun q => B ≤ q) := ⟨_, rfl⟩
  rw [← hQ]
  have ne0_1 : md ≠ ab := mp_ne hm hab (by simp)
  have ne0_2 : md ≠ av := mp_ne hm hav (by simp)
  have in_X7_take_X7 : ∀ w ∈ wsX70, w ∈ wsX7_take := by decide +kernel
  have hP : mw G.1 vwCl B (mu (mu (mu μ md (.inr (7, [.int (nI fl), .ref ab, .ref av, .int (nI st), .ref c1, .ref c2, .ref c3, .ref c4, .ref c5, .ref c6, .ref c7, .ref c8, .ref c9]))) ab (.inl (G.2 0, 3744, .inr (.inl f)))) av (.inl (G.2 2, 26, .inl v))) s.heap := mw_eq ((congrArg (fun z => mu z av (.inl (G.2 2, 26, .inl v))) ((congrArg (fun z => mu z ab (.inl (G.2 0, 3744, .inr (.inl f)))) (mu_i hm)).trans (mu_i hab))).trans (mu_i hav)).symm hP
  have hl := lv_entry ([.ref md, .int x9, .int y9]) (n := 3) (Nat.le_of_ble_eq_true rfl)
  have he9 : entryFrame m args 3 = entryFrame m ([.ref md, .int x9, .int y9] : List Value).toArray 3 := by rw [hargs]
  rw [he9, lg_entry_eq]
  generalize (lg_sl ([.ref md, .int x9, .int y9]) ++ List.replicate (3 - (lg_sl ([.ref md, .int x9, .int y9])).length) Slot.unset).toArray = ls at hl ⊢
  have hl : lv_has ls 3 [(0, .ref md), (1, .int x9), (2, .int y9)] := hl
  refine lv_aload_n hx hb dX7_take_0 rfl (lv_at hl 0 rfl) ?_
  refine lv_iload_n hx hb dX7_take_1 rfl (lv_at hl 1 rfl) ?_
  refine kc_i (va_runS (As := [.int x9]) (rest := [.ref md]) ⟨hx, hb, hml, hown, hts⟩ (c_X7_isSlot l G B (mu (mu (mu μ md (.inr (7, [.int (nI fl), .ref ab, .ref av, .int (nI st), .ref c1, .ref c2, .ref c3, .ref c4, .ref c5, .ref c6, .ref c7, .ref c8, .ref c9]))) ab (.inl (G.2 0, 3744, .inr (.inl f)))) av (.inl (G.2 2, 26, .inl v))) x9) (va_cwS 1 hts gX7_take_X7_isSlot rfl rfl rfl (by decide +kernel) ⟨Nat.le_of_ble_eq_true rfl, Nat.le_of_ble_eq_true rfl⟩) ⟨KW.blind, fun U9 hU9 hW9 => ⟨rfl, KW.pre hBs hKK hS hP U9 hU9 hW9⟩⟩ rfl rfl hl.1 rfl (lv_room (Nat.le_of_ble_eq_true rfl)) dX7_take_2 ⟨(Nat.le_of_ble_eq_true rfl), (Nat.le_of_ble_eq_true rfl)⟩) hS (fun r2 m2 H locs hq9 hP hz9 hS => ?_)
  obtain ⟨he9, hy2⟩ := hq9
  rw [he9] at hP
  refine lv_if_eq (tgt := 22) hx hb dX7_take_5 (by decide) (fun hc5 => ?_) (fun hc5 => ?_)
  · refine lv_iconst (v := nI 1) hx hb dX7_take_22 (by decide) ?_
    refine kc_i (va_runV (As := [.int (nI 1)]) (rest := []) ⟨hx, hb, hml, hown, hts⟩ (c_X7_refused l G B (mu (mu (mu μ md (.inr (7, [.int (nI fl), .ref ab, .ref av, .int (nI st), .ref c1, .ref c2, .ref c3, .ref c4, .ref c5, .ref c6, .ref c7, .ref c8, .ref c9]))) ab (.inl (G.2 0, 3744, .inr (.inl f)))) av (.inl (G.2 2, 26, .inl v))) md ab av c1 c2 c3 c4 c5 c6 c7 c8 c9 fl st f v 1 ((mu_n ne0_2).trans ((mu_n ne0_1).trans (mu_s _ _ _))) ((mu_n ((mp_ne hab hav (by simp)))).trans (mu_s _ _ _)) (mu_s _ _ _) (by omega)) (cwV 1 hts gX7_take_X7_refused rfl rfl rfl (by decide +kernel) ⟨Nat.le_of_ble_eq_true rfl, Nat.le_of_ble_eq_true rfl⟩) ⟨KW.blind, hP.recv hK rfl ((mu_n ne0_2).trans ((mu_n ne0_1).trans (mu_s _ _ _))), fun U9 hU9 hW9 => ⟨rfl, KW.pre hBs hKK hS hP U9 hU9 hW9⟩⟩ rfl rfl hl.1 rfl (lv_room (Nat.le_of_ble_eq_true rfl)) dX7_take_23 ⟨(Nat.le_of_ble_eq_true rfl), (Nat.le_of_ble_eq_true rfl)⟩) hS (fun r23 m23 H locs hq9 hP hz9 hS => ?_)
    obtain ⟨he9, hw0, hw1⟩ := hq9
    rw [he9] at hP
    have hP : mw G.1 vwCl B (mu (mu (mu μ md (.inr (7, [.int (nI 1), .ref ab, .ref av, .int (nI st), .ref c1, .ref c2, .ref c3, .ref c4, .ref c5, .ref c6, .ref c7, .ref c8, .ref c9]))) ab (.inl (G.2 0, 3744, .inr (.inl f)))) av (.inl (G.2 2, 26, .inl v))) _ := mw_eq ((mu_c _ _ ((Ne.symm ne0_2))).trans (congrArg (fun z => mu z av (.inl (G.2 2, 26, .inl v))) ((mu_c _ _ ((Ne.symm ne0_1))).trans (congrArg (fun z => mu z ab (.inl (G.2 0, 3744, .inr (.inl f)))) (mu_u _ _ _ _))))) hP
    obtain rfl : r23 = nI 1 := hw1 (by decide)
    refine lv_if_eq (tgt := 31) hx hb dX7_take_26 (by decide) (fun hc26 => ?_) (fun hc26 => ?_)
    · exact absurd hc26 (by decide)
    · refine lv_iconst (v := nI 0) hx hb dX7_take_29 (by decide) ?_
      rw [hQ]
      exact W.zret (v := nI 0) (ty := .boolean) hx hb hr (by first | rfl | decide) (fun t99 ht99 hW99 => ⟨⟨nI 0, mu (mu (mu μ md (.inr (7, [.int (nI 1), .ref ab, .ref av, .int (nI st), .ref c1, .ref c2, .ref c3, .ref c4, .ref c5, .ref c6, .ref c7, .ref c8, .ref c9]))) ab (.inl (G.2 0, 3744, .inr (.inl f)))) av (.inl (G.2 2, 26, .inl v)), rfl, (⟨_, _, _, rfl, Or.inr ⟨rfl, fun h9 => by first | exact yn_f hy2 hc5 h9.1 | exact yn_f hy12 hc15 (isI_J.mpr h9.2)⟩⟩), by show mw _ _ _ _ t99.heap; rw [ht99]; exact hP⟩, hS.F ht99⟩) hS.2.2 dX7_take_30
  · refine lv_iload_n hx hb dX7_take_8 rfl (lv_at hl 2 rfl) ?_
    refine lv_iconst (v := nI 0) hx hb dX7_take_9 (by decide) ?_
    refine lv_bipush (v := nI 7) hx hb dX7_take_10 (by decide) ?_
    refine kc_i (va_runS (As := [.int y9, .int (nI 0), .int (nI 7)]) (rest := [.ref md]) ⟨hx, hb, hml, hown, hts⟩ (c_X7_isIn l G B (mu (mu (mu μ md (.inr (7, [.int (nI fl), .ref ab, .ref av, .int (nI st), .ref c1, .ref c2, .ref c3, .ref c4, .ref c5, .ref c6, .ref c7, .ref c8, .ref c9]))) ab (.inl (G.2 0, 3744, .inr (.inl f)))) av (.inl (G.2 2, 26, .inl v))) y9 (nI 0) (nI 7)) (va_cwS 3 hts gX7_take_X7_isIn rfl rfl rfl (by decide +kernel) ⟨Nat.le_of_ble_eq_true rfl, Nat.le_of_ble_eq_true rfl⟩) ⟨KW.blind, fun U9 hU9 hW9 => ⟨rfl, KW.pre hBs hKK hS hP U9 hU9 hW9⟩⟩ rfl rfl hl.1 rfl (lv_room (Nat.le_of_ble_eq_true rfl)) dX7_take_12 ⟨(Nat.le_of_ble_eq_true rfl), (Nat.le_of_ble_eq_true rfl)⟩) hS (fun r12 m12 H locs hq9 hP hz9 hS => ?_)
    obtain ⟨he9, hy12⟩ := hq9
    rw [he9] at hP
    refine lv_if_eq (tgt := 22) hx hb dX7_take_15 (by decide) (fun hc15 => ?_) (fun hc15 => ?_)
    · refine lv_iconst (v := nI 1) hx hb dX7_take_22 (by decide) ?_
      refine kc_i (va_runV (As := [.int (nI 1)]) (rest := []) ⟨hx, hb, hml, hown, hts⟩ (c_X7_refused l G B (mu (mu (mu μ md (.inr (7, [.int (nI fl), .ref ab, .ref av, .int (nI st), .ref c1, .ref c2, .ref c3, .ref c4, .ref c5, .ref c6, .ref c7, .ref c8, .ref c9]))) ab (.inl (G.2 0, 3744, .inr (.inl f)))) av (.inl (G.2 2, 26, .inl v))) md ab av c1 c2 c3 c4 c5 c6 c7 c8 c9 fl st f v 1 ((mu_n ne0_2).trans ((mu_n ne0_1).trans (mu_s _ _ _))) ((mu_n ((mp_ne hab hav (by simp)))).trans (mu_s _ _ _)) (mu_s _ _ _) (by omega)) (cwV 1 hts gX7_take_X7_refused rfl rfl rfl (by decide +kernel) ⟨Nat.le_of_ble_eq_true rfl, Nat.le_of_ble_eq_true rfl⟩) ⟨KW.blind, hP.recv hK rfl ((mu_n ne0_2).trans ((mu_n ne0_1).trans (mu_s _ _ _))), fun U9 hU9 hW9 => ⟨rfl, KW.pre hBs hKK hS hP U9 hU9 hW9⟩⟩ rfl rfl hl.1 rfl (lv_room (Nat.le_of_ble_eq_true rfl)) dX7_take_23 ⟨(Nat.le_of_ble_eq_true rfl), (Nat.le_of_ble_eq_true rfl)⟩) hS (fun r23 m23 H locs hq9 hP hz9 hS => ?_)
      obtain ⟨he9, hw0, hw1⟩ := hq9
      rw [he9] at hP
      have hP : mw G.1 vwCl B (mu (mu (mu μ md (.inr (7, [.int (nI 1), .ref ab, .ref av, .int (nI st), .ref c1, .ref c2, .ref c3, .ref c4, .ref c5, .ref c6, .ref c7, .ref c8, .ref c9]))) ab (.inl (G.2 0, 3744, .inr (.inl f)))) av (.inl (G.2 2, 26, .inl v))) _ := mw_eq ((mu_c _ _ ((Ne.symm ne0_2))).trans (congrArg (fun z => mu z av (.inl (G.2 2, 26, .inl v))) ((mu_c _ _ ((Ne.symm ne0_1))).trans (congrArg (fun z => mu z ab (.inl (G.2 0, 3744, .inr (.inl f)))) (mu_u _ _ _ _))))) hP
      obtain rfl : r23 = nI 1 := hw1 (by decide)
      refine lv_if_eq (tgt := 31) hx hb dX7_take_26 (by decide) (fun hc26 => ?_) (fun hc26 => ?_)
      · exact absurd hc26 (by decide)
      · refine lv_iconst (v := nI 0) hx hb dX7_take_29 (by decide) ?_
        rw [hQ]
        exact W.zret (v := nI 0) (ty := .boolean) hx hb hr (by first | rfl | decide) (fun t99 ht99 hW99 => ⟨⟨nI 0, mu (mu (mu μ md (.inr (7, [.int (nI 1), .ref ab, .ref av, .int (nI st), .ref c1, .ref c2, .ref c3, .ref c4, .ref c5, .ref c6, .ref c7, .ref c8, .ref c9]))) ab (.inl (G.2 0, 3744, .inr (.inl f)))) av (.inl (G.2 2, 26, .inl v)), rfl, (⟨_, _, _, rfl, Or.inr ⟨rfl, fun h9 => by first | exact yn_f hy2 hc5 h9.1 | exact yn_f hy12 hc15 (isI_J.mpr h9.2)⟩⟩), by show mw _ _ _ _ t99.heap; rw [ht99]; exact hP⟩, hS.F ht99⟩) hS.2.2 dX7_take_30
    · refine lv_iconst (v := nI 0) hx hb dX7_take_18 (by decide) ?_
      refine lv_goto (tgt := 23) hx hb dX7_take_19 (by decide) ?_
      refine kc_i (va_runV (As := [.int (nI 0)]) (rest := []) ⟨hx, hb, hml, hown, hts⟩ (c_X7_refused l G B (mu (mu (mu μ md (.inr (7, [.int (nI fl), .ref ab, .ref av, .int (nI st), .ref c1, .ref c2, .ref c3, .ref c4, .ref c5, .ref c6, .ref c7, .ref c8, .ref c9]))) ab (.inl (G.2 0, 3744, .inr (.inl f)))) av (.inl (G.2 2, 26, .inl v))) md ab av c1 c2 c3 c4 c5 c6 c7 c8 c9 fl st f v 0 ((mu_n ne0_2).trans ((mu_n ne0_1).trans (mu_s _ _ _))) ((mu_n ((mp_ne hab hav (by simp)))).trans (mu_s _ _ _)) (mu_s _ _ _) (by omega)) (cwV 1 hts gX7_take_X7_refused rfl rfl rfl (by decide +kernel) ⟨Nat.le_of_ble_eq_true rfl, Nat.le_of_ble_eq_true rfl⟩) ⟨KW.blind, hP.recv hK rfl ((mu_n ne0_2).trans ((mu_n ne0_1).trans (mu_s _ _ _))), fun U9 hU9 hW9 => ⟨rfl, KW.pre hBs hKK hS hP U9 hU9 hW9⟩⟩ rfl rfl hl.1 rfl (lv_room (Nat.le_of_ble_eq_true rfl)) dX7_take_23 ⟨(Nat.le_of_ble_eq_true rfl), (Nat.le_of_ble_eq_true rfl)⟩) hS (fun r23 m23 H locs hq9 hP hz9 hS => ?_)
      obtain ⟨he9, hw0, hw1⟩ := hq9
      rw [he9] at hP
      have hP : mw G.1 vwCl B (mu (mu (mu μ md (.inr (7, [.int (nI 0), .ref ab, .ref av, .int (nI st), .ref c1, .ref c2, .ref c3, .ref c4, .ref c5, .ref c6, .ref c7, .ref c8, .ref c9]))) ab (.inl (G.2 0, 3744, .inr (.inl f)))) av (.inl (G.2 2, 26, .inl v))) _ := mw_eq ((mu_c _ _ ((Ne.symm ne0_2))).trans (congrArg (fun z => mu z av (.inl (G.2 2, 26, .inl v))) ((mu_c _ _ ((Ne.symm ne0_1))).trans (congrArg (fun z => mu z ab (.inl (G.2 0, 3744, .inr (.inl f)))) (mu_u _ _ _ _))))) hP
      obtain rfl : r23 = nI 0 := hw0 rfl
      refine lv_if_eq (tgt := 31) hx hb dX7_take_26 (by decide) (fun hc26 => ?_) (fun hc26 => ?_)
      · have hok : okS x9 ∧ okJ y9 := ⟨yn_t hy2 hc5, isI_J.mp (yn_t hy12 hc15)⟩
        obtain ⟨nx9, hnx9, enx9⟩ := ok_nat (n := 6) (by decide) hok.1
        subst enx9
        obtain ⟨ny9, hny9, eny9⟩ := ok_nat (n := 8) (by decide) hok.2
        subst eny9
        refine lv_aload_n hx hb dX7_take_31 rfl (lv_at hl 0 rfl) ?_
        refine lv_iload_n hx hb dX7_take_32 rfl (lv_at hl 1 rfl) ?_
        refine lv_bipush (v := nI 6) hx hb dX7_take_33 (by decide) ?_
        refine lv_iload_n hx hb dX7_take_35 rfl (lv_at hl 2 rfl) ?_
        refine nv_iadd hx hb dX7_take_36 ?_
        refine kc_v (va_runV (As := [.int (nI nx9), .int (nI (6 + ny9))]) (rest := []) ⟨hx, hb, hml, hown, hts⟩ (c_X7_load l G B (mu (mu (mu μ md (.inr (7, [.int (nI 0), .ref ab, .ref av, .int (nI st), .ref c1, .ref c2, .ref c3, .ref c4, .ref c5, .ref c6, .ref c7, .ref c8, .ref c9]))) ab (.inl (G.2 0, 3744, .inr (.inl f)))) av (.inl (G.2 2, 26, .inl v))) md ab av c1 c2 c3 c4 c5 c6 c7 c8 c9 0 st f v nx9 (6 + ny9) ((mu_n ne0_2).trans ((mu_n ne0_1).trans (mu_s _ _ _))) ((mu_n ((mp_ne hab hav (by simp)))).trans (mu_s _ _ _)) (mu_s _ _ _) (by omega) (by omega) (hNM.2.2.2 (6 + ny9))) (cwV 2 hts gX7_take_X7_load rfl rfl rfl (by decide +kernel) ⟨Nat.le_of_ble_eq_true rfl, Nat.le_of_ble_eq_true rfl⟩) ⟨KW.blind, hP.recv hK rfl ((mu_n ne0_2).trans ((mu_n ne0_1).trans (mu_s _ _ _))), fun U9 hU9 hW9 => ⟨rfl, KW.pre hBs hKK hS hP U9 hU9 hW9⟩⟩ rfl rfl hl.1 rfl (lv_room (Nat.le_of_ble_eq_true rfl)) dX7_take_37 ⟨(Nat.le_of_ble_eq_true rfl), (Nat.le_of_ble_eq_true rfl)⟩) hS (fun m37 H locs hq9 hP hz9 hS => ?_)
        obtain ⟨g37, rfl, hL37⟩ := hq9
        have hP : mw G.1 vwCl B (mu (mu (mu μ md (.inr (7, [.int (nI 0), .ref ab, .ref av, .int (nI st), .ref c1, .ref c2, .ref c3, .ref c4, .ref c5, .ref c6, .ref c7, .ref c8, .ref c9]))) ab (.inl (G.2 0, 3744, .inr (.inl g37)))) av (.inl (G.2 2, 26, .inl (upd v nx9 (v (6 + ny9)))))) _ := mw_eq ((congrArg (fun z => mu z av (.inl (G.2 2, 26, .inl (upd v nx9 (v (6 + ny9)))))) ((mu_c _ _ ((mp_ne hav hab (by simp)))).trans (congrArg (fun z => mu z av (.inl (G.2 2, 26, .inl v))) (mu_u _ _ _ _)))).trans (mu_u _ _ _ _)) hP
        refine lv_aload_n hx hb dX7_take_40 rfl (lv_at hl 0 rfl) ?_
        refine mw_get (C := RX7) (T := TX7) (N := 13) hx hb hts in_X7_take_X7 hown hK hP ((mu_n ne0_2).trans ((mu_n ne0_1).trans (mu_s _ _ _))) rfl 2 (by decide) (hts (.fieldLink RX7 13 "OctagonDeskModel" "isVoid" "[Z") (by decide +kernel)) (fun _ h9 => h9) rfl dX7_take_41 ?_
        refine lv_iload_n hx hb dX7_take_44 rfl (lv_at hl 1 rfl) ?_
        refine mw_zald hx hb hK hP 2 (mu_s _ _ _) rfl (by omega) (by omega) dX7_take_45 ?_
        refine lv_if_ne (tgt := 53) hx hb dX7_take_46 (by decide) (fun hc46 => ?_) (fun hc46 => ?_)
        · refine lv_iconst (v := nI 0) hx hb dX7_take_53 (by decide) ?_
          rw [hQ]
          exact W.zret (v := nI 0) (ty := .boolean) hx hb hr (by first | rfl | decide) (fun t99 ht99 hW99 => ⟨⟨nI 0, mu (mu (mu μ md (.inr (7, [.int (nI 0), .ref ab, .ref av, .int (nI st), .ref c1, .ref c2, .ref c3, .ref c4, .ref c5, .ref c6, .ref c7, .ref c8, .ref c9]))) ab (.inl (G.2 0, 3744, .inr (.inl g37)))) av (.inl (G.2 2, 26, .inl (upd v nx9 (v (6 + ny9))))), rfl, (⟨_, _, _, rfl, Or.inl ⟨rfl, hok, rfl⟩⟩), by show mw _ _ _ _ t99.heap; rw [ht99]; exact hP⟩, hS.F ht99⟩) hS.2.2 dX7_take_54
        · exact absurd hc46 (by rw [upd_s, hNM.2.2.1 _ (by omega) (by omega)]; decide)
      · exact absurd rfl hc26

abbrev rm_X7_erase : Room := { frames := 0, cells := 0, slots := 0, locals := 0 }
set_option maxHeartbeats 4000000 in
set_option maxRecDepth 100000 in
theorem c_X7_erase (l : Launch) (G : GG) (B : Nat) (μ : mp) (md ab av c1 c2 c3 c4 c5 c6 c7 c8 c9 fl st : Nat) (f : Nat → Int64) (v : Nat → Int32) (hm : μ md = some (.inr (7, [.int (nI fl), .ref ab, .ref av, .int (nI st), .ref c1, .ref c2, .ref c3, .ref c4, .ref c5, .ref c6, .ref c7, .ref c8, .ref c9]))) (hab : μ ab = some (.inl (G.2 0, 3744, .inr (.inl f)))) (hav : μ av = some (.inl (G.2 2, 26, .inl v))) : Met l yX7_erase wsX7_erase rm_X7_erase (va_Pc [.ref md] (KW G B μ)) (va_Qi (fun r μ2 => r = nI st ∧ μ2 = mu μ md (.inr (7, [.int (nI 0), .ref ab, .ref av, .int (nI 0), .ref c1, .ref c2, .ref c3, .ref c4, .ref c5, .ref c6, .ref c7, .ref c8, .ref c9]))) (BB G B) (fun q => B ≤ q)) 0 0 (fun q => B ≤ q) := by
  refine Met.ofW (cc := cX7_erase) (maxL := 2) (ret := (some .int)) (by decide) rfl ?_
  intro p e s m args below meth c s₁ B9 hml hv
  obtain ⟨hargs, hBs, hP, hKK⟩ := hv
  have hx := B9.exec
  have hb := B9.bytes
  have hr := B9.returns
  have hts := atoms_spec (ws := wsX7_erase) B9.pre
  have hown : s.vm.findClass RX7 = some m.cls := findClass_of_methodNamed B9.named
  have hlocks := B9.notSynchronized
  have hK := hKK.k
  have hS : va_S (fun q => B ≤ q) s.heap s.heap [] := va_S.rf
  obtain ⟨Q, hQ⟩ : ∃ Q, Q = MQ below (va_Qi (fun r μ2 => r = nI st ∧ μ2 = mu μ md (.inr (7, [.int (nI 0), .ref ab, .ref av, .int (nI 0), .ref c1, .ref c2, .ref c3, .ref c4, .ref c5, .ref c6, .ref c7, .ref c8, .ref c9]))) (BB G B) (fun q => B ≤ q)) args s 0 0 (fun q => B ≤ q) := ⟨_, rfl⟩
  rw [← hQ]
  have ne0_1 : md ≠ ab := mp_ne hm hab (by simp)
  have ne0_2 : md ≠ av := mp_ne hm hav (by simp)
  have in_X7_erase_X7 : ∀ w ∈ wsX70, w ∈ wsX7_erase := by decide +kernel
  have hP : mw G.1 vwCl B (mu μ md (.inr (7, [.int (nI fl), .ref ab, .ref av, .int (nI st), .ref c1, .ref c2, .ref c3, .ref c4, .ref c5, .ref c6, .ref c7, .ref c8, .ref c9]))) s.heap := mw_eq (mu_i hm).symm hP
  have hl := lv_entry ([.ref md]) (n := 2) (Nat.le_of_ble_eq_true rfl)
  have he9 : entryFrame m args 2 = entryFrame m ([.ref md] : List Value).toArray 2 := by rw [hargs]
  rw [he9, lg_entry_eq]
  generalize (lg_sl ([.ref md]) ++ List.replicate (2 - (lg_sl ([.ref md])).length) Slot.unset).toArray = ls at hl ⊢
  have hl : lv_has ls 2 [(0, .ref md)] := hl
  refine lv_aload_n hx hb dX7_erase_0 rfl (lv_at hl 0 rfl) ?_
  refine lv_iconst (v := nI 0) hx hb dX7_erase_1 (by decide) ?_
  refine mw_put (ty := .int) (v := .int (nI 0)) (C := RX7) (T := TX7) (N := 13) hx hb hts in_X7_erase_X7 tyX7 tyX7_ok nmX7 hown hK hP hS (mu_s _ _ _) rfl 0 (by decide) (hts (.fieldLink RX7 47 "OctagonDeskModel" "fault" "I") (by decide +kernel)) (fun _ h9 => h9) rfl (by decide +kernel) (by first | rfl | decide +kernel) (by first | rfl | decide +kernel) (Nat.le_of_ble_eq_true rfl) dX7_erase_2 (fun H locs hP hS => ?_)
  have hP : mw G.1 vwCl B (mu μ md (.inr (7, [.int (nI 0), .ref ab, .ref av, .int (nI st), .ref c1, .ref c2, .ref c3, .ref c4, .ref c5, .ref c6, .ref c7, .ref c8, .ref c9]))) _ := mw_eq (mu_u _ _ _ _) hP
  refine lv_aload_n hx hb dX7_erase_5 rfl (lv_at hl 0 rfl) ?_
  refine mw_get (C := RX7) (T := TX7) (N := 13) hx hb hts in_X7_erase_X7 hown hK hP (mu_s _ _ _) rfl 3 (by decide) (hts (.fieldLink RX7 136 "OctagonDeskModel" "steps" "I") (by decide +kernel)) (fun _ h9 => h9) rfl dX7_erase_6 ?_
  refine lv_istore_n (lv' := [(1, .int (nI st)), (0, .ref md)]) hx hb dX7_erase_9 rfl hl (by decide) rfl (fun ls hl => ?_)
  refine lv_aload_n hx hb dX7_erase_10 rfl (lv_at hl 1 rfl) ?_
  refine lv_iconst (v := nI 0) hx hb dX7_erase_11 (by decide) ?_
  refine mw_put (ty := .int) (v := .int (nI 0)) (C := RX7) (T := TX7) (N := 13) hx hb hts in_X7_erase_X7 tyX7 tyX7_ok nmX7 hown hK hP hS (mu_s _ _ _) rfl 3 (by decide) (hts (.fieldLink RX7 136 "OctagonDeskModel" "steps" "I") (by decide +kernel)) (fun _ h9 => h9) rfl (by decide +kernel) (by first | rfl | decide +kernel) (by first | rfl | decide +kernel) (Nat.le_of_ble_eq_true rfl) dX7_erase_12 (fun H locs hP hS => ?_)
  have hP : mw G.1 vwCl B (mu μ md (.inr (7, [.int (nI 0), .ref ab, .ref av, .int (nI 0), .ref c1, .ref c2, .ref c3, .ref c4, .ref c5, .ref c6, .ref c7, .ref c8, .ref c9]))) _ := mw_eq (mu_u _ _ _ _) hP
  refine lv_iload_n hx hb dX7_erase_15 rfl (lv_at hl 0 rfl) ?_
  rw [hQ]
  exact W.iret (v := nI st) hx hb hr (fun t99 ht99 hW99 => ⟨⟨nI st, mu μ md (.inr (7, [.int (nI 0), .ref ab, .ref av, .int (nI 0), .ref c1, .ref c2, .ref c3, .ref c4, .ref c5, .ref c6, .ref c7, .ref c8, .ref c9])), rfl, (⟨rfl, rfl⟩), by show mw _ _ _ _ t99.heap; rw [ht99]; exact hP⟩, hS.F ht99⟩) hS.2.2 dX7_erase_16

abbrev rm_X7_most : Room := { frames := 2, cells := 0, slots := 0, locals := 42 }
set_option maxHeartbeats 4000000 in
set_option maxRecDepth 100000 in
theorem c_X7_most (l : Launch) (G : GG) (B : Nat) (μ : mp) (md ab av c1 c2 c3 c4 c5 c6 c7 c8 c9 fl st : Nat) (f : Nat → Int64) (v : Nat → Int32) (x9 y9 z9 : Int32) (hm : μ md = some (.inr (7, [.int (nI fl), .ref ab, .ref av, .int (nI st), .ref c1, .ref c2, .ref c3, .ref c4, .ref c5, .ref c6, .ref c7, .ref c8, .ref c9]))) (hab : μ ab = some (.inl (G.2 0, 3744, .inr (.inl f)))) (hav : μ av = some (.inl (G.2 2, 26, .inl v))) (hNM : NM f v) : Met l yX7_most wsX7_most rm_X7_most (va_Pc [.ref md, .int x9, .int y9, .int z9] (KW G B μ)) (va_Ql (fun r μ2 => ∃ (fl9 : Nat) (g9 : Nat → Int64) (w9 : Nat → Int32), μ2 = mu (mu (mu μ md (.inr (7, [.int (nI fl9), .ref ab, .ref av, .int (nI st), .ref c1, .ref c2, .ref c3, .ref c4, .ref c5, .ref c6, .ref c7, .ref c8, .ref c9]))) ab (.inl (G.2 0, 3744, .inr (.inl g9)))) av (.inl (G.2 2, 26, .inl w9)) ∧ ((fl9 = 0 ∧ (okS x9 ∧ okP y9 z9) ∧ r = INF) ∨ (fl9 = 1 ∧ ¬ (okS x9 ∧ okP y9 z9)))) (BB G B) (fun q => B ≤ q)) 0 0 (fun q => B ≤ q) := by
  refine Met.ofW (cc := cX7_most) (maxL := 5) (ret := (some .long)) (by decide) rfl ?_
  intro p e s m args below meth c s₁ B9 hml hv
  obtain ⟨hargs, hBs, hP, hKK⟩ := hv
  have hx := B9.exec
  have hb := B9.bytes
  have hr := B9.returns
  have hts := atoms_spec (ws := wsX7_most) B9.pre
  have hown : s.vm.findClass RX7 = some m.cls := findClass_of_methodNamed B9.named
  have hlocks := B9.notSynchronized
  have hK := hKK.k
  have hS : va_S (fun q => B ≤ q) s.heap s.heap [] := va_S.rf
  obtain ⟨Q, hQ⟩ : ∃ Q, Q = MQ below (va_Ql (fun r μ2 => ∃ (fl9 : Nat) (g9 : Nat → Int64) (w9 : Nat → Int32), μ2 = mu (mu (mu μ md (.inr (7, [.int (nI fl9), .ref ab, .ref av, .int (nI st), .ref c1, .ref c2, .ref c3, .ref c4, .ref c5, .ref c6, .ref c7, .ref c8, .ref c9]))) ab (.inl (G.2 0, 3744, .inr (.inl g9)))) av (.inl (G.2 2, 26, .inl w9)) ∧ ((fl9 = 0 ∧ (okS x9 ∧ okP y9 z9) ∧ r = INF) ∨ (fl9 = 1 ∧ ¬ (okS x9 ∧ okP y9 z9)))) (BB G B) (fun q => B ≤ q)) args s 0 0 (fun q => B ≤ q) := ⟨_, rfl⟩
  rw [← hQ]
  have ne0_1 : md ≠ ab := mp_ne hm hab (by simp)
  have ne0_2 : md ≠ av := mp_ne hm hav (by simp)
  have in_X7_most_X7 : ∀ w ∈ wsX70, w ∈ wsX7_most := by decide +kernel
  have hP : mw G.1 vwCl B (mu (mu (mu μ md (.inr (7, [.int (nI fl), .ref ab, .ref av, .int (nI st), .ref c1, .ref c2, .ref c3, .ref c4, .ref c5, .ref c6, .ref c7, .ref c8, .ref c9]))) ab (.inl (G.2 0, 3744, .inr (.inl f)))) av (.inl (G.2 2, 26, .inl v))) s.heap := mw_eq ((congrArg (fun z => mu z av (.inl (G.2 2, 26, .inl v))) ((congrArg (fun z => mu z ab (.inl (G.2 0, 3744, .inr (.inl f)))) (mu_i hm)).trans (mu_i hab))).trans (mu_i hav)).symm hP
  have hl := lv_entry ([.ref md, .int x9, .int y9, .int z9]) (n := 5) (Nat.le_of_ble_eq_true rfl)
  have he9 : entryFrame m args 5 = entryFrame m ([.ref md, .int x9, .int y9, .int z9] : List Value).toArray 5 := by rw [hargs]
  rw [he9, lg_entry_eq]
  generalize (lg_sl ([.ref md, .int x9, .int y9, .int z9]) ++ List.replicate (5 - (lg_sl ([.ref md, .int x9, .int y9, .int z9])).length) Slot.unset).toArray = ls at hl ⊢
  have hl : lv_has ls 5 [(0, .ref md), (1, .int x9), (2, .int y9), (3, .int z9)] := hl
  refine lv_iload_n hx hb dX7_most_0 rfl (lv_at hl 1 rfl) ?_
  refine kc_i (va_runS (As := [.int x9]) (rest := []) ⟨hx, hb, hml, hown, hts⟩ (c_X7_isSlot l G B (mu (mu (mu μ md (.inr (7, [.int (nI fl), .ref ab, .ref av, .int (nI st), .ref c1, .ref c2, .ref c3, .ref c4, .ref c5, .ref c6, .ref c7, .ref c8, .ref c9]))) ab (.inl (G.2 0, 3744, .inr (.inl f)))) av (.inl (G.2 2, 26, .inl v))) x9) (va_cwS 1 hts gX7_most_X7_isSlot rfl rfl rfl (by decide +kernel) ⟨Nat.le_of_ble_eq_true rfl, Nat.le_of_ble_eq_true rfl⟩) ⟨KW.blind, fun U9 hU9 hW9 => ⟨rfl, KW.pre hBs hKK hS hP U9 hU9 hW9⟩⟩ rfl rfl hl.1 rfl (lv_room (Nat.le_of_ble_eq_true rfl)) dX7_most_1 ⟨(Nat.le_of_ble_eq_true rfl), (Nat.le_of_ble_eq_true rfl)⟩) hS (fun r1 m1 H locs hq9 hP hz9 hS => ?_)
  obtain ⟨he9, hy1⟩ := hq9
  rw [he9] at hP
  refine lv_if_eq (tgt := 33) hx hb dX7_most_4 (by decide) (fun hc4 => ?_) (fun hc4 => ?_)
  · refine lv_iconst (v := nI 0) hx hb dX7_most_33 (by decide) ?_
    refine lv_istore (lv' := [(4, .int (nI 0)), (0, .ref md), (1, .int x9), (2, .int y9), (3, .int z9)]) hx hb dX7_most_34 hl (by decide) rfl (fun ls hl => ?_)
    refine lv_aload_n hx hb dX7_most_36 rfl (lv_at hl 1 rfl) ?_
    refine lv_iload hx hb dX7_most_37 (lv_at hl 0 rfl) ?_
    refine lv_if_ne (tgt := 46) hx hb dX7_most_39 (by decide) (fun hc39 => ?_) (fun hc39 => ?_)
    · exact absurd rfl hc39
    · refine lv_iconst (v := nI 1) hx hb dX7_most_42 (by decide) ?_
      refine lv_goto (tgt := 60) hx hb dX7_most_43 (by decide) ?_
      refine kc_i (va_runV (As := [.int (nI 1)]) (rest := []) ⟨hx, hb, hml, hown, hts⟩ (c_X7_refused l G B (mu (mu (mu μ md (.inr (7, [.int (nI fl), .ref ab, .ref av, .int (nI st), .ref c1, .ref c2, .ref c3, .ref c4, .ref c5, .ref c6, .ref c7, .ref c8, .ref c9]))) ab (.inl (G.2 0, 3744, .inr (.inl f)))) av (.inl (G.2 2, 26, .inl v))) md ab av c1 c2 c3 c4 c5 c6 c7 c8 c9 fl st f v 1 ((mu_n ne0_2).trans ((mu_n ne0_1).trans (mu_s _ _ _))) ((mu_n ((mp_ne hab hav (by simp)))).trans (mu_s _ _ _)) (mu_s _ _ _) (by omega)) (cwV 1 hts gX7_most_X7_refused rfl rfl rfl (by decide +kernel) ⟨Nat.le_of_ble_eq_true rfl, Nat.le_of_ble_eq_true rfl⟩) ⟨KW.blind, hP.recv hK rfl ((mu_n ne0_2).trans ((mu_n ne0_1).trans (mu_s _ _ _))), fun U9 hU9 hW9 => ⟨rfl, KW.pre hBs hKK hS hP U9 hU9 hW9⟩⟩ rfl rfl hl.1 rfl (lv_room (Nat.le_of_ble_eq_true rfl)) dX7_most_60 ⟨(Nat.le_of_ble_eq_true rfl), (Nat.le_of_ble_eq_true rfl)⟩) hS (fun r60 m60 H locs hq9 hP hz9 hS => ?_)
      obtain ⟨he9, hw0, hw1⟩ := hq9
      rw [he9] at hP
      have hP : mw G.1 vwCl B (mu (mu (mu μ md (.inr (7, [.int (nI 1), .ref ab, .ref av, .int (nI st), .ref c1, .ref c2, .ref c3, .ref c4, .ref c5, .ref c6, .ref c7, .ref c8, .ref c9]))) ab (.inl (G.2 0, 3744, .inr (.inl f)))) av (.inl (G.2 2, 26, .inl v))) _ := mw_eq ((mu_c _ _ ((Ne.symm ne0_2))).trans (congrArg (fun z => mu z av (.inl (G.2 2, 26, .inl v))) ((mu_c _ _ ((Ne.symm ne0_1))).trans (congrArg (fun z => mu z ab (.inl (G.2 0, 3744, .inr (.inl f)))) (mu_u _ _ _ _))))) hP
      obtain rfl : r60 = nI 1 := hw1 (by decide)
      refine lv_if_eq (tgt := 70) hx hb dX7_most_63 (by decide) (fun hc63 => ?_) (fun hc63 => ?_)
      · exact absurd hc63 (by decide)
      · refine lv_lconst (v := 0) hx hb dX7_most_66 (by decide) ?_
        refine lv_goto (tgt := 77) hx hb dX7_most_67 (by decide) ?_
        rw [hQ]
        exact W.lret (v := 0) hx hb hr (fun t99 ht99 hW99 => ⟨⟨0, mu (mu (mu μ md (.inr (7, [.int (nI 1), .ref ab, .ref av, .int (nI st), .ref c1, .ref c2, .ref c3, .ref c4, .ref c5, .ref c6, .ref c7, .ref c8, .ref c9]))) ab (.inl (G.2 0, 3744, .inr (.inl f)))) av (.inl (G.2 2, 26, .inl v)), rfl, (⟨_, _, _, rfl, Or.inr ⟨rfl, fun h9 => by first | exact yn_f hy1 hc4 h9.1 | exact yn_f hy8 hc11 h9.2.1 | exact yn_f hy15 hc18 h9.2.2.1 | exact h9.2.2.2 (by rw [ne_x _ (by omega), hc26])⟩⟩), by show mw _ _ _ _ t99.heap; rw [ht99]; exact hP⟩, hS.F ht99⟩) hS.2.2 dX7_most_77
  · refine lv_iload_n hx hb dX7_most_7 rfl (lv_at hl 2 rfl) ?_
    refine kc_i (va_runS (As := [.int y9]) (rest := []) ⟨hx, hb, hml, hown, hts⟩ (c_X7_isTerm l G B (mu (mu (mu μ md (.inr (7, [.int (nI fl), .ref ab, .ref av, .int (nI st), .ref c1, .ref c2, .ref c3, .ref c4, .ref c5, .ref c6, .ref c7, .ref c8, .ref c9]))) ab (.inl (G.2 0, 3744, .inr (.inl f)))) av (.inl (G.2 2, 26, .inl v))) y9) (va_cwS 1 hts gX7_most_X7_isTerm rfl rfl rfl (by decide +kernel) ⟨Nat.le_of_ble_eq_true rfl, Nat.le_of_ble_eq_true rfl⟩) ⟨KW.blind, fun U9 hU9 hW9 => ⟨rfl, KW.pre hBs hKK hS hP U9 hU9 hW9⟩⟩ rfl rfl hl.1 rfl (lv_room (Nat.le_of_ble_eq_true rfl)) dX7_most_8 ⟨(Nat.le_of_ble_eq_true rfl), (Nat.le_of_ble_eq_true rfl)⟩) hS (fun r8 m8 H locs hq9 hP hz9 hS => ?_)
    obtain ⟨he9, hy8⟩ := hq9
    rw [he9] at hP
    refine lv_if_eq (tgt := 33) hx hb dX7_most_11 (by decide) (fun hc11 => ?_) (fun hc11 => ?_)
    · refine lv_iconst (v := nI 0) hx hb dX7_most_33 (by decide) ?_
      refine lv_istore (lv' := [(4, .int (nI 0)), (0, .ref md), (1, .int x9), (2, .int y9), (3, .int z9)]) hx hb dX7_most_34 hl (by decide) rfl (fun ls hl => ?_)
      refine lv_aload_n hx hb dX7_most_36 rfl (lv_at hl 1 rfl) ?_
      refine lv_iload hx hb dX7_most_37 (lv_at hl 0 rfl) ?_
      refine lv_if_ne (tgt := 46) hx hb dX7_most_39 (by decide) (fun hc39 => ?_) (fun hc39 => ?_)
      · exact absurd rfl hc39
      · refine lv_iconst (v := nI 1) hx hb dX7_most_42 (by decide) ?_
        refine lv_goto (tgt := 60) hx hb dX7_most_43 (by decide) ?_
        refine kc_i (va_runV (As := [.int (nI 1)]) (rest := []) ⟨hx, hb, hml, hown, hts⟩ (c_X7_refused l G B (mu (mu (mu μ md (.inr (7, [.int (nI fl), .ref ab, .ref av, .int (nI st), .ref c1, .ref c2, .ref c3, .ref c4, .ref c5, .ref c6, .ref c7, .ref c8, .ref c9]))) ab (.inl (G.2 0, 3744, .inr (.inl f)))) av (.inl (G.2 2, 26, .inl v))) md ab av c1 c2 c3 c4 c5 c6 c7 c8 c9 fl st f v 1 ((mu_n ne0_2).trans ((mu_n ne0_1).trans (mu_s _ _ _))) ((mu_n ((mp_ne hab hav (by simp)))).trans (mu_s _ _ _)) (mu_s _ _ _) (by omega)) (cwV 1 hts gX7_most_X7_refused rfl rfl rfl (by decide +kernel) ⟨Nat.le_of_ble_eq_true rfl, Nat.le_of_ble_eq_true rfl⟩) ⟨KW.blind, hP.recv hK rfl ((mu_n ne0_2).trans ((mu_n ne0_1).trans (mu_s _ _ _))), fun U9 hU9 hW9 => ⟨rfl, KW.pre hBs hKK hS hP U9 hU9 hW9⟩⟩ rfl rfl hl.1 rfl (lv_room (Nat.le_of_ble_eq_true rfl)) dX7_most_60 ⟨(Nat.le_of_ble_eq_true rfl), (Nat.le_of_ble_eq_true rfl)⟩) hS (fun r60 m60 H locs hq9 hP hz9 hS => ?_)
        obtain ⟨he9, hw0, hw1⟩ := hq9
        rw [he9] at hP
        have hP : mw G.1 vwCl B (mu (mu (mu μ md (.inr (7, [.int (nI 1), .ref ab, .ref av, .int (nI st), .ref c1, .ref c2, .ref c3, .ref c4, .ref c5, .ref c6, .ref c7, .ref c8, .ref c9]))) ab (.inl (G.2 0, 3744, .inr (.inl f)))) av (.inl (G.2 2, 26, .inl v))) _ := mw_eq ((mu_c _ _ ((Ne.symm ne0_2))).trans (congrArg (fun z => mu z av (.inl (G.2 2, 26, .inl v))) ((mu_c _ _ ((Ne.symm ne0_1))).trans (congrArg (fun z => mu z ab (.inl (G.2 0, 3744, .inr (.inl f)))) (mu_u _ _ _ _))))) hP
        obtain rfl : r60 = nI 1 := hw1 (by decide)
        refine lv_if_eq (tgt := 70) hx hb dX7_most_63 (by decide) (fun hc63 => ?_) (fun hc63 => ?_)
        · exact absurd hc63 (by decide)
        · refine lv_lconst (v := 0) hx hb dX7_most_66 (by decide) ?_
          refine lv_goto (tgt := 77) hx hb dX7_most_67 (by decide) ?_
          rw [hQ]
          exact W.lret (v := 0) hx hb hr (fun t99 ht99 hW99 => ⟨⟨0, mu (mu (mu μ md (.inr (7, [.int (nI 1), .ref ab, .ref av, .int (nI st), .ref c1, .ref c2, .ref c3, .ref c4, .ref c5, .ref c6, .ref c7, .ref c8, .ref c9]))) ab (.inl (G.2 0, 3744, .inr (.inl f)))) av (.inl (G.2 2, 26, .inl v)), rfl, (⟨_, _, _, rfl, Or.inr ⟨rfl, fun h9 => by first | exact yn_f hy1 hc4 h9.1 | exact yn_f hy8 hc11 h9.2.1 | exact yn_f hy15 hc18 h9.2.2.1 | exact h9.2.2.2 (by rw [ne_x _ (by omega), hc26])⟩⟩), by show mw _ _ _ _ t99.heap; rw [ht99]; exact hP⟩, hS.F ht99⟩) hS.2.2 dX7_most_77
    · refine lv_iload_n hx hb dX7_most_14 rfl (lv_at hl 3 rfl) ?_
      refine kc_i (va_runS (As := [.int z9]) (rest := []) ⟨hx, hb, hml, hown, hts⟩ (c_X7_isTerm l G B (mu (mu (mu μ md (.inr (7, [.int (nI fl), .ref ab, .ref av, .int (nI st), .ref c1, .ref c2, .ref c3, .ref c4, .ref c5, .ref c6, .ref c7, .ref c8, .ref c9]))) ab (.inl (G.2 0, 3744, .inr (.inl f)))) av (.inl (G.2 2, 26, .inl v))) z9) (va_cwS 1 hts gX7_most_X7_isTerm rfl rfl rfl (by decide +kernel) ⟨Nat.le_of_ble_eq_true rfl, Nat.le_of_ble_eq_true rfl⟩) ⟨KW.blind, fun U9 hU9 hW9 => ⟨rfl, KW.pre hBs hKK hS hP U9 hU9 hW9⟩⟩ rfl rfl hl.1 rfl (lv_room (Nat.le_of_ble_eq_true rfl)) dX7_most_15 ⟨(Nat.le_of_ble_eq_true rfl), (Nat.le_of_ble_eq_true rfl)⟩) hS (fun r15 m15 H locs hq9 hP hz9 hS => ?_)
      obtain ⟨he9, hy15⟩ := hq9
      rw [he9] at hP
      refine lv_if_eq (tgt := 33) hx hb dX7_most_18 (by decide) (fun hc18 => ?_) (fun hc18 => ?_)
      · refine lv_iconst (v := nI 0) hx hb dX7_most_33 (by decide) ?_
        refine lv_istore (lv' := [(4, .int (nI 0)), (0, .ref md), (1, .int x9), (2, .int y9), (3, .int z9)]) hx hb dX7_most_34 hl (by decide) rfl (fun ls hl => ?_)
        refine lv_aload_n hx hb dX7_most_36 rfl (lv_at hl 1 rfl) ?_
        refine lv_iload hx hb dX7_most_37 (lv_at hl 0 rfl) ?_
        refine lv_if_ne (tgt := 46) hx hb dX7_most_39 (by decide) (fun hc39 => ?_) (fun hc39 => ?_)
        · exact absurd rfl hc39
        · refine lv_iconst (v := nI 1) hx hb dX7_most_42 (by decide) ?_
          refine lv_goto (tgt := 60) hx hb dX7_most_43 (by decide) ?_
          refine kc_i (va_runV (As := [.int (nI 1)]) (rest := []) ⟨hx, hb, hml, hown, hts⟩ (c_X7_refused l G B (mu (mu (mu μ md (.inr (7, [.int (nI fl), .ref ab, .ref av, .int (nI st), .ref c1, .ref c2, .ref c3, .ref c4, .ref c5, .ref c6, .ref c7, .ref c8, .ref c9]))) ab (.inl (G.2 0, 3744, .inr (.inl f)))) av (.inl (G.2 2, 26, .inl v))) md ab av c1 c2 c3 c4 c5 c6 c7 c8 c9 fl st f v 1 ((mu_n ne0_2).trans ((mu_n ne0_1).trans (mu_s _ _ _))) ((mu_n ((mp_ne hab hav (by simp)))).trans (mu_s _ _ _)) (mu_s _ _ _) (by omega)) (cwV 1 hts gX7_most_X7_refused rfl rfl rfl (by decide +kernel) ⟨Nat.le_of_ble_eq_true rfl, Nat.le_of_ble_eq_true rfl⟩) ⟨KW.blind, hP.recv hK rfl ((mu_n ne0_2).trans ((mu_n ne0_1).trans (mu_s _ _ _))), fun U9 hU9 hW9 => ⟨rfl, KW.pre hBs hKK hS hP U9 hU9 hW9⟩⟩ rfl rfl hl.1 rfl (lv_room (Nat.le_of_ble_eq_true rfl)) dX7_most_60 ⟨(Nat.le_of_ble_eq_true rfl), (Nat.le_of_ble_eq_true rfl)⟩) hS (fun r60 m60 H locs hq9 hP hz9 hS => ?_)
          obtain ⟨he9, hw0, hw1⟩ := hq9
          rw [he9] at hP
          have hP : mw G.1 vwCl B (mu (mu (mu μ md (.inr (7, [.int (nI 1), .ref ab, .ref av, .int (nI st), .ref c1, .ref c2, .ref c3, .ref c4, .ref c5, .ref c6, .ref c7, .ref c8, .ref c9]))) ab (.inl (G.2 0, 3744, .inr (.inl f)))) av (.inl (G.2 2, 26, .inl v))) _ := mw_eq ((mu_c _ _ ((Ne.symm ne0_2))).trans (congrArg (fun z => mu z av (.inl (G.2 2, 26, .inl v))) ((mu_c _ _ ((Ne.symm ne0_1))).trans (congrArg (fun z => mu z ab (.inl (G.2 0, 3744, .inr (.inl f)))) (mu_u _ _ _ _))))) hP
          obtain rfl : r60 = nI 1 := hw1 (by decide)
          refine lv_if_eq (tgt := 70) hx hb dX7_most_63 (by decide) (fun hc63 => ?_) (fun hc63 => ?_)
          · exact absurd hc63 (by decide)
          · refine lv_lconst (v := 0) hx hb dX7_most_66 (by decide) ?_
            refine lv_goto (tgt := 77) hx hb dX7_most_67 (by decide) ?_
            rw [hQ]
            exact W.lret (v := 0) hx hb hr (fun t99 ht99 hW99 => ⟨⟨0, mu (mu (mu μ md (.inr (7, [.int (nI 1), .ref ab, .ref av, .int (nI st), .ref c1, .ref c2, .ref c3, .ref c4, .ref c5, .ref c6, .ref c7, .ref c8, .ref c9]))) ab (.inl (G.2 0, 3744, .inr (.inl f)))) av (.inl (G.2 2, 26, .inl v)), rfl, (⟨_, _, _, rfl, Or.inr ⟨rfl, fun h9 => by first | exact yn_f hy1 hc4 h9.1 | exact yn_f hy8 hc11 h9.2.1 | exact yn_f hy15 hc18 h9.2.2.1 | exact h9.2.2.2 (by rw [ne_x _ (by omega), hc26])⟩⟩), by show mw _ _ _ _ t99.heap; rw [ht99]; exact hP⟩, hS.F ht99⟩) hS.2.2 dX7_most_77
      · have hy9a := yn_t hy8 hc11
        have hz9a := yn_t hy15 hc18
        obtain ⟨ny9, hny9, eny9⟩ := ok_nat (n := 12) (by decide) hy9a
        subst eny9
        obtain ⟨nz9, hnz9, enz9⟩ := ok_nat (n := 12) (by decide) hz9a
        subst enz9
        refine lv_iload_n hx hb dX7_most_21 rfl (lv_at hl 2 rfl) ?_
        refine lv_iload_n hx hb dX7_most_22 rfl (lv_at hl 3 rfl) ?_
        refine kc_i (va_runS (As := [.int (nI nz9)]) (rest := [.int (nI ny9)]) ⟨hx, hb, hml, hown, hts⟩ (c_X7_minus l G B (mu (mu (mu μ md (.inr (7, [.int (nI fl), .ref ab, .ref av, .int (nI st), .ref c1, .ref c2, .ref c3, .ref c4, .ref c5, .ref c6, .ref c7, .ref c8, .ref c9]))) ab (.inl (G.2 0, 3744, .inr (.inl f)))) av (.inl (G.2 2, 26, .inl v))) nz9 (by omega)) (va_cwS 1 hts gX7_most_X7_minus rfl rfl rfl (by decide +kernel) ⟨Nat.le_of_ble_eq_true rfl, Nat.le_of_ble_eq_true rfl⟩) ⟨KW.blind, fun U9 hU9 hW9 => ⟨rfl, KW.pre hBs hKK hS hP U9 hU9 hW9⟩⟩ rfl rfl hl.1 rfl (lv_room (Nat.le_of_ble_eq_true rfl)) dX7_most_23 ⟨(Nat.le_of_ble_eq_true rfl), (Nat.le_of_ble_eq_true rfl)⟩) hS (fun r23 m23 H locs hq9 hP hz9 hS => ?_)
        obtain ⟨he9, rfl⟩ := hq9
        rw [he9] at hP
        have hne23 := ne_lt (p := nz9) (by omega)
        refine nv_icmp_eq (tgt := 33) hx hb (by omega) (by omega) dX7_most_26 (by decide) (fun hc26 => ?_) (fun hc26 => ?_)
        · refine lv_iconst (v := nI 0) hx hb dX7_most_33 (by decide) ?_
          refine lv_istore (lv' := [(4, .int (nI 0)), (0, .ref md), (1, .int x9), (2, .int (nI ny9)), (3, .int (nI nz9))]) hx hb dX7_most_34 hl (by decide) rfl (fun ls hl => ?_)
          refine lv_aload_n hx hb dX7_most_36 rfl (lv_at hl 1 rfl) ?_
          refine lv_iload hx hb dX7_most_37 (lv_at hl 0 rfl) ?_
          refine lv_if_ne (tgt := 46) hx hb dX7_most_39 (by decide) (fun hc39 => ?_) (fun hc39 => ?_)
          · exact absurd rfl hc39
          · refine lv_iconst (v := nI 1) hx hb dX7_most_42 (by decide) ?_
            refine lv_goto (tgt := 60) hx hb dX7_most_43 (by decide) ?_
            refine kc_i (va_runV (As := [.int (nI 1)]) (rest := []) ⟨hx, hb, hml, hown, hts⟩ (c_X7_refused l G B (mu (mu (mu μ md (.inr (7, [.int (nI fl), .ref ab, .ref av, .int (nI st), .ref c1, .ref c2, .ref c3, .ref c4, .ref c5, .ref c6, .ref c7, .ref c8, .ref c9]))) ab (.inl (G.2 0, 3744, .inr (.inl f)))) av (.inl (G.2 2, 26, .inl v))) md ab av c1 c2 c3 c4 c5 c6 c7 c8 c9 fl st f v 1 ((mu_n ne0_2).trans ((mu_n ne0_1).trans (mu_s _ _ _))) ((mu_n ((mp_ne hab hav (by simp)))).trans (mu_s _ _ _)) (mu_s _ _ _) (by omega)) (cwV 1 hts gX7_most_X7_refused rfl rfl rfl (by decide +kernel) ⟨Nat.le_of_ble_eq_true rfl, Nat.le_of_ble_eq_true rfl⟩) ⟨KW.blind, hP.recv hK rfl ((mu_n ne0_2).trans ((mu_n ne0_1).trans (mu_s _ _ _))), fun U9 hU9 hW9 => ⟨rfl, KW.pre hBs hKK hS hP U9 hU9 hW9⟩⟩ rfl rfl hl.1 rfl (lv_room (Nat.le_of_ble_eq_true rfl)) dX7_most_60 ⟨(Nat.le_of_ble_eq_true rfl), (Nat.le_of_ble_eq_true rfl)⟩) hS (fun r60 m60 H locs hq9 hP hz9 hS => ?_)
            obtain ⟨he9, hw0, hw1⟩ := hq9
            rw [he9] at hP
            have hP : mw G.1 vwCl B (mu (mu (mu μ md (.inr (7, [.int (nI 1), .ref ab, .ref av, .int (nI st), .ref c1, .ref c2, .ref c3, .ref c4, .ref c5, .ref c6, .ref c7, .ref c8, .ref c9]))) ab (.inl (G.2 0, 3744, .inr (.inl f)))) av (.inl (G.2 2, 26, .inl v))) _ := mw_eq ((mu_c _ _ ((Ne.symm ne0_2))).trans (congrArg (fun z => mu z av (.inl (G.2 2, 26, .inl v))) ((mu_c _ _ ((Ne.symm ne0_1))).trans (congrArg (fun z => mu z ab (.inl (G.2 0, 3744, .inr (.inl f)))) (mu_u _ _ _ _))))) hP
            obtain rfl : r60 = nI 1 := hw1 (by decide)
            refine lv_if_eq (tgt := 70) hx hb dX7_most_63 (by decide) (fun hc63 => ?_) (fun hc63 => ?_)
            · exact absurd hc63 (by decide)
            · refine lv_lconst (v := 0) hx hb dX7_most_66 (by decide) ?_
              refine lv_goto (tgt := 77) hx hb dX7_most_67 (by decide) ?_
              rw [hQ]
              exact W.lret (v := 0) hx hb hr (fun t99 ht99 hW99 => ⟨⟨0, mu (mu (mu μ md (.inr (7, [.int (nI 1), .ref ab, .ref av, .int (nI st), .ref c1, .ref c2, .ref c3, .ref c4, .ref c5, .ref c6, .ref c7, .ref c8, .ref c9]))) ab (.inl (G.2 0, 3744, .inr (.inl f)))) av (.inl (G.2 2, 26, .inl v)), rfl, (⟨_, _, _, rfl, Or.inr ⟨rfl, fun h9 => by first | exact yn_f hy1 hc4 h9.1 | exact yn_f hy8 hc11 h9.2.1 | exact yn_f hy15 hc18 h9.2.2.1 | exact h9.2.2.2 (by rw [ne_x _ (by omega), hc26])⟩⟩), by show mw _ _ _ _ t99.heap; rw [ht99]; exact hP⟩, hS.F ht99⟩) hS.2.2 dX7_most_77
        · have hp9 : okP (nI ny9) (nI nz9) := ⟨hy9a, hz9a, fun e9 => hc26 (by rw [ne_x _ (by omega)] at e9; exact (nI_eq (by omega) (by omega)).mp e9)⟩
          refine lv_iconst (v := nI 1) hx hb dX7_most_29 (by decide) ?_
          refine lv_goto (tgt := 34) hx hb dX7_most_30 (by decide) ?_
          refine lv_istore (lv' := [(4, .int (nI 1)), (0, .ref md), (1, .int x9), (2, .int (nI ny9)), (3, .int (nI nz9))]) hx hb dX7_most_34 hl (by decide) rfl (fun ls hl => ?_)
          refine lv_aload_n hx hb dX7_most_36 rfl (lv_at hl 1 rfl) ?_
          refine lv_iload hx hb dX7_most_37 (lv_at hl 0 rfl) ?_
          refine lv_if_ne (tgt := 46) hx hb dX7_most_39 (by decide) (fun hc39 => ?_) (fun hc39 => ?_)
          · have hs9 := yn_t hy1 hc4
            obtain ⟨nx9, hnx9, enx9⟩ := ok_nat (n := 6) (by decide) hs9
            subst enx9
            refine lv_aload_n hx hb dX7_most_46 rfl (lv_at hl 1 rfl) ?_
            refine mw_get (C := RX7) (T := TX7) (N := 13) hx hb hts in_X7_most_X7 hown hK hP ((mu_n ne0_2).trans ((mu_n ne0_1).trans (mu_s _ _ _))) rfl 2 (by decide) (hts (.fieldLink RX7 13 "OctagonDeskModel" "isVoid" "[Z") (by decide +kernel)) (fun _ h9 => h9) rfl dX7_most_47 ?_
            refine lv_iload_n hx hb dX7_most_50 rfl (lv_at hl 2 rfl) ?_
            refine mw_zald hx hb hK hP 2 (mu_s _ _ _) rfl (by omega) (by omega) dX7_most_51 ?_
            refine lv_if_eq (tgt := 59) hx hb dX7_most_52 (by decide) (fun hc52 => ?_) (fun hc52 => ?_)
            · refine lv_iconst (v := nI 0) hx hb dX7_most_59 (by decide) ?_
              refine kc_i (va_runV (As := [.int (nI 0)]) (rest := []) ⟨hx, hb, hml, hown, hts⟩ (c_X7_refused l G B (mu (mu (mu μ md (.inr (7, [.int (nI fl), .ref ab, .ref av, .int (nI st), .ref c1, .ref c2, .ref c3, .ref c4, .ref c5, .ref c6, .ref c7, .ref c8, .ref c9]))) ab (.inl (G.2 0, 3744, .inr (.inl f)))) av (.inl (G.2 2, 26, .inl v))) md ab av c1 c2 c3 c4 c5 c6 c7 c8 c9 fl st f v 0 ((mu_n ne0_2).trans ((mu_n ne0_1).trans (mu_s _ _ _))) ((mu_n ((mp_ne hab hav (by simp)))).trans (mu_s _ _ _)) (mu_s _ _ _) (by omega)) (cwV 1 hts gX7_most_X7_refused rfl rfl rfl (by decide +kernel) ⟨Nat.le_of_ble_eq_true rfl, Nat.le_of_ble_eq_true rfl⟩) ⟨KW.blind, hP.recv hK rfl ((mu_n ne0_2).trans ((mu_n ne0_1).trans (mu_s _ _ _))), fun U9 hU9 hW9 => ⟨rfl, KW.pre hBs hKK hS hP U9 hU9 hW9⟩⟩ rfl rfl hl.1 rfl (lv_room (Nat.le_of_ble_eq_true rfl)) dX7_most_60 ⟨(Nat.le_of_ble_eq_true rfl), (Nat.le_of_ble_eq_true rfl)⟩) hS (fun r60 m60 H locs hq9 hP hz9 hS => ?_)
              obtain ⟨he9, hw0, hw1⟩ := hq9
              rw [he9] at hP
              have hP : mw G.1 vwCl B (mu (mu (mu μ md (.inr (7, [.int (nI 0), .ref ab, .ref av, .int (nI st), .ref c1, .ref c2, .ref c3, .ref c4, .ref c5, .ref c6, .ref c7, .ref c8, .ref c9]))) ab (.inl (G.2 0, 3744, .inr (.inl f)))) av (.inl (G.2 2, 26, .inl v))) _ := mw_eq ((mu_c _ _ ((Ne.symm ne0_2))).trans (congrArg (fun z => mu z av (.inl (G.2 2, 26, .inl v))) ((mu_c _ _ ((Ne.symm ne0_1))).trans (congrArg (fun z => mu z ab (.inl (G.2 0, 3744, .inr (.inl f)))) (mu_u _ _ _ _))))) hP
              obtain rfl : r60 = nI 0 := hw0 rfl
              refine lv_if_eq (tgt := 70) hx hb dX7_most_63 (by decide) (fun hc63 => ?_) (fun hc63 => ?_)
              · refine lv_aload_n hx hb dX7_most_70 rfl (lv_at hl 1 rfl) ?_
                refine lv_iload_n hx hb dX7_most_71 rfl (lv_at hl 2 rfl) ?_
                refine lv_iload_n hx hb dX7_most_72 rfl (lv_at hl 3 rfl) ?_
                refine lv_iload_n hx hb dX7_most_73 rfl (lv_at hl 4 rfl) ?_
                refine kc_l (va_runV (As := [.int (nI nx9), .int (nI ny9), .int (nI nz9)]) (rest := []) ⟨hx, hb, hml, hown, hts⟩ (c_X7_get l G B (mu (mu (mu μ md (.inr (7, [.int (nI 0), .ref ab, .ref av, .int (nI st), .ref c1, .ref c2, .ref c3, .ref c4, .ref c5, .ref c6, .ref c7, .ref c8, .ref c9]))) ab (.inl (G.2 0, 3744, .inr (.inl f)))) av (.inl (G.2 2, 26, .inl v))) md ab av c1 c2 c3 c4 c5 c6 c7 c8 c9 0 st f v nx9 ny9 nz9 ((mu_n ne0_2).trans ((mu_n ne0_1).trans (mu_s _ _ _))) ((mu_n ((mp_ne hab hav (by simp)))).trans (mu_s _ _ _)) (mu_s _ _ _) (by omega) (by omega) (by omega)) (cwV 3 hts gX7_most_X7_get rfl rfl rfl (by decide +kernel) ⟨Nat.le_of_ble_eq_true rfl, Nat.le_of_ble_eq_true rfl⟩) ⟨KW.blind, hP.recv hK rfl ((mu_n ne0_2).trans ((mu_n ne0_1).trans (mu_s _ _ _))), fun U9 hU9 hW9 => ⟨rfl, KW.pre hBs hKK hS hP U9 hU9 hW9⟩⟩ rfl rfl hl.1 rfl (lv_room (Nat.le_of_ble_eq_true rfl)) dX7_most_74 ⟨(Nat.le_of_ble_eq_true rfl), (Nat.le_of_ble_eq_true rfl)⟩) hS (fun r74 m74 H locs hq9 hP hz9 hS => ?_)
                obtain ⟨he9, hr74⟩ := hq9
                rw [he9] at hP
                rw [hQ]
                exact W.lret (v := r74) hx hb hr (fun t99 ht99 hW99 => ⟨⟨r74, mu (mu (mu μ md (.inr (7, [.int (nI 0), .ref ab, .ref av, .int (nI st), .ref c1, .ref c2, .ref c3, .ref c4, .ref c5, .ref c6, .ref c7, .ref c8, .ref c9]))) ab (.inl (G.2 0, 3744, .inr (.inl f)))) av (.inl (G.2 2, 26, .inl v)), rfl, (⟨_, _, _, rfl, Or.inl ⟨rfl, ⟨hs9, hp9⟩, hr74.trans ((hNM.1 nx9 (by omega)).g (by omega) (by omega))⟩⟩), by show mw _ _ _ _ t99.heap; rw [ht99]; exact hP⟩, hS.F ht99⟩) hS.2.2 dX7_most_77
              · exact absurd rfl hc63
            · exact absurd (hNM.2.1 nx9 (by omega)) hc52
          · exact absurd hc39 (by decide)

abbrev rm_X7_isWithin : Room := { frames := 0, cells := 0, slots := 0, locals := 0 }
set_option maxHeartbeats 4000000 in
set_option maxRecDepth 100000 in
theorem c_X7_isWithin (l : Launch) (G : GG) (B : Nat) (μ : mp) (md ab av c1 c2 c3 c4 c5 c6 c7 c8 c9 fl st : Nat) (f : Nat → Int64) (v : Nat → Int32) (a9 b9 : Nat) (hm : μ md = some (.inr (7, [.int (nI fl), .ref ab, .ref av, .int (nI st), .ref c1, .ref c2, .ref c3, .ref c4, .ref c5, .ref c6, .ref c7, .ref c8, .ref c9]))) (hab : μ ab = some (.inl (G.2 0, 3744, .inr (.inl f)))) (hav : μ av = some (.inl (G.2 2, 26, .inl v))) (ha9 : a9 < 26) (hb9 : b9 < 26) (hv1 : v a9 = 0) (hv2 : v b9 = 0) (hA1 : AI f a9) (hA2 : AI f b9) : Met l yX7_isWithin wsX7_isWithin rm_X7_isWithin (va_Pc [.ref md, .int (nI a9), .int (nI b9)] (KW G B μ)) (va_Qi (fun r μ2 => μ2 = μ ∧ r = nI 1) (BB G B) (fun q => B ≤ q)) 0 0 (fun q => B ≤ q) := by
  refine Met.ofW (cc := cX7_isWithin) (maxL := 5) (ret := (some .boolean)) (by decide) rfl ?_
  intro p e s m args below meth c s₁ B9 hml hv
  obtain ⟨hargs, hBs, hP, hKK⟩ := hv
  have hx := B9.exec
  have hb := B9.bytes
  have hr := B9.returns
  have hts := atoms_spec (ws := wsX7_isWithin) B9.pre
  have hown : s.vm.findClass RX7 = some m.cls := findClass_of_methodNamed B9.named
  have hlocks := B9.notSynchronized
  have hK := hKK.k
  have hS : va_S (fun q => B ≤ q) s.heap s.heap [] := va_S.rf
  obtain ⟨Q, hQ⟩ : ∃ Q, Q = MQ below (va_Qi (fun r μ2 => μ2 = μ ∧ r = nI 1) (BB G B) (fun q => B ≤ q)) args s 0 0 (fun q => B ≤ q) := ⟨_, rfl⟩
  rw [← hQ]
  have ne0_1 : md ≠ ab := mp_ne hm hab (by simp)
  have ne0_2 : md ≠ av := mp_ne hm hav (by simp)
  have in_X7_isWithin_X7 : ∀ w ∈ wsX70, w ∈ wsX7_isWithin := by decide +kernel
  have L30 : ∀ (N30 : Nat) (k1 : Nat) (hN30 : 144 - k1 < N30) (hk1 : k1 ≤ 144), ∀ (H : Heap) (locs : List Loc), mw G.1 vwCl B (μ) H → va_S (fun q => B ≤ q) s.heap H locs → ∀ ls : Array Slot, lv_has ls 5 [(0, .ref md), (1, .int (nI a9)), (2, .int (nI b9)), (3, .int (nI 1)), (4, .int (nI k1))] → W p l e rm_X7_isWithin s m args below meth c H locs 0 0 Q (F0 m 30 ls []) := by
    intro N30
    induction N30 with
    | zero => intro k1 hN30; exact absurd hN30 (Nat.not_lt_zero _)
    | succ N30 ih30 =>
      intro k1 hN30 hk1 H locs hP hS ls hl
      refine lv_iload hx hb dX7_isWithin_30 (lv_at hl 4 rfl) ?_
      refine lv_sipush (v := nI 144) hx hb dX7_isWithin_32 (by decide) ?_
      refine nv_icmp_ge (tgt := 84) hx hb (by omega) (by omega) dX7_isWithin_35 (by decide) (fun hc35 => ?_) (fun hc35 => ?_)
      · refine lv_iload_n hx hb dX7_isWithin_84 rfl (lv_at hl 3 rfl) ?_
        rw [hQ]
        exact W.zret (v := nI 1) (ty := .boolean) hx hb hr (by first | rfl | decide) (fun t99 ht99 hW99 => ⟨⟨nI 1, μ, rfl, (⟨rfl, rfl⟩), by show mw _ _ _ _ t99.heap; rw [ht99]; exact hP⟩, hS.F ht99⟩) hS.2.2 dX7_isWithin_85
      · refine lv_iload_n hx hb dX7_isWithin_38 rfl (lv_at hl 3 rfl) ?_
        refine lv_if_eq (tgt := 76) hx hb dX7_isWithin_39 (by decide) (fun hc39 => ?_) (fun hc39 => ?_)
        · exact absurd hc39 (by decide)
        · refine lv_aload_n hx hb dX7_isWithin_42 rfl (lv_at hl 0 rfl) ?_
          refine mw_get (C := RX7) (T := TX7) (N := 13) hx hb hts in_X7_isWithin_X7 hown hK hP (hm) rfl 1 (by decide) (hts (.fieldLink RX7 7 "OctagonDeskModel" "bound" "[J") (by decide +kernel)) (fun _ h9 => h9) rfl dX7_isWithin_43 ?_
          refine lv_sipush (v := nI 144) hx hb dX7_isWithin_46 (by decide) ?_
          refine lv_iload_n hx hb dX7_isWithin_49 rfl (lv_at hl 1 rfl) ?_
          refine nv_imul hx hb dX7_isWithin_50 ?_
          refine lv_iload hx hb dX7_isWithin_51 (lv_at hl 4 rfl) ?_
          refine nv_iadd hx hb dX7_isWithin_53 ?_
          refine mw_lald hx hb hK hP 0 (hab) rfl (by omega) (by omega) dX7_isWithin_54 ?_
          refine lv_aload_n hx hb dX7_isWithin_55 rfl (lv_at hl 0 rfl) ?_
          refine mw_get (C := RX7) (T := TX7) (N := 13) hx hb hts in_X7_isWithin_X7 hown hK hP (hm) rfl 1 (by decide) (hts (.fieldLink RX7 7 "OctagonDeskModel" "bound" "[J") (by decide +kernel)) (fun _ h9 => h9) rfl dX7_isWithin_56 ?_
          refine lv_sipush (v := nI 144) hx hb dX7_isWithin_59 (by decide) ?_
          refine lv_iload_n hx hb dX7_isWithin_62 rfl (lv_at hl 2 rfl) ?_
          refine nv_imul hx hb dX7_isWithin_63 ?_
          refine lv_iload hx hb dX7_isWithin_64 (lv_at hl 4 rfl) ?_
          refine nv_iadd hx hb dX7_isWithin_66 ?_
          refine mw_lald hx hb hK hP 0 (hab) rfl (by omega) (by omega) dX7_isWithin_67 ?_
          refine nl_if_gt (tgt := 76) hx hb dX7_isWithin_68 dX7_isWithin_69 (by decide) (fun hc68 => ?_) (fun hc68 => ?_)
          · exact absurd hc68 (by rw [hA1 k1 (by omega), hA2 k1 (by omega)]; first | exact Int64.not_lt.mpr (Int64.le_refl _) | decide)
          · refine lv_iconst (v := nI 1) hx hb dX7_isWithin_72 (by decide) ?_
            refine lv_goto (tgt := 77) hx hb dX7_isWithin_73 (by decide) ?_
            refine lv_istore_n (lv' := [(3, .int (nI 1)), (0, .ref md), (1, .int (nI a9)), (2, .int (nI b9)), (4, .int (nI k1))]) hx hb dX7_isWithin_77 rfl hl (by decide) rfl (fun ls hl => ?_)
            refine lv_iinc (v := nI (k1 + 1)) (lv' := [(4, .int (nI (k1 + 1))), (3, .int (nI 1)), (0, .ref md), (1, .int (nI a9)), (2, .int (nI b9))]) hx hb dX7_isWithin_78 hl (k := 4) rfl (nI_add _ _) (by decide) rfl (fun ls hl => ?_)
            refine lv_goto (tgt := 30) hx hb dX7_isWithin_81 (by decide) ?_
            exact ih30 (k1 + 1) (by omega) (by omega) _ _ hP hS ls (lv_sub hl [2, 3, 4, 1, 0] rfl)
  have hl := lv_entry ([.ref md, .int (nI a9), .int (nI b9)]) (n := 5) (Nat.le_of_ble_eq_true rfl)
  have he9 : entryFrame m args 5 = entryFrame m ([.ref md, .int (nI a9), .int (nI b9)] : List Value).toArray 5 := by rw [hargs]
  rw [he9, lg_entry_eq]
  generalize (lg_sl ([.ref md, .int (nI a9), .int (nI b9)]) ++ List.replicate (5 - (lg_sl ([.ref md, .int (nI a9), .int (nI b9)])).length) Slot.unset).toArray = ls at hl ⊢
  have hl : lv_has ls 5 [(0, .ref md), (1, .int (nI a9)), (2, .int (nI b9))] := hl
  refine lv_aload_n hx hb dX7_isWithin_0 rfl (lv_at hl 0 rfl) ?_
  refine mw_get (C := RX7) (T := TX7) (N := 13) hx hb hts in_X7_isWithin_X7 hown hK hP (hm) rfl 2 (by decide) (hts (.fieldLink RX7 13 "OctagonDeskModel" "isVoid" "[Z") (by decide +kernel)) (fun _ h9 => h9) rfl dX7_isWithin_1 ?_
  refine lv_iload_n hx hb dX7_isWithin_4 rfl (lv_at hl 1 rfl) ?_
  refine mw_zald hx hb hK hP 2 (hav) rfl (by omega) (by omega) dX7_isWithin_5 ?_
  refine lv_if_ne (tgt := 18) hx hb dX7_isWithin_6 (by decide) (fun hc6 => ?_) (fun hc6 => ?_)
  · exact absurd hv1 hc6
  · refine lv_aload_n hx hb dX7_isWithin_9 rfl (lv_at hl 0 rfl) ?_
    refine mw_get (C := RX7) (T := TX7) (N := 13) hx hb hts in_X7_isWithin_X7 hown hK hP (hm) rfl 2 (by decide) (hts (.fieldLink RX7 13 "OctagonDeskModel" "isVoid" "[Z") (by decide +kernel)) (fun _ h9 => h9) rfl dX7_isWithin_10 ?_
    refine lv_iload_n hx hb dX7_isWithin_13 rfl (lv_at hl 2 rfl) ?_
    refine mw_zald hx hb hK hP 2 (hav) rfl (by omega) (by omega) dX7_isWithin_14 ?_
    refine lv_if_eq (tgt := 25) hx hb dX7_isWithin_15 (by decide) (fun hc15 => ?_) (fun hc15 => ?_)
    · refine lv_iconst (v := nI 1) hx hb dX7_isWithin_25 (by decide) ?_
      refine lv_istore_n (lv' := [(3, .int (nI 1)), (0, .ref md), (1, .int (nI a9)), (2, .int (nI b9))]) hx hb dX7_isWithin_26 rfl hl (by decide) rfl (fun ls hl => ?_)
      refine lv_iconst (v := nI 0) hx hb dX7_isWithin_27 (by decide) ?_
      refine lv_istore (lv' := [(4, .int (nI 0)), (3, .int (nI 1)), (0, .ref md), (1, .int (nI a9)), (2, .int (nI b9))]) hx hb dX7_isWithin_28 hl (by decide) rfl (fun ls hl => ?_)
      exact L30 _ 0 (Nat.lt_succ_self _) (by omega) _ _ hP hS ls (lv_sub hl [2, 3, 4, 1, 0] rfl)
    · exact absurd hv2 hc15

abbrev rm_X7_inside : Room := { frames := 2, cells := 0, slots := 0, locals := 42 }
set_option maxHeartbeats 4000000 in
set_option maxRecDepth 100000 in
theorem c_X7_inside (l : Launch) (G : GG) (B : Nat) (μ : mp) (md ab av c1 c2 c3 c4 c5 c6 c7 c8 c9 fl st : Nat) (f : Nat → Int64) (v : Nat → Int32) (x9 y9 : Int32) (hm : μ md = some (.inr (7, [.int (nI fl), .ref ab, .ref av, .int (nI st), .ref c1, .ref c2, .ref c3, .ref c4, .ref c5, .ref c6, .ref c7, .ref c8, .ref c9]))) (hab : μ ab = some (.inl (G.2 0, 3744, .inr (.inl f)))) (hav : μ av = some (.inl (G.2 2, 26, .inl v))) (hNM : NM f v) : Met l yX7_inside wsX7_inside rm_X7_inside (va_Pc [.ref md, .int x9, .int y9] (KW G B μ)) (va_Qi (fun r μ2 => ∃ (fl9 : Nat) (g9 : Nat → Int64) (w9 : Nat → Int32), μ2 = mu (mu (mu μ md (.inr (7, [.int (nI fl9), .ref ab, .ref av, .int (nI st), .ref c1, .ref c2, .ref c3, .ref c4, .ref c5, .ref c6, .ref c7, .ref c8, .ref c9]))) ab (.inl (G.2 0, 3744, .inr (.inl g9)))) av (.inl (G.2 2, 26, .inl w9)) ∧ ((fl9 = 0 ∧ (okS x9 ∧ okS y9) ∧ r = 1) ∨ (fl9 = 1 ∧ ¬ (okS x9 ∧ okS y9)))) (BB G B) (fun q => B ≤ q)) 0 0 (fun q => B ≤ q) := by
  refine Met.ofW (cc := cX7_inside) (maxL := 3) (ret := (some .boolean)) (by decide) rfl ?_
  intro p e s m args below meth c s₁ B9 hml hv
  obtain ⟨hargs, hBs, hP, hKK⟩ := hv
  have hx := B9.exec
  have hb := B9.bytes
  have hr := B9.returns
  have hts := atoms_spec (ws := wsX7_inside) B9.pre
  have hown : s.vm.findClass RX7 = some m.cls := findClass_of_methodNamed B9.named
  have hlocks := B9.notSynchronized
  have hK := hKK.k
  have hS : va_S (fun q => B ≤ q) s.heap s.heap [] := va_S.rf
  obtain ⟨Q, hQ⟩ : ∃ Q, Q = MQ below (va_Qi (fun r μ2 => ∃ (fl9 : Nat) (g9 : Nat → Int64) (w9 : Nat → Int32), μ2 = mu (mu (mu μ md (.inr (7, [.int (nI fl9), .ref ab, .ref av, .int (nI st), .ref c1, .ref c2, .ref c3, .ref c4, .ref c5, .ref c6, .ref c7, .ref c8, .ref c9]))) ab (.inl (G.2 0, 3744, .inr (.inl g9)))) av (.inl (G.2 2, 26, .inl w9)) ∧ ((fl9 = 0 ∧ (okS x9 ∧ okS y9) ∧ r = 1) ∨ (fl9 = 1 ∧ ¬ (okS x9 ∧ okS y9)))) (BB G B) (fun q => B ≤ q)) args s 0 0 (fun q => B ≤ q) := ⟨_, rfl⟩
  rw [← hQ]
  have ne0_1 : md ≠ ab := mp_ne hm hab (by simp)
  have ne0_2 : md ≠ av := mp_ne hm hav (by simp)
  have hP : mw G.1 vwCl B (mu (mu (mu μ md (.inr (7, [.int (nI fl), .ref ab, .ref av, .int (nI st), .ref c1, .ref c2, .ref c3, .ref c4, .ref c5, .ref c6, .ref c7, .ref c8, .ref c9]))) ab (.inl (G.2 0, 3744, .inr (.inl f)))) av (.inl (G.2 2, 26, .inl v))) s.heap := mw_eq ((congrArg (fun z => mu z av (.inl (G.2 2, 26, .inl v))) ((congrArg (fun z => mu z ab (.inl (G.2 0, 3744, .inr (.inl f)))) (mu_i hm)).trans (mu_i hab))).trans (mu_i hav)).symm hP
  have hl := lv_entry ([.ref md, .int x9, .int y9]) (n := 3) (Nat.le_of_ble_eq_true rfl)
  have he9 : entryFrame m args 3 = entryFrame m ([.ref md, .int x9, .int y9] : List Value).toArray 3 := by rw [hargs]
  rw [he9, lg_entry_eq]
  generalize (lg_sl ([.ref md, .int x9, .int y9]) ++ List.replicate (3 - (lg_sl ([.ref md, .int x9, .int y9])).length) Slot.unset).toArray = ls at hl ⊢
  have hl : lv_has ls 3 [(0, .ref md), (1, .int x9), (2, .int y9)] := hl
  refine lv_aload_n hx hb dX7_inside_0 rfl (lv_at hl 0 rfl) ?_
  refine lv_iload_n hx hb dX7_inside_1 rfl (lv_at hl 1 rfl) ?_
  refine kc_i (va_runS (As := [.int x9]) (rest := [.ref md]) ⟨hx, hb, hml, hown, hts⟩ (c_X7_isSlot l G B (mu (mu (mu μ md (.inr (7, [.int (nI fl), .ref ab, .ref av, .int (nI st), .ref c1, .ref c2, .ref c3, .ref c4, .ref c5, .ref c6, .ref c7, .ref c8, .ref c9]))) ab (.inl (G.2 0, 3744, .inr (.inl f)))) av (.inl (G.2 2, 26, .inl v))) x9) (va_cwS 1 hts gX7_inside_X7_isSlot rfl rfl rfl (by decide +kernel) ⟨Nat.le_of_ble_eq_true rfl, Nat.le_of_ble_eq_true rfl⟩) ⟨KW.blind, fun U9 hU9 hW9 => ⟨rfl, KW.pre hBs hKK hS hP U9 hU9 hW9⟩⟩ rfl rfl hl.1 rfl (lv_room (Nat.le_of_ble_eq_true rfl)) dX7_inside_2 ⟨(Nat.le_of_ble_eq_true rfl), (Nat.le_of_ble_eq_true rfl)⟩) hS (fun r2 m2 H locs hq9 hP hz9 hS => ?_)
  obtain ⟨he9, hy2⟩ := hq9
  rw [he9] at hP
  refine lv_if_eq (tgt := 19) hx hb dX7_inside_5 (by decide) (fun hc5 => ?_) (fun hc5 => ?_)
  · refine lv_iconst (v := nI 1) hx hb dX7_inside_19 (by decide) ?_
    refine kc_i (va_runV (As := [.int (nI 1)]) (rest := []) ⟨hx, hb, hml, hown, hts⟩ (c_X7_refused l G B (mu (mu (mu μ md (.inr (7, [.int (nI fl), .ref ab, .ref av, .int (nI st), .ref c1, .ref c2, .ref c3, .ref c4, .ref c5, .ref c6, .ref c7, .ref c8, .ref c9]))) ab (.inl (G.2 0, 3744, .inr (.inl f)))) av (.inl (G.2 2, 26, .inl v))) md ab av c1 c2 c3 c4 c5 c6 c7 c8 c9 fl st f v 1 ((mu_n ne0_2).trans ((mu_n ne0_1).trans (mu_s _ _ _))) ((mu_n ((mp_ne hab hav (by simp)))).trans (mu_s _ _ _)) (mu_s _ _ _) (by omega)) (cwV 1 hts gX7_inside_X7_refused rfl rfl rfl (by decide +kernel) ⟨Nat.le_of_ble_eq_true rfl, Nat.le_of_ble_eq_true rfl⟩) ⟨KW.blind, hP.recv hK rfl ((mu_n ne0_2).trans ((mu_n ne0_1).trans (mu_s _ _ _))), fun U9 hU9 hW9 => ⟨rfl, KW.pre hBs hKK hS hP U9 hU9 hW9⟩⟩ rfl rfl hl.1 rfl (lv_room (Nat.le_of_ble_eq_true rfl)) dX7_inside_20 ⟨(Nat.le_of_ble_eq_true rfl), (Nat.le_of_ble_eq_true rfl)⟩) hS (fun r20 m20 H locs hq9 hP hz9 hS => ?_)
    obtain ⟨he9, hw0, hw1⟩ := hq9
    rw [he9] at hP
    have hP : mw G.1 vwCl B (mu (mu (mu μ md (.inr (7, [.int (nI 1), .ref ab, .ref av, .int (nI st), .ref c1, .ref c2, .ref c3, .ref c4, .ref c5, .ref c6, .ref c7, .ref c8, .ref c9]))) ab (.inl (G.2 0, 3744, .inr (.inl f)))) av (.inl (G.2 2, 26, .inl v))) _ := mw_eq ((mu_c _ _ ((Ne.symm ne0_2))).trans (congrArg (fun z => mu z av (.inl (G.2 2, 26, .inl v))) ((mu_c _ _ ((Ne.symm ne0_1))).trans (congrArg (fun z => mu z ab (.inl (G.2 0, 3744, .inr (.inl f)))) (mu_u _ _ _ _))))) hP
    obtain rfl : r20 = nI 1 := hw1 (by decide)
    refine lv_if_ne (tgt := 39) hx hb dX7_inside_23 (by decide) (fun hc23 => ?_) (fun hc23 => ?_)
    · refine lv_iconst (v := nI 0) hx hb dX7_inside_39 (by decide) ?_
      rw [hQ]
      exact W.zret (v := nI 0) (ty := .boolean) hx hb hr (by first | rfl | decide) (fun t99 ht99 hW99 => ⟨⟨nI 0, mu (mu (mu μ md (.inr (7, [.int (nI 1), .ref ab, .ref av, .int (nI st), .ref c1, .ref c2, .ref c3, .ref c4, .ref c5, .ref c6, .ref c7, .ref c8, .ref c9]))) ab (.inl (G.2 0, 3744, .inr (.inl f)))) av (.inl (G.2 2, 26, .inl v)), rfl, (⟨_, _, _, rfl, Or.inr ⟨rfl, fun h9 => by first | exact yn_f hy2 hc5 h9.1 | exact yn_f hy9 hc12 h9.2⟩⟩), by show mw _ _ _ _ t99.heap; rw [ht99]; exact hP⟩, hS.F ht99⟩) hS.2.2 dX7_inside_40
    · exact absurd hc23 (by decide)
  · refine lv_iload_n hx hb dX7_inside_8 rfl (lv_at hl 2 rfl) ?_
    refine kc_i (va_runS (As := [.int y9]) (rest := [.ref md]) ⟨hx, hb, hml, hown, hts⟩ (c_X7_isSlot l G B (mu (mu (mu μ md (.inr (7, [.int (nI fl), .ref ab, .ref av, .int (nI st), .ref c1, .ref c2, .ref c3, .ref c4, .ref c5, .ref c6, .ref c7, .ref c8, .ref c9]))) ab (.inl (G.2 0, 3744, .inr (.inl f)))) av (.inl (G.2 2, 26, .inl v))) y9) (va_cwS 1 hts gX7_inside_X7_isSlot rfl rfl rfl (by decide +kernel) ⟨Nat.le_of_ble_eq_true rfl, Nat.le_of_ble_eq_true rfl⟩) ⟨KW.blind, fun U9 hU9 hW9 => ⟨rfl, KW.pre hBs hKK hS hP U9 hU9 hW9⟩⟩ rfl rfl hl.1 rfl (lv_room (Nat.le_of_ble_eq_true rfl)) dX7_inside_9 ⟨(Nat.le_of_ble_eq_true rfl), (Nat.le_of_ble_eq_true rfl)⟩) hS (fun r9 m9 H locs hq9 hP hz9 hS => ?_)
    obtain ⟨he9, hy9⟩ := hq9
    rw [he9] at hP
    refine lv_if_eq (tgt := 19) hx hb dX7_inside_12 (by decide) (fun hc12 => ?_) (fun hc12 => ?_)
    · refine lv_iconst (v := nI 1) hx hb dX7_inside_19 (by decide) ?_
      refine kc_i (va_runV (As := [.int (nI 1)]) (rest := []) ⟨hx, hb, hml, hown, hts⟩ (c_X7_refused l G B (mu (mu (mu μ md (.inr (7, [.int (nI fl), .ref ab, .ref av, .int (nI st), .ref c1, .ref c2, .ref c3, .ref c4, .ref c5, .ref c6, .ref c7, .ref c8, .ref c9]))) ab (.inl (G.2 0, 3744, .inr (.inl f)))) av (.inl (G.2 2, 26, .inl v))) md ab av c1 c2 c3 c4 c5 c6 c7 c8 c9 fl st f v 1 ((mu_n ne0_2).trans ((mu_n ne0_1).trans (mu_s _ _ _))) ((mu_n ((mp_ne hab hav (by simp)))).trans (mu_s _ _ _)) (mu_s _ _ _) (by omega)) (cwV 1 hts gX7_inside_X7_refused rfl rfl rfl (by decide +kernel) ⟨Nat.le_of_ble_eq_true rfl, Nat.le_of_ble_eq_true rfl⟩) ⟨KW.blind, hP.recv hK rfl ((mu_n ne0_2).trans ((mu_n ne0_1).trans (mu_s _ _ _))), fun U9 hU9 hW9 => ⟨rfl, KW.pre hBs hKK hS hP U9 hU9 hW9⟩⟩ rfl rfl hl.1 rfl (lv_room (Nat.le_of_ble_eq_true rfl)) dX7_inside_20 ⟨(Nat.le_of_ble_eq_true rfl), (Nat.le_of_ble_eq_true rfl)⟩) hS (fun r20 m20 H locs hq9 hP hz9 hS => ?_)
      obtain ⟨he9, hw0, hw1⟩ := hq9
      rw [he9] at hP
      have hP : mw G.1 vwCl B (mu (mu (mu μ md (.inr (7, [.int (nI 1), .ref ab, .ref av, .int (nI st), .ref c1, .ref c2, .ref c3, .ref c4, .ref c5, .ref c6, .ref c7, .ref c8, .ref c9]))) ab (.inl (G.2 0, 3744, .inr (.inl f)))) av (.inl (G.2 2, 26, .inl v))) _ := mw_eq ((mu_c _ _ ((Ne.symm ne0_2))).trans (congrArg (fun z => mu z av (.inl (G.2 2, 26, .inl v))) ((mu_c _ _ ((Ne.symm ne0_1))).trans (congrArg (fun z => mu z ab (.inl (G.2 0, 3744, .inr (.inl f)))) (mu_u _ _ _ _))))) hP
      obtain rfl : r20 = nI 1 := hw1 (by decide)
      refine lv_if_ne (tgt := 39) hx hb dX7_inside_23 (by decide) (fun hc23 => ?_) (fun hc23 => ?_)
      · refine lv_iconst (v := nI 0) hx hb dX7_inside_39 (by decide) ?_
        rw [hQ]
        exact W.zret (v := nI 0) (ty := .boolean) hx hb hr (by first | rfl | decide) (fun t99 ht99 hW99 => ⟨⟨nI 0, mu (mu (mu μ md (.inr (7, [.int (nI 1), .ref ab, .ref av, .int (nI st), .ref c1, .ref c2, .ref c3, .ref c4, .ref c5, .ref c6, .ref c7, .ref c8, .ref c9]))) ab (.inl (G.2 0, 3744, .inr (.inl f)))) av (.inl (G.2 2, 26, .inl v)), rfl, (⟨_, _, _, rfl, Or.inr ⟨rfl, fun h9 => by first | exact yn_f hy2 hc5 h9.1 | exact yn_f hy9 hc12 h9.2⟩⟩), by show mw _ _ _ _ t99.heap; rw [ht99]; exact hP⟩, hS.F ht99⟩) hS.2.2 dX7_inside_40
      · exact absurd hc23 (by decide)
    · refine lv_iconst (v := nI 0) hx hb dX7_inside_15 (by decide) ?_
      refine lv_goto (tgt := 20) hx hb dX7_inside_16 (by decide) ?_
      refine kc_i (va_runV (As := [.int (nI 0)]) (rest := []) ⟨hx, hb, hml, hown, hts⟩ (c_X7_refused l G B (mu (mu (mu μ md (.inr (7, [.int (nI fl), .ref ab, .ref av, .int (nI st), .ref c1, .ref c2, .ref c3, .ref c4, .ref c5, .ref c6, .ref c7, .ref c8, .ref c9]))) ab (.inl (G.2 0, 3744, .inr (.inl f)))) av (.inl (G.2 2, 26, .inl v))) md ab av c1 c2 c3 c4 c5 c6 c7 c8 c9 fl st f v 0 ((mu_n ne0_2).trans ((mu_n ne0_1).trans (mu_s _ _ _))) ((mu_n ((mp_ne hab hav (by simp)))).trans (mu_s _ _ _)) (mu_s _ _ _) (by omega)) (cwV 1 hts gX7_inside_X7_refused rfl rfl rfl (by decide +kernel) ⟨Nat.le_of_ble_eq_true rfl, Nat.le_of_ble_eq_true rfl⟩) ⟨KW.blind, hP.recv hK rfl ((mu_n ne0_2).trans ((mu_n ne0_1).trans (mu_s _ _ _))), fun U9 hU9 hW9 => ⟨rfl, KW.pre hBs hKK hS hP U9 hU9 hW9⟩⟩ rfl rfl hl.1 rfl (lv_room (Nat.le_of_ble_eq_true rfl)) dX7_inside_20 ⟨(Nat.le_of_ble_eq_true rfl), (Nat.le_of_ble_eq_true rfl)⟩) hS (fun r20 m20 H locs hq9 hP hz9 hS => ?_)
      obtain ⟨he9, hw0, hw1⟩ := hq9
      rw [he9] at hP
      have hP : mw G.1 vwCl B (mu (mu (mu μ md (.inr (7, [.int (nI 0), .ref ab, .ref av, .int (nI st), .ref c1, .ref c2, .ref c3, .ref c4, .ref c5, .ref c6, .ref c7, .ref c8, .ref c9]))) ab (.inl (G.2 0, 3744, .inr (.inl f)))) av (.inl (G.2 2, 26, .inl v))) _ := mw_eq ((mu_c _ _ ((Ne.symm ne0_2))).trans (congrArg (fun z => mu z av (.inl (G.2 2, 26, .inl v))) ((mu_c _ _ ((Ne.symm ne0_1))).trans (congrArg (fun z => mu z ab (.inl (G.2 0, 3744, .inr (.inl f)))) (mu_u _ _ _ _))))) hP
      obtain rfl : r20 = nI 0 := hw0 rfl
      refine lv_if_ne (tgt := 39) hx hb dX7_inside_23 (by decide) (fun hc23 => ?_) (fun hc23 => ?_)
      · exact absurd rfl hc23
      · have hok : okS x9 ∧ okS y9 := ⟨yn_t hy2 hc5, yn_t hy9 hc12⟩
        obtain ⟨nx9, hnx9, enx9⟩ := ok_nat (n := 6) (by decide) hok.1
        subst enx9
        obtain ⟨ny9, hny9, eny9⟩ := ok_nat (n := 6) (by decide) hok.2
        subst eny9
        refine lv_aload_n hx hb dX7_inside_26 rfl (lv_at hl 0 rfl) ?_
        refine lv_iload_n hx hb dX7_inside_27 rfl (lv_at hl 1 rfl) ?_
        refine lv_iload_n hx hb dX7_inside_28 rfl (lv_at hl 2 rfl) ?_
        refine kc_i (va_runV (As := [.int (nI nx9), .int (nI ny9)]) (rest := []) ⟨hx, hb, hml, hown, hts⟩ (c_X7_isWithin l G B (mu (mu (mu μ md (.inr (7, [.int (nI 0), .ref ab, .ref av, .int (nI st), .ref c1, .ref c2, .ref c3, .ref c4, .ref c5, .ref c6, .ref c7, .ref c8, .ref c9]))) ab (.inl (G.2 0, 3744, .inr (.inl f)))) av (.inl (G.2 2, 26, .inl v))) md ab av c1 c2 c3 c4 c5 c6 c7 c8 c9 0 st f v nx9 ny9 ((mu_n ne0_2).trans ((mu_n ne0_1).trans (mu_s _ _ _))) ((mu_n ((mp_ne hab hav (by simp)))).trans (mu_s _ _ _)) (mu_s _ _ _) (by omega) (by omega) (hNM.2.1 nx9 (by omega)) (hNM.2.1 ny9 (by omega)) (hNM.1 nx9 (by omega)) (hNM.1 ny9 (by omega))) (cwV 2 hts gX7_inside_X7_isWithin rfl rfl rfl (by decide +kernel) ⟨Nat.le_of_ble_eq_true rfl, Nat.le_of_ble_eq_true rfl⟩) ⟨KW.blind, hP.recv hK rfl ((mu_n ne0_2).trans ((mu_n ne0_1).trans (mu_s _ _ _))), fun U9 hU9 hW9 => ⟨rfl, KW.pre hBs hKK hS hP U9 hU9 hW9⟩⟩ rfl rfl hl.1 rfl (lv_room (Nat.le_of_ble_eq_true rfl)) dX7_inside_29 ⟨(Nat.le_of_ble_eq_true rfl), (Nat.le_of_ble_eq_true rfl)⟩) hS (fun r29 m29 H locs hq9 hP hz9 hS => ?_)
        obtain ⟨he9, rfl⟩ := hq9
        rw [he9] at hP
        refine lv_if_eq (tgt := 39) hx hb dX7_inside_32 (by decide) (fun hc32 => ?_) (fun hc32 => ?_)
        · exact absurd hc32 (by decide)
        · refine lv_iconst (v := nI 1) hx hb dX7_inside_35 (by decide) ?_
          refine lv_goto (tgt := 40) hx hb dX7_inside_36 (by decide) ?_
          rw [hQ]
          exact W.zret (v := nI 1) (ty := .boolean) hx hb hr (by first | rfl | decide) (fun t99 ht99 hW99 => ⟨⟨nI 1, mu (mu (mu μ md (.inr (7, [.int (nI 0), .ref ab, .ref av, .int (nI st), .ref c1, .ref c2, .ref c3, .ref c4, .ref c5, .ref c6, .ref c7, .ref c8, .ref c9]))) ab (.inl (G.2 0, 3744, .inr (.inl f)))) av (.inl (G.2 2, 26, .inl v)), rfl, (⟨_, _, _, rfl, Or.inl ⟨rfl, hok, rfl⟩⟩), by show mw _ _ _ _ t99.heap; rw [ht99]; exact hP⟩, hS.F ht99⟩) hS.2.2 dX7_inside_40

abbrev rm_X7_bounds : Room := { frames := 2, cells := 0, slots := 0, locals := 42 }
set_option maxHeartbeats 4000000 in
set_option maxRecDepth 100000 in
theorem c_X7_bounds (l : Launch) (G : GG) (B : Nat) (μ : mp) (md ab av c1 c2 c3 c4 c5 c6 c7 c8 c9 fl st : Nat) (f : Nat → Int64) (v : Nat → Int32) (x9 : Int32) (hm : μ md = some (.inr (7, [.int (nI fl), .ref ab, .ref av, .int (nI st), .ref c1, .ref c2, .ref c3, .ref c4, .ref c5, .ref c6, .ref c7, .ref c8, .ref c9]))) (hab : μ ab = some (.inl (G.2 0, 3744, .inr (.inl f)))) (hav : μ av = some (.inl (G.2 2, 26, .inl v))) (hNM : NM f v) : Met l yX7_bounds wsX7_bounds rm_X7_bounds (va_Pc [.ref md, .int x9] (KW G B μ)) (va_Qi (fun r μ2 => ∃ (fl9 : Nat) (g9 : Nat → Int64) (w9 : Nat → Int32), μ2 = mu (mu (mu μ md (.inr (7, [.int (nI fl9), .ref ab, .ref av, .int (nI st), .ref c1, .ref c2, .ref c3, .ref c4, .ref c5, .ref c6, .ref c7, .ref c8, .ref c9]))) ab (.inl (G.2 0, 3744, .inr (.inl g9)))) av (.inl (G.2 2, 26, .inl w9)) ∧ ((fl9 = 0 ∧ (okS x9) ∧ r = 0) ∨ (fl9 = 1 ∧ ¬ (okS x9)))) (BB G B) (fun q => B ≤ q)) 0 0 (fun q => B ≤ q) := by
  refine Met.ofW (cc := cX7_bounds) (maxL := 5) (ret := (some .int)) (by decide) rfl ?_
  intro p e s m args below meth c s₁ B9 hml hv
  obtain ⟨hargs, hBs, hP, hKK⟩ := hv
  have hx := B9.exec
  have hb := B9.bytes
  have hr := B9.returns
  have hts := atoms_spec (ws := wsX7_bounds) B9.pre
  have hown : s.vm.findClass RX7 = some m.cls := findClass_of_methodNamed B9.named
  have hlocks := B9.notSynchronized
  have hK := hKK.k
  have hS : va_S (fun q => B ≤ q) s.heap s.heap [] := va_S.rf
  obtain ⟨Q, hQ⟩ : ∃ Q, Q = MQ below (va_Qi (fun r μ2 => ∃ (fl9 : Nat) (g9 : Nat → Int64) (w9 : Nat → Int32), μ2 = mu (mu (mu μ md (.inr (7, [.int (nI fl9), .ref ab, .ref av, .int (nI st), .ref c1, .ref c2, .ref c3, .ref c4, .ref c5, .ref c6, .ref c7, .ref c8, .ref c9]))) ab (.inl (G.2 0, 3744, .inr (.inl g9)))) av (.inl (G.2 2, 26, .inl w9)) ∧ ((fl9 = 0 ∧ (okS x9) ∧ r = 0) ∨ (fl9 = 1 ∧ ¬ (okS x9)))) (BB G B) (fun q => B ≤ q)) args s 0 0 (fun q => B ≤ q) := ⟨_, rfl⟩
  rw [← hQ]
  have ne0_1 : md ≠ ab := mp_ne hm hab (by simp)
  have ne0_2 : md ≠ av := mp_ne hm hav (by simp)
  have in_X7_bounds_X7 : ∀ w ∈ wsX70, w ∈ wsX7_bounds := by decide +kernel
  have hP : mw G.1 vwCl B (mu (mu (mu μ md (.inr (7, [.int (nI fl), .ref ab, .ref av, .int (nI st), .ref c1, .ref c2, .ref c3, .ref c4, .ref c5, .ref c6, .ref c7, .ref c8, .ref c9]))) ab (.inl (G.2 0, 3744, .inr (.inl f)))) av (.inl (G.2 2, 26, .inl v))) s.heap := mw_eq ((congrArg (fun z => mu z av (.inl (G.2 2, 26, .inl v))) ((congrArg (fun z => mu z ab (.inl (G.2 0, 3744, .inr (.inl f)))) (mu_i hm)).trans (mu_i hab))).trans (mu_i hav)).symm hP
  have L36 : ∀ (N36 : Nat) (p1 : Nat) (n0 : Nat) (hN36 : 12 - p1 < N36) (hp1 : p1 ≤ 12) (hn0 : n0 < 6) (hok : okS x9), ∀ (H : Heap) (locs : List Loc), mw G.1 vwCl B (mu (mu (mu μ md (.inr (7, [.int (nI 0), .ref ab, .ref av, .int (nI st), .ref c1, .ref c2, .ref c3, .ref c4, .ref c5, .ref c6, .ref c7, .ref c8, .ref c9]))) ab (.inl (G.2 0, 3744, .inr (.inl f)))) av (.inl (G.2 2, 26, .inl v))) H → va_S (fun q => B ≤ q) s.heap H locs → ∀ ls : Array Slot, lv_has ls 5 [(0, .ref md), (1, .int (nI n0)), (2, .int (nI 0)), (3, .int (nI p1))] → W p l e rm_X7_bounds s m args below meth c H locs 0 0 Q (F0 m 36 ls []) := by
    intro N36
    induction N36 with
    | zero => intro p1 n0 hN36; exact absurd hN36 (Nat.not_lt_zero _)
    | succ N36 ih36 =>
      intro p1 n0 hN36 hp1 hn0 hok H locs hP hS ls hl
      have L45 : ∀ (N45 : Nat) (q1 : Nat) (hN45 : p1 + 1 - q1 < N45) (hpo : p1 < 12) (hq1 : q1 ≤ p1 + 1), ∀ (H : Heap) (locs : List Loc), mw G.1 vwCl B (mu (mu (mu μ md (.inr (7, [.int (nI 0), .ref ab, .ref av, .int (nI st), .ref c1, .ref c2, .ref c3, .ref c4, .ref c5, .ref c6, .ref c7, .ref c8, .ref c9]))) ab (.inl (G.2 0, 3744, .inr (.inl f)))) av (.inl (G.2 2, 26, .inl v))) H → va_S (fun q => B ≤ q) s.heap H locs → ∀ ls : Array Slot, lv_has ls 5 [(0, .ref md), (1, .int (nI n0)), (2, .int (nI 0)), (3, .int (nI p1)), (4, .int (nI q1))] → W p l e rm_X7_bounds s m args below meth c H locs 0 0 Q (F0 m 45 ls []) := by
        intro N45
        induction N45 with
        | zero => intro q1 hN45; exact absurd hN45 (Nat.not_lt_zero _)
        | succ N45 ih45 =>
          intro q1 hN45 hpo hq1 H locs hP hS ls hl
          refine lv_iload hx hb dX7_bounds_45 (lv_at hl 4 rfl) ?_
          refine lv_iload_n hx hb dX7_bounds_47 rfl (lv_at hl 3 rfl) ?_
          refine nv_icmp_gt (tgt := 89) hx hb (by omega) (by omega) dX7_bounds_48 (by decide) (fun hc48 => ?_) (fun hc48 => ?_)
          · refine lv_iinc (v := nI (p1 + 1)) (lv' := [(3, .int (nI (p1 + 1))), (0, .ref md), (1, .int (nI n0)), (2, .int (nI 0)), (4, .int (nI q1))]) hx hb dX7_bounds_89 hl (k := 3) rfl (nI_add _ _) (by decide) rfl (fun ls hl => ?_)
            refine lv_goto (tgt := 36) hx hb dX7_bounds_92 (by decide) ?_
            exact ih36 (p1 + 1) n0 (by omega) (by omega) (by omega) (hok) _ _ hP hS ls (lv_sub hl [1, 2, 3, 0] rfl)
          · refine lv_iload hx hb dX7_bounds_51 (lv_at hl 4 rfl) ?_
            refine lv_iload_n hx hb dX7_bounds_53 rfl (lv_at hl 3 rfl) ?_
            refine kc_i (va_runS (As := [.int (nI p1)]) (rest := [.int (nI q1)]) ⟨hx, hb, hml, hown, hts⟩ (c_X7_minus l G B (mu (mu (mu μ md (.inr (7, [.int (nI 0), .ref ab, .ref av, .int (nI st), .ref c1, .ref c2, .ref c3, .ref c4, .ref c5, .ref c6, .ref c7, .ref c8, .ref c9]))) ab (.inl (G.2 0, 3744, .inr (.inl f)))) av (.inl (G.2 2, 26, .inl v))) p1 (by omega)) (va_cwS 1 hts gX7_bounds_X7_minus rfl rfl rfl (by decide +kernel) ⟨Nat.le_of_ble_eq_true rfl, Nat.le_of_ble_eq_true rfl⟩) ⟨KW.blind, fun U9 hU9 hW9 => ⟨rfl, KW.pre hBs hKK hS hP U9 hU9 hW9⟩⟩ rfl rfl hl.1 rfl (lv_room (Nat.le_of_ble_eq_true rfl)) dX7_bounds_54 ⟨(Nat.le_of_ble_eq_true rfl), (Nat.le_of_ble_eq_true rfl)⟩) hS (fun r54 m54 H locs hq9 hP hz9 hS => ?_)
            obtain ⟨he9, rfl⟩ := hq9
            rw [he9] at hP
            have hne54 := ne_lt (p := p1) (by omega)
            refine nv_icmp_eq (tgt := 81) hx hb (by omega) (by omega) dX7_bounds_57 (by decide) (fun hc57 => ?_) (fun hc57 => ?_)
            · refine lv_iload_n hx hb dX7_bounds_81 rfl (lv_at hl 2 rfl) ?_
              refine lv_istore_n (lv' := [(2, .int (nI 0)), (0, .ref md), (1, .int (nI n0)), (3, .int (nI p1)), (4, .int (nI q1))]) hx hb dX7_bounds_82 rfl hl (by decide) rfl (fun ls hl => ?_)
              refine lv_iinc (v := nI (q1 + 1)) (lv' := [(4, .int (nI (q1 + 1))), (2, .int (nI 0)), (0, .ref md), (1, .int (nI n0)), (3, .int (nI p1))]) hx hb dX7_bounds_83 hl (k := 4) rfl (nI_add _ _) (by decide) rfl (fun ls hl => ?_)
              refine lv_goto (tgt := 45) hx hb dX7_bounds_86 (by decide) ?_
              exact ih45 (q1 + 1) (by omega) (by omega) (by omega) _ _ hP hS ls (lv_sub hl [2, 3, 1, 4, 0] rfl)
            · refine lv_aload_n hx hb dX7_bounds_60 rfl (lv_at hl 0 rfl) ?_
              refine lv_iload_n hx hb dX7_bounds_61 rfl (lv_at hl 1 rfl) ?_
              refine lv_iload_n hx hb dX7_bounds_62 rfl (lv_at hl 3 rfl) ?_
              refine lv_iload hx hb dX7_bounds_63 (lv_at hl 4 rfl) ?_
              refine kc_l (va_runV (As := [.int (nI n0), .int (nI p1), .int (nI q1)]) (rest := []) ⟨hx, hb, hml, hown, hts⟩ (c_X7_get l G B (mu (mu (mu μ md (.inr (7, [.int (nI 0), .ref ab, .ref av, .int (nI st), .ref c1, .ref c2, .ref c3, .ref c4, .ref c5, .ref c6, .ref c7, .ref c8, .ref c9]))) ab (.inl (G.2 0, 3744, .inr (.inl f)))) av (.inl (G.2 2, 26, .inl v))) md ab av c1 c2 c3 c4 c5 c6 c7 c8 c9 0 st f v n0 p1 q1 ((mu_n ne0_2).trans ((mu_n ne0_1).trans (mu_s _ _ _))) ((mu_n ((mp_ne hab hav (by simp)))).trans (mu_s _ _ _)) (mu_s _ _ _) (by omega) (by omega) (by omega)) (cwV 3 hts gX7_bounds_X7_get rfl rfl rfl (by decide +kernel) ⟨Nat.le_of_ble_eq_true rfl, Nat.le_of_ble_eq_true rfl⟩) ⟨KW.blind, hP.recv hK rfl ((mu_n ne0_2).trans ((mu_n ne0_1).trans (mu_s _ _ _))), fun U9 hU9 hW9 => ⟨rfl, KW.pre hBs hKK hS hP U9 hU9 hW9⟩⟩ rfl rfl hl.1 rfl (lv_room (Nat.le_of_ble_eq_true rfl)) dX7_bounds_65 ⟨(Nat.le_of_ble_eq_true rfl), (Nat.le_of_ble_eq_true rfl)⟩) hS (fun r65 m65 H locs hq9 hP hz9 hS => ?_)
              obtain ⟨he9, hr65⟩ := hq9
              rw [he9] at hP
              refine lv_ldc2 (v := (9223372036854775807)) hx hb hown (hts (.constantLong RX7 45 (9223372036854775807)) (by decide +kernel)) dX7_bounds_68 ?_
              refine nl_if_ge (tgt := 81) hx hb dX7_bounds_71 dX7_bounds_72 (by decide) (fun hc71 => ?_) (fun hc71 => ?_)
              · refine lv_iload_n hx hb dX7_bounds_81 rfl (lv_at hl 2 rfl) ?_
                refine lv_istore_n (lv' := [(2, .int (nI 0)), (0, .ref md), (1, .int (nI n0)), (3, .int (nI p1)), (4, .int (nI q1))]) hx hb dX7_bounds_82 rfl hl (by decide) rfl (fun ls hl => ?_)
                refine lv_iinc (v := nI (q1 + 1)) (lv' := [(4, .int (nI (q1 + 1))), (2, .int (nI 0)), (0, .ref md), (1, .int (nI n0)), (3, .int (nI p1))]) hx hb dX7_bounds_83 hl (k := 4) rfl (nI_add _ _) (by decide) rfl (fun ls hl => ?_)
                refine lv_goto (tgt := 45) hx hb dX7_bounds_86 (by decide) ?_
                exact ih45 (q1 + 1) (by omega) (by omega) (by omega) _ _ hP hS ls (lv_sub hl [2, 3, 1, 4, 0] rfl)
              · exact absurd (by rw [hr65, (hNM.1 _ (by omega)).g (by omega) (by omega)]; exact Int64.le_refl _) hc71
      refine lv_iload_n hx hb dX7_bounds_36 rfl (lv_at hl 3 rfl) ?_
      refine lv_bipush (v := nI 12) hx hb dX7_bounds_37 (by decide) ?_
      refine nv_icmp_ge (tgt := 95) hx hb (by omega) (by omega) dX7_bounds_39 (by decide) (fun hc39 => ?_) (fun hc39 => ?_)
      · refine lv_iload_n hx hb dX7_bounds_95 rfl (lv_at hl 2 rfl) ?_
        rw [hQ]
        exact W.iret (v := nI 0) hx hb hr (fun t99 ht99 hW99 => ⟨⟨nI 0, mu (mu (mu μ md (.inr (7, [.int (nI 0), .ref ab, .ref av, .int (nI st), .ref c1, .ref c2, .ref c3, .ref c4, .ref c5, .ref c6, .ref c7, .ref c8, .ref c9]))) ab (.inl (G.2 0, 3744, .inr (.inl f)))) av (.inl (G.2 2, 26, .inl v)), rfl, (⟨_, _, _, rfl, Or.inl ⟨rfl, hok, rfl⟩⟩), by show mw _ _ _ _ t99.heap; rw [ht99]; exact hP⟩, hS.F ht99⟩) hS.2.2 dX7_bounds_96
      · refine lv_iconst (v := nI 0) hx hb dX7_bounds_42 (by decide) ?_
        refine lv_istore (lv' := [(4, .int (nI 0)), (0, .ref md), (1, .int (nI n0)), (2, .int (nI 0)), (3, .int (nI p1))]) hx hb dX7_bounds_43 hl (by decide) rfl (fun ls hl => ?_)
        exact L45 _ 0 (Nat.lt_succ_self _) (by omega) (by omega) _ _ hP hS ls (lv_sub hl [1, 2, 3, 4, 0] rfl)
  have hl := lv_entry ([.ref md, .int x9]) (n := 5) (Nat.le_of_ble_eq_true rfl)
  have he9 : entryFrame m args 5 = entryFrame m ([.ref md, .int x9] : List Value).toArray 5 := by rw [hargs]
  rw [he9, lg_entry_eq]
  generalize (lg_sl ([.ref md, .int x9]) ++ List.replicate (5 - (lg_sl ([.ref md, .int x9])).length) Slot.unset).toArray = ls at hl ⊢
  have hl : lv_has ls 5 [(0, .ref md), (1, .int x9)] := hl
  refine lv_aload_n hx hb dX7_bounds_0 rfl (lv_at hl 0 rfl) ?_
  refine lv_iload_n hx hb dX7_bounds_1 rfl (lv_at hl 1 rfl) ?_
  refine kc_i (va_runS (As := [.int x9]) (rest := [.ref md]) ⟨hx, hb, hml, hown, hts⟩ (c_X7_isSlot l G B (mu (mu (mu μ md (.inr (7, [.int (nI fl), .ref ab, .ref av, .int (nI st), .ref c1, .ref c2, .ref c3, .ref c4, .ref c5, .ref c6, .ref c7, .ref c8, .ref c9]))) ab (.inl (G.2 0, 3744, .inr (.inl f)))) av (.inl (G.2 2, 26, .inl v))) x9) (va_cwS 1 hts gX7_bounds_X7_isSlot rfl rfl rfl (by decide +kernel) ⟨Nat.le_of_ble_eq_true rfl, Nat.le_of_ble_eq_true rfl⟩) ⟨KW.blind, fun U9 hU9 hW9 => ⟨rfl, KW.pre hBs hKK hS hP U9 hU9 hW9⟩⟩ rfl rfl hl.1 rfl (lv_room (Nat.le_of_ble_eq_true rfl)) dX7_bounds_2 ⟨(Nat.le_of_ble_eq_true rfl), (Nat.le_of_ble_eq_true rfl)⟩) hS (fun r2 m2 H locs hq9 hP hz9 hS => ?_)
  obtain ⟨he9, hy2⟩ := hq9
  rw [he9] at hP
  refine lv_if_eq (tgt := 12) hx hb dX7_bounds_5 (by decide) (fun hc5 => ?_) (fun hc5 => ?_)
  · refine lv_iconst (v := nI 1) hx hb dX7_bounds_12 (by decide) ?_
    refine kc_i (va_runV (As := [.int (nI 1)]) (rest := []) ⟨hx, hb, hml, hown, hts⟩ (c_X7_refused l G B (mu (mu (mu μ md (.inr (7, [.int (nI fl), .ref ab, .ref av, .int (nI st), .ref c1, .ref c2, .ref c3, .ref c4, .ref c5, .ref c6, .ref c7, .ref c8, .ref c9]))) ab (.inl (G.2 0, 3744, .inr (.inl f)))) av (.inl (G.2 2, 26, .inl v))) md ab av c1 c2 c3 c4 c5 c6 c7 c8 c9 fl st f v 1 ((mu_n ne0_2).trans ((mu_n ne0_1).trans (mu_s _ _ _))) ((mu_n ((mp_ne hab hav (by simp)))).trans (mu_s _ _ _)) (mu_s _ _ _) (by omega)) (cwV 1 hts gX7_bounds_X7_refused rfl rfl rfl (by decide +kernel) ⟨Nat.le_of_ble_eq_true rfl, Nat.le_of_ble_eq_true rfl⟩) ⟨KW.blind, hP.recv hK rfl ((mu_n ne0_2).trans ((mu_n ne0_1).trans (mu_s _ _ _))), fun U9 hU9 hW9 => ⟨rfl, KW.pre hBs hKK hS hP U9 hU9 hW9⟩⟩ rfl rfl hl.1 rfl (lv_room (Nat.le_of_ble_eq_true rfl)) dX7_bounds_13 ⟨(Nat.le_of_ble_eq_true rfl), (Nat.le_of_ble_eq_true rfl)⟩) hS (fun r13 m13 H locs hq9 hP hz9 hS => ?_)
    obtain ⟨he9, hw0, hw1⟩ := hq9
    rw [he9] at hP
    have hP : mw G.1 vwCl B (mu (mu (mu μ md (.inr (7, [.int (nI 1), .ref ab, .ref av, .int (nI st), .ref c1, .ref c2, .ref c3, .ref c4, .ref c5, .ref c6, .ref c7, .ref c8, .ref c9]))) ab (.inl (G.2 0, 3744, .inr (.inl f)))) av (.inl (G.2 2, 26, .inl v))) _ := mw_eq ((mu_c _ _ ((Ne.symm ne0_2))).trans (congrArg (fun z => mu z av (.inl (G.2 2, 26, .inl v))) ((mu_c _ _ ((Ne.symm ne0_1))).trans (congrArg (fun z => mu z ab (.inl (G.2 0, 3744, .inr (.inl f)))) (mu_u _ _ _ _))))) hP
    obtain rfl : r13 = nI 1 := hw1 (by decide)
    refine lv_if_eq (tgt := 21) hx hb dX7_bounds_16 (by decide) (fun hc16 => ?_) (fun hc16 => ?_)
    · exact absurd hc16 (by decide)
    · refine lv_iconst (v := nI 0) hx hb dX7_bounds_19 (by decide) ?_
      rw [hQ]
      exact W.iret (v := nI 0) hx hb hr (fun t99 ht99 hW99 => ⟨⟨nI 0, mu (mu (mu μ md (.inr (7, [.int (nI 1), .ref ab, .ref av, .int (nI st), .ref c1, .ref c2, .ref c3, .ref c4, .ref c5, .ref c6, .ref c7, .ref c8, .ref c9]))) ab (.inl (G.2 0, 3744, .inr (.inl f)))) av (.inl (G.2 2, 26, .inl v)), rfl, (⟨_, _, _, rfl, Or.inr ⟨rfl, fun h9 => by first | exact yn_f hy2 hc5 h9⟩⟩), by show mw _ _ _ _ t99.heap; rw [ht99]; exact hP⟩, hS.F ht99⟩) hS.2.2 dX7_bounds_20
  · refine lv_iconst (v := nI 0) hx hb dX7_bounds_8 (by decide) ?_
    refine lv_goto (tgt := 13) hx hb dX7_bounds_9 (by decide) ?_
    refine kc_i (va_runV (As := [.int (nI 0)]) (rest := []) ⟨hx, hb, hml, hown, hts⟩ (c_X7_refused l G B (mu (mu (mu μ md (.inr (7, [.int (nI fl), .ref ab, .ref av, .int (nI st), .ref c1, .ref c2, .ref c3, .ref c4, .ref c5, .ref c6, .ref c7, .ref c8, .ref c9]))) ab (.inl (G.2 0, 3744, .inr (.inl f)))) av (.inl (G.2 2, 26, .inl v))) md ab av c1 c2 c3 c4 c5 c6 c7 c8 c9 fl st f v 0 ((mu_n ne0_2).trans ((mu_n ne0_1).trans (mu_s _ _ _))) ((mu_n ((mp_ne hab hav (by simp)))).trans (mu_s _ _ _)) (mu_s _ _ _) (by omega)) (cwV 1 hts gX7_bounds_X7_refused rfl rfl rfl (by decide +kernel) ⟨Nat.le_of_ble_eq_true rfl, Nat.le_of_ble_eq_true rfl⟩) ⟨KW.blind, hP.recv hK rfl ((mu_n ne0_2).trans ((mu_n ne0_1).trans (mu_s _ _ _))), fun U9 hU9 hW9 => ⟨rfl, KW.pre hBs hKK hS hP U9 hU9 hW9⟩⟩ rfl rfl hl.1 rfl (lv_room (Nat.le_of_ble_eq_true rfl)) dX7_bounds_13 ⟨(Nat.le_of_ble_eq_true rfl), (Nat.le_of_ble_eq_true rfl)⟩) hS (fun r13 m13 H locs hq9 hP hz9 hS => ?_)
    obtain ⟨he9, hw0, hw1⟩ := hq9
    rw [he9] at hP
    have hP : mw G.1 vwCl B (mu (mu (mu μ md (.inr (7, [.int (nI 0), .ref ab, .ref av, .int (nI st), .ref c1, .ref c2, .ref c3, .ref c4, .ref c5, .ref c6, .ref c7, .ref c8, .ref c9]))) ab (.inl (G.2 0, 3744, .inr (.inl f)))) av (.inl (G.2 2, 26, .inl v))) _ := mw_eq ((mu_c _ _ ((Ne.symm ne0_2))).trans (congrArg (fun z => mu z av (.inl (G.2 2, 26, .inl v))) ((mu_c _ _ ((Ne.symm ne0_1))).trans (congrArg (fun z => mu z ab (.inl (G.2 0, 3744, .inr (.inl f)))) (mu_u _ _ _ _))))) hP
    obtain rfl : r13 = nI 0 := hw0 rfl
    refine lv_if_eq (tgt := 21) hx hb dX7_bounds_16 (by decide) (fun hc16 => ?_) (fun hc16 => ?_)
    · have hok : okS x9 := yn_t hy2 hc5
      obtain ⟨nx9, hnx9, enx9⟩ := ok_nat (n := 6) (by decide) hok
      subst enx9
      refine lv_aload_n hx hb dX7_bounds_21 rfl (lv_at hl 0 rfl) ?_
      refine mw_get (C := RX7) (T := TX7) (N := 13) hx hb hts in_X7_bounds_X7 hown hK hP ((mu_n ne0_2).trans ((mu_n ne0_1).trans (mu_s _ _ _))) rfl 2 (by decide) (hts (.fieldLink RX7 13 "OctagonDeskModel" "isVoid" "[Z") (by decide +kernel)) (fun _ h9 => h9) rfl dX7_bounds_22 ?_
      refine lv_iload_n hx hb dX7_bounds_25 rfl (lv_at hl 1 rfl) ?_
      refine mw_zald hx hb hK hP 2 (mu_s _ _ _) rfl (by omega) (by omega) dX7_bounds_26 ?_
      refine lv_if_eq (tgt := 32) hx hb dX7_bounds_27 (by decide) (fun hc27 => ?_) (fun hc27 => ?_)
      · refine lv_iconst (v := nI 0) hx hb dX7_bounds_32 (by decide) ?_
        refine lv_istore_n (lv' := [(2, .int (nI 0)), (0, .ref md), (1, .int (nI nx9))]) hx hb dX7_bounds_33 rfl hl (by decide) rfl (fun ls hl => ?_)
        refine lv_iconst (v := nI 0) hx hb dX7_bounds_34 (by decide) ?_
        refine lv_istore_n (lv' := [(3, .int (nI 0)), (2, .int (nI 0)), (0, .ref md), (1, .int (nI nx9))]) hx hb dX7_bounds_35 rfl hl (by decide) rfl (fun ls hl => ?_)
        exact L36 _ 0 nx9 (Nat.lt_succ_self _) (by omega) (by omega) (hok) _ _ hP hS ls (lv_sub hl [2, 3, 1, 0] rfl)
      · exact absurd (hNM.2.1 nx9 (by omega)) hc27
    · exact absurd rfl hc16
