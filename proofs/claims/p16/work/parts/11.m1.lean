abbrev rm_X4_isIn : Room := { frames := 0, cells := 0, slots := 0, locals := 0 }
set_option maxHeartbeats 4000000 in
set_option maxRecDepth 100000 in
theorem c_X4_isIn (l : Launch) (G : GG) (B : Nat) (μ : mp) (x9 y9 z9 : Int32) : Met l yX4_isIn wsX4_isIn rm_X4_isIn (va_Pc [.int x9, .int y9, .int z9] (KW G B μ)) (va_Qi (fun r μ2 => μ2 = μ ∧ ((r = 1 ∧ isI x9 y9 z9) ∨ (r = 0 ∧ ¬ (isI x9 y9 z9)))) (BB G B) (fun q => B ≤ q)) 0 0 (fun q => B ≤ q) := by
  refine Met.ofW (cc := cX4_isIn) (maxL := 3) (ret := (some .boolean)) (by decide) rfl ?_
  intro p e s m args below meth c s₁ B9 hml hv
  obtain ⟨hargs, hBs, hP, hKK⟩ := hv
  have hx := B9.exec
  have hb := B9.bytes
  have hr := B9.returns
  have hts := atoms_spec (ws := wsX4_isIn) B9.pre
  have hown : s.vm.findClass RX4 = some m.cls := findClass_of_methodNamed B9.named
  have hlocks := B9.notSynchronized
  have hK := hKK.k
  have hS : va_S (fun q => B ≤ q) s.heap s.heap [] := va_S.rf
  obtain ⟨Q, hQ⟩ : ∃ Q, Q = MQ below (va_Qi (fun r μ2 => μ2 = μ ∧ ((r = 1 ∧ isI x9 y9 z9) ∨ (r = 0 ∧ ¬ (isI x9 y9 z9)))) (BB G B) (fun q => B ≤ q)) args s 0 0 (fun q => B ≤ q) := ⟨_, rfl⟩
  rw [← hQ]
  have hl := lv_entry ([.int x9, .int y9, .int z9]) (n := 3) (Nat.le_of_ble_eq_true rfl)
  have he9 : entryFrame m args 3 = entryFrame m ([.int x9, .int y9, .int z9] : List Value).toArray 3 := by rw [hargs]
  rw [he9, lg_entry_eq]
  generalize (lg_sl ([.int x9, .int y9, .int z9]) ++ List.replicate (3 - (lg_sl ([.int x9, .int y9, .int z9])).length) Slot.unset).toArray = ls at hl ⊢
  have hl : lv_has ls 3 [(0, .int x9), (1, .int y9), (2, .int z9)] := hl
  refine lv_iload_n hx hb dX4_isIn_0 rfl (lv_at hl 0 rfl) ?_
  refine lv_iload_n hx hb dX4_isIn_1 rfl (lv_at hl 1 rfl) ?_
  refine lv_icmp_lt (tgt := 14) hx hb dX4_isIn_2 (by decide) (fun hc2 => ?_) (fun hc2 => ?_)
  · refine lv_iconst (v := nI 0) hx hb dX4_isIn_14 (by decide) ?_
    rw [hQ]
    exact W.zret (v := nI 0) (ty := .boolean) hx hb hr (by first | rfl | decide) (fun t99 ht99 hW99 => ⟨⟨nI 0, μ, rfl, (⟨rfl, Or.inr ⟨rfl, fun h9 => by first | exact absurd hc2 (Int32.not_lt.mpr h9.1) | exact absurd hc7 (Int32.not_lt.mpr h9.2)⟩⟩), by show mw _ _ _ _ t99.heap; rw [ht99]; exact hP⟩, hS.F ht99⟩) hS.2.2 dX4_isIn_15
  · refine lv_iload_n hx hb dX4_isIn_5 rfl (lv_at hl 0 rfl) ?_
    refine lv_iload_n hx hb dX4_isIn_6 rfl (lv_at hl 2 rfl) ?_
    refine lv_icmp_gt (tgt := 14) hx hb dX4_isIn_7 (by decide) (fun hc7 => ?_) (fun hc7 => ?_)
    · refine lv_iconst (v := nI 0) hx hb dX4_isIn_14 (by decide) ?_
      rw [hQ]
      exact W.zret (v := nI 0) (ty := .boolean) hx hb hr (by first | rfl | decide) (fun t99 ht99 hW99 => ⟨⟨nI 0, μ, rfl, (⟨rfl, Or.inr ⟨rfl, fun h9 => by first | exact absurd hc2 (Int32.not_lt.mpr h9.1) | exact absurd hc7 (Int32.not_lt.mpr h9.2)⟩⟩), by show mw _ _ _ _ t99.heap; rw [ht99]; exact hP⟩, hS.F ht99⟩) hS.2.2 dX4_isIn_15
    · refine lv_iconst (v := nI 1) hx hb dX4_isIn_10 (by decide) ?_
      refine lv_goto (tgt := 15) hx hb dX4_isIn_11 (by decide) ?_
      rw [hQ]
      exact W.zret (v := nI 1) (ty := .boolean) hx hb hr (by first | rfl | decide) (fun t99 ht99 hW99 => ⟨⟨nI 1, μ, rfl, (⟨rfl, Or.inl ⟨rfl, Int32.not_lt.mp hc2, Int32.not_lt.mp hc7⟩⟩), by show mw _ _ _ _ t99.heap; rw [ht99]; exact hP⟩, hS.F ht99⟩) hS.2.2 dX4_isIn_15

abbrev rm_X4_isSlot : Room := { frames := 1, cells := 0, slots := 0, locals := 22 }
set_option maxHeartbeats 4000000 in
set_option maxRecDepth 100000 in
theorem c_X4_isSlot (l : Launch) (G : GG) (B : Nat) (μ : mp) (x9 : Int32) : Met l yX4_isSlot wsX4_isSlot rm_X4_isSlot (va_Pc [.int x9] (KW G B μ)) (va_Qi (fun r μ2 => μ2 = μ ∧ ((r = 1 ∧ okS x9) ∨ (r = 0 ∧ ¬ (okS x9)))) (BB G B) (fun q => B ≤ q)) 0 0 (fun q => B ≤ q) := by
  refine Met.ofW (cc := cX4_isSlot) (maxL := 1) (ret := (some .boolean)) (by decide) rfl ?_
  intro p e s m args below meth c s₁ B9 hml hv
  obtain ⟨hargs, hBs, hP, hKK⟩ := hv
  have hx := B9.exec
  have hb := B9.bytes
  have hr := B9.returns
  have hts := atoms_spec (ws := wsX4_isSlot) B9.pre
  have hown : s.vm.findClass RX4 = some m.cls := findClass_of_methodNamed B9.named
  have hlocks := B9.notSynchronized
  have hK := hKK.k
  have hS : va_S (fun q => B ≤ q) s.heap s.heap [] := va_S.rf
  obtain ⟨Q, hQ⟩ : ∃ Q, Q = MQ below (va_Qi (fun r μ2 => μ2 = μ ∧ ((r = 1 ∧ okS x9) ∨ (r = 0 ∧ ¬ (okS x9)))) (BB G B) (fun q => B ≤ q)) args s 0 0 (fun q => B ≤ q) := ⟨_, rfl⟩
  rw [← hQ]
  have hl := lv_entry ([.int x9]) (n := 1) (Nat.le_of_ble_eq_true rfl)
  have he9 : entryFrame m args 1 = entryFrame m ([.int x9] : List Value).toArray 1 := by rw [hargs]
  rw [he9, lg_entry_eq]
  generalize (lg_sl ([.int x9]) ++ List.replicate (1 - (lg_sl ([.int x9])).length) Slot.unset).toArray = ls at hl ⊢
  have hl : lv_has ls 1 [(0, .int x9)] := hl
  refine lv_iload_n hx hb dX4_isSlot_0 rfl (lv_at hl 0 rfl) ?_
  refine lv_iconst (v := nI 0) hx hb dX4_isSlot_1 (by decide) ?_
  refine lv_iconst (v := nI 5) hx hb dX4_isSlot_2 (by decide) ?_
  refine kc_i (va_runS (As := [.int x9, .int (nI 0), .int (nI 5)]) (rest := []) ⟨hx, hb, hml, hown, hts⟩ (c_X4_isIn l G B (μ) x9 (nI 0) (nI 5)) (va_cwS 3 hts gX4_isSlot_X4_isIn rfl rfl rfl (by decide +kernel) ⟨Nat.le_of_ble_eq_true rfl, Nat.le_of_ble_eq_true rfl⟩) ⟨KW.blind, fun U9 hU9 hW9 => ⟨rfl, KW.pre hBs hKK hS hP U9 hU9 hW9⟩⟩ rfl rfl hl.1 rfl (lv_room (Nat.le_of_ble_eq_true rfl)) dX4_isSlot_3 ⟨(Nat.le_of_ble_eq_true rfl), (Nat.le_of_ble_eq_true rfl)⟩) hS (fun r3 m3 H locs hq9 hP hz9 hS => ?_)
  obtain ⟨he9, hy3⟩ := hq9
  rw [he9] at hP
  rw [hQ]
  exact W.zret (v := r3) (ty := .boolean) hx hb hr (zb_r (yn_b hy3)) (fun t99 ht99 hW99 => ⟨⟨r3, μ, rfl, (⟨rfl, yn_iff hy3 isI_S⟩), by show mw _ _ _ _ t99.heap; rw [ht99]; exact hP⟩, hS.F ht99⟩) hS.2.2 dX4_isSlot_6

abbrev rm_X4_isTerm : Room := { frames := 1, cells := 0, slots := 0, locals := 22 }
set_option maxHeartbeats 4000000 in
set_option maxRecDepth 100000 in
theorem c_X4_isTerm (l : Launch) (G : GG) (B : Nat) (μ : mp) (x9 : Int32) : Met l yX4_isTerm wsX4_isTerm rm_X4_isTerm (va_Pc [.int x9] (KW G B μ)) (va_Qi (fun r μ2 => μ2 = μ ∧ ((r = 1 ∧ okT x9) ∨ (r = 0 ∧ ¬ (okT x9)))) (BB G B) (fun q => B ≤ q)) 0 0 (fun q => B ≤ q) := by
  refine Met.ofW (cc := cX4_isTerm) (maxL := 1) (ret := (some .boolean)) (by decide) rfl ?_
  intro p e s m args below meth c s₁ B9 hml hv
  obtain ⟨hargs, hBs, hP, hKK⟩ := hv
  have hx := B9.exec
  have hb := B9.bytes
  have hr := B9.returns
  have hts := atoms_spec (ws := wsX4_isTerm) B9.pre
  have hown : s.vm.findClass RX4 = some m.cls := findClass_of_methodNamed B9.named
  have hlocks := B9.notSynchronized
  have hK := hKK.k
  have hS : va_S (fun q => B ≤ q) s.heap s.heap [] := va_S.rf
  obtain ⟨Q, hQ⟩ : ∃ Q, Q = MQ below (va_Qi (fun r μ2 => μ2 = μ ∧ ((r = 1 ∧ okT x9) ∨ (r = 0 ∧ ¬ (okT x9)))) (BB G B) (fun q => B ≤ q)) args s 0 0 (fun q => B ≤ q) := ⟨_, rfl⟩
  rw [← hQ]
  have hl := lv_entry ([.int x9]) (n := 1) (Nat.le_of_ble_eq_true rfl)
  have he9 : entryFrame m args 1 = entryFrame m ([.int x9] : List Value).toArray 1 := by rw [hargs]
  rw [he9, lg_entry_eq]
  generalize (lg_sl ([.int x9]) ++ List.replicate (1 - (lg_sl ([.int x9])).length) Slot.unset).toArray = ls at hl ⊢
  have hl : lv_has ls 1 [(0, .int x9)] := hl
  refine lv_iload_n hx hb dX4_isTerm_0 rfl (lv_at hl 0 rfl) ?_
  refine lv_iconst (v := nI 0) hx hb dX4_isTerm_1 (by decide) ?_
  refine lv_bipush (v := nI 11) hx hb dX4_isTerm_2 (by decide) ?_
  refine kc_i (va_runS (As := [.int x9, .int (nI 0), .int (nI 11)]) (rest := []) ⟨hx, hb, hml, hown, hts⟩ (c_X4_isIn l G B (μ) x9 (nI 0) (nI 11)) (va_cwS 3 hts gX4_isTerm_X4_isIn rfl rfl rfl (by decide +kernel) ⟨Nat.le_of_ble_eq_true rfl, Nat.le_of_ble_eq_true rfl⟩) ⟨KW.blind, fun U9 hU9 hW9 => ⟨rfl, KW.pre hBs hKK hS hP U9 hU9 hW9⟩⟩ rfl rfl hl.1 rfl (lv_room (Nat.le_of_ble_eq_true rfl)) dX4_isTerm_4 ⟨(Nat.le_of_ble_eq_true rfl), (Nat.le_of_ble_eq_true rfl)⟩) hS (fun r4 m4 H locs hq9 hP hz9 hS => ?_)
  obtain ⟨he9, hy4⟩ := hq9
  rw [he9] at hP
  rw [hQ]
  exact W.zret (v := r4) (ty := .boolean) hx hb hr (zb_r (yn_b hy4)) (fun t99 ht99 hW99 => ⟨⟨r4, μ, rfl, (⟨rfl, yn_iff hy4 isI_T⟩), by show mw _ _ _ _ t99.heap; rw [ht99]; exact hP⟩, hS.F ht99⟩) hS.2.2 dX4_isTerm_7

abbrev rm_X4_isNumber : Room := { frames := 1, cells := 0, slots := 0, locals := 22 }
set_option maxHeartbeats 4000000 in
set_option maxRecDepth 100000 in
theorem c_X4_isNumber (l : Launch) (G : GG) (B : Nat) (μ : mp) (x9 : Int32) : Met l yX4_isNumber wsX4_isNumber rm_X4_isNumber (va_Pc [.int x9] (KW G B μ)) (va_Qi (fun r μ2 => μ2 = μ ∧ ((r = 1 ∧ okN x9) ∨ (r = 0 ∧ ¬ (okN x9)))) (BB G B) (fun q => B ≤ q)) 0 0 (fun q => B ≤ q) := by
  refine Met.ofW (cc := cX4_isNumber) (maxL := 1) (ret := (some .boolean)) (by decide) rfl ?_
  intro p e s m args below meth c s₁ B9 hml hv
  obtain ⟨hargs, hBs, hP, hKK⟩ := hv
  have hx := B9.exec
  have hb := B9.bytes
  have hr := B9.returns
  have hts := atoms_spec (ws := wsX4_isNumber) B9.pre
  have hown : s.vm.findClass RX4 = some m.cls := findClass_of_methodNamed B9.named
  have hlocks := B9.notSynchronized
  have hK := hKK.k
  have hS : va_S (fun q => B ≤ q) s.heap s.heap [] := va_S.rf
  obtain ⟨Q, hQ⟩ : ∃ Q, Q = MQ below (va_Qi (fun r μ2 => μ2 = μ ∧ ((r = 1 ∧ okN x9) ∨ (r = 0 ∧ ¬ (okN x9)))) (BB G B) (fun q => B ≤ q)) args s 0 0 (fun q => B ≤ q) := ⟨_, rfl⟩
  rw [← hQ]
  have hl := lv_entry ([.int x9]) (n := 1) (Nat.le_of_ble_eq_true rfl)
  have he9 : entryFrame m args 1 = entryFrame m ([.int x9] : List Value).toArray 1 := by rw [hargs]
  rw [he9, lg_entry_eq]
  generalize (lg_sl ([.int x9]) ++ List.replicate (1 - (lg_sl ([.int x9])).length) Slot.unset).toArray = ls at hl ⊢
  have hl : lv_has ls 1 [(0, .int x9)] := hl
  refine lv_iload_n hx hb dX4_isNumber_0 rfl (lv_at hl 0 rfl) ?_
  refine lv_ldc (v := (-1000000)) hx hb hown (hts (.constant RX4 55 (-1000000)) (by decide +kernel)) dX4_isNumber_1 ?_
  refine lv_ldc (v := (1000000)) hx hb hown (hts (.constant RX4 56 (1000000)) (by decide +kernel)) dX4_isNumber_3 ?_
  refine nv_eqi (y := nI 1000000) (by decide) ?_
  refine kc_i (va_runS (As := [.int x9, .int (-1000000), .int (nI 1000000)]) (rest := []) ⟨hx, hb, hml, hown, hts⟩ (c_X4_isIn l G B (μ) x9 ((-1000000)) (nI 1000000)) (va_cwS 3 hts gX4_isNumber_X4_isIn rfl rfl rfl (by decide +kernel) ⟨Nat.le_of_ble_eq_true rfl, Nat.le_of_ble_eq_true rfl⟩) ⟨KW.blind, fun U9 hU9 hW9 => ⟨rfl, KW.pre hBs hKK hS hP U9 hU9 hW9⟩⟩ rfl rfl hl.1 rfl (lv_room (Nat.le_of_ble_eq_true rfl)) dX4_isNumber_5 ⟨(Nat.le_of_ble_eq_true rfl), (Nat.le_of_ble_eq_true rfl)⟩) hS (fun r5 m5 H locs hq9 hP hz9 hS => ?_)
  obtain ⟨he9, hy5⟩ := hq9
  rw [he9] at hP
  rw [hQ]
  exact W.zret (v := r5) (ty := .boolean) hx hb hr (zb_r (yn_b hy5)) (fun t99 ht99 hW99 => ⟨⟨r5, μ, rfl, (⟨rfl, yn_iff hy5 isI_N⟩), by show mw _ _ _ _ t99.heap; rw [ht99]; exact hP⟩, hS.F ht99⟩) hS.2.2 dX4_isNumber_8

abbrev rm_X4_minus : Room := { frames := 0, cells := 0, slots := 0, locals := 0 }
set_option maxHeartbeats 4000000 in
set_option maxRecDepth 100000 in
theorem c_X4_minus (l : Launch) (G : GG) (B : Nat) (μ : mp) (p9 : Nat) (hp9 : p9 < 12) : Met l yX4_minus wsX4_minus rm_X4_minus (va_Pc [.int (nI p9)] (KW G B μ)) (va_Qi (fun r μ2 => μ2 = μ ∧ r = nI (ne p9)) (BB G B) (fun q => B ≤ q)) 0 0 (fun q => B ≤ q) := by
  refine Met.ofW (cc := cX4_minus) (maxL := 1) (ret := (some .int)) (by decide) rfl ?_
  intro p e s m args below meth c s₁ B9 hml hv
  obtain ⟨hargs, hBs, hP, hKK⟩ := hv
  have hx := B9.exec
  have hb := B9.bytes
  have hr := B9.returns
  have hts := atoms_spec (ws := wsX4_minus) B9.pre
  have hown : s.vm.findClass RX4 = some m.cls := findClass_of_methodNamed B9.named
  have hlocks := B9.notSynchronized
  have hK := hKK.k
  have hS : va_S (fun q => B ≤ q) s.heap s.heap [] := va_S.rf
  obtain ⟨Q, hQ⟩ : ∃ Q, Q = MQ below (va_Qi (fun r μ2 => μ2 = μ ∧ r = nI (ne p9)) (BB G B) (fun q => B ≤ q)) args s 0 0 (fun q => B ≤ q) := ⟨_, rfl⟩
  rw [← hQ]
  have hl := lv_entry ([.int (nI p9)]) (n := 1) (Nat.le_of_ble_eq_true rfl)
  have he9 : entryFrame m args 1 = entryFrame m ([.int (nI p9)] : List Value).toArray 1 := by rw [hargs]
  rw [he9, lg_entry_eq]
  generalize (lg_sl ([.int (nI p9)]) ++ List.replicate (1 - (lg_sl ([.int (nI p9)])).length) Slot.unset).toArray = ls at hl ⊢
  have hl : lv_has ls 1 [(0, .int (nI p9))] := hl
  refine lv_iload_n hx hb dX4_minus_0 rfl (lv_at hl 0 rfl) ?_
  refine lv_iconst (v := nI 2) hx hb dX4_minus_1 (by decide) ?_
  refine nv_irem hx hb (by omega) (by decide) (by decide) dX4_minus_2 ?_
  refine lv_if_ne (tgt := 12) hx hb dX4_minus_3 (by decide) (fun hc3 => ?_) (fun hc3 => ?_)
  · have hc3 : ¬ p9 % 2 = 0 := fun h9 => hc3 (by rw [h9]; rfl)
    refine lv_iload_n hx hb dX4_minus_12 rfl (lv_at hl 0 rfl) ?_
    refine lv_iconst (v := nI 1) hx hb dX4_minus_13 (by decide) ?_
    refine nv_isub hx hb (by omega) dX4_minus_14 ?_
    rw [hQ]
    exact W.iret (v := nI (p9 - 1)) hx hb hr (fun t99 ht99 hW99 => ⟨⟨nI (p9 - 1), μ, rfl, (⟨rfl, by unfold ne; first | rw [if_pos (by omega)] | rw [if_neg (by omega)]⟩), by show mw _ _ _ _ t99.heap; rw [ht99]; exact hP⟩, hS.F ht99⟩) hS.2.2 dX4_minus_15
  · have hc3 : p9 % 2 = 0 := by rcases (show p9 % 2 = 0 ∨ p9 % 2 = 1 by omega) with h9 | h9; exact h9; rw [h9] at hc3; exact absurd hc3 (by decide)
    refine lv_iload_n hx hb dX4_minus_6 rfl (lv_at hl 0 rfl) ?_
    refine lv_iconst (v := nI 1) hx hb dX4_minus_7 (by decide) ?_
    refine nv_iadd hx hb dX4_minus_8 ?_
    refine lv_goto (tgt := 15) hx hb dX4_minus_9 (by decide) ?_
    rw [hQ]
    exact W.iret (v := nI (p9 + 1)) hx hb hr (fun t99 ht99 hW99 => ⟨⟨nI (p9 + 1), μ, rfl, (⟨rfl, by unfold ne; first | rw [if_pos (by omega)] | rw [if_neg (by omega)]⟩), by show mw _ _ _ _ t99.heap; rw [ht99]; exact hP⟩, hS.F ht99⟩) hS.2.2 dX4_minus_15

abbrev rm_X4_sum : Room := { frames := 0, cells := 0, slots := 0, locals := 0 }
set_option maxHeartbeats 4000000 in
set_option maxRecDepth 100000 in
theorem c_X4_sum (l : Launch) (G : GG) (B : Nat) (μ : mp) (x9 y9 : Int64) : Met l yX4_sum wsX4_sum rm_X4_sum (va_Pc [.long x9, .long y9] (KW G B μ)) (va_Ql (fun r μ2 => μ2 = μ ∧ r = sm x9 y9) (BB G B) (fun q => B ≤ q)) 0 0 (fun q => B ≤ q) := by
  refine Met.ofW (cc := cX4_sum) (maxL := 4) (ret := (some .long)) (by decide) rfl ?_
  intro p e s m args below meth c s₁ B9 hml hv
  obtain ⟨hargs, hBs, hP, hKK⟩ := hv
  have hx := B9.exec
  have hb := B9.bytes
  have hr := B9.returns
  have hts := atoms_spec (ws := wsX4_sum) B9.pre
  have hown : s.vm.findClass RX4 = some m.cls := findClass_of_methodNamed B9.named
  have hlocks := B9.notSynchronized
  have hK := hKK.k
  have hS : va_S (fun q => B ≤ q) s.heap s.heap [] := va_S.rf
  obtain ⟨Q, hQ⟩ : ∃ Q, Q = MQ below (va_Ql (fun r μ2 => μ2 = μ ∧ r = sm x9 y9) (BB G B) (fun q => B ≤ q)) args s 0 0 (fun q => B ≤ q) := ⟨_, rfl⟩
  rw [← hQ]
  have hl := lv_entry ([.long x9, .long y9]) (n := 4) (Nat.le_of_ble_eq_true rfl)
  have he9 : entryFrame m args 4 = entryFrame m ([.long x9, .long y9] : List Value).toArray 4 := by rw [hargs]
  rw [he9, lg_entry_eq]
  generalize (lg_sl ([.long x9, .long y9]) ++ List.replicate (4 - (lg_sl ([.long x9, .long y9])).length) Slot.unset).toArray = ls at hl ⊢
  have hl : lv_has ls 4 [(0, .long x9), (2, .long y9)] := hl
  refine lv_lload_n hx hb dX4_sum_0 rfl (lv_at hl 0 rfl) ?_
  refine lv_ldc2 (v := (9223372036854775807)) hx hb hown (hts (.constantLong RX4 45 (9223372036854775807)) (by decide +kernel)) dX4_sum_1 ?_
  refine nl_if_eq (tgt := 16) hx hb dX4_sum_4 dX4_sum_5 (by decide) (fun hc4 => ?_) (fun hc4 => ?_)
  · refine lv_ldc2 (v := (9223372036854775807)) hx hb hown (hts (.constantLong RX4 45 (9223372036854775807)) (by decide +kernel)) dX4_sum_16 ?_
    refine lv_goto (tgt := 25) hx hb dX4_sum_19 (by decide) ?_
    rw [hQ]
    exact W.lret (v := 9223372036854775807) hx hb hr (fun t99 ht99 hW99 => ⟨⟨9223372036854775807, μ, rfl, (⟨rfl, by unfold sm; first | rw [if_pos (Or.inl hc4)] | rw [if_pos (Or.inr hc12)] | rw [if_neg (fun h9 => h9.elim hc4 hc12)]⟩), by show mw _ _ _ _ t99.heap; rw [ht99]; exact hP⟩, hS.F ht99⟩) hS.2.2 dX4_sum_25
  · refine lv_lload_n hx hb dX4_sum_8 rfl (lv_at hl 1 rfl) ?_
    refine lv_ldc2 (v := (9223372036854775807)) hx hb hown (hts (.constantLong RX4 45 (9223372036854775807)) (by decide +kernel)) dX4_sum_9 ?_
    refine nl_if_ne (tgt := 22) hx hb dX4_sum_12 dX4_sum_13 (by decide) (fun hc12 => ?_) (fun hc12 => ?_)
    · refine lv_lload_n hx hb dX4_sum_22 rfl (lv_at hl 0 rfl) ?_
      refine lv_lload_n hx hb dX4_sum_23 rfl (lv_at hl 1 rfl) ?_
      refine lv_ladd hx hb dX4_sum_24 ?_
      rw [hQ]
      exact W.lret (v := x9 + y9) hx hb hr (fun t99 ht99 hW99 => ⟨⟨x9 + y9, μ, rfl, (⟨rfl, by unfold sm; first | rw [if_pos (Or.inl hc4)] | rw [if_pos (Or.inr hc12)] | rw [if_neg (fun h9 => h9.elim hc4 hc12)]⟩), by show mw _ _ _ _ t99.heap; rw [ht99]; exact hP⟩, hS.F ht99⟩) hS.2.2 dX4_sum_25
    · refine lv_ldc2 (v := (9223372036854775807)) hx hb hown (hts (.constantLong RX4 45 (9223372036854775807)) (by decide +kernel)) dX4_sum_16 ?_
      refine lv_goto (tgt := 25) hx hb dX4_sum_19 (by decide) ?_
      rw [hQ]
      exact W.lret (v := 9223372036854775807) hx hb hr (fun t99 ht99 hW99 => ⟨⟨9223372036854775807, μ, rfl, (⟨rfl, by unfold sm; first | rw [if_pos (Or.inl hc4)] | rw [if_pos (Or.inr hc12)] | rw [if_neg (fun h9 => h9.elim hc4 hc12)]⟩), by show mw _ _ _ _ t99.heap; rw [ht99]; exact hP⟩, hS.F ht99⟩) hS.2.2 dX4_sum_25

abbrev rm_X4_get : Room := { frames := 0, cells := 0, slots := 0, locals := 0 }
set_option maxHeartbeats 4000000 in
set_option maxRecDepth 100000 in
theorem c_X4_get (l : Launch) (G : GG) (B : Nat) (μ : mp) (md ab av c1 c2 c3 c4 c5 c6 c7 c8 c9 fl st : Nat) (f : Nat → Int64) (v : Nat → Int32) (s9 p9 q9 : Nat) (hm : μ md = some (.inr (4, [.int (nI fl), .ref ab, .ref av, .int (nI st), .ref c1, .ref c2, .ref c3, .ref c4, .ref c5, .ref c6, .ref c7, .ref c8, .ref c9]))) (hab : μ ab = some (.inl (G.2 0, 3744, .inr (.inl f)))) (hav : μ av = some (.inl (G.2 2, 26, .inl v))) (hs9 : s9 < 26) (hp9 : p9 < 12) (hq9a : q9 < 12) : Met l yX4_get wsX4_get rm_X4_get (va_Pc [.ref md, .int (nI s9), .int (nI p9), .int (nI q9)] (KW G B μ)) (va_Ql (fun r μ2 => μ2 = μ ∧ r = f (144 * s9 + 12 * p9 + q9)) (BB G B) (fun q => B ≤ q)) 0 0 (fun q => B ≤ q) := by
  refine Met.ofW (cc := cX4_get) (maxL := 4) (ret := (some .long)) (by decide) rfl ?_
  intro p e s m args below meth c s₁ B9 hml hv
  obtain ⟨hargs, hBs, hP, hKK⟩ := hv
  have hx := B9.exec
  have hb := B9.bytes
  have hr := B9.returns
  have hts := atoms_spec (ws := wsX4_get) B9.pre
  have hown : s.vm.findClass RX4 = some m.cls := findClass_of_methodNamed B9.named
  have hlocks := B9.notSynchronized
  have hK := hKK.k
  have hS : va_S (fun q => B ≤ q) s.heap s.heap [] := va_S.rf
  obtain ⟨Q, hQ⟩ : ∃ Q, Q = MQ below (va_Ql (fun r μ2 => μ2 = μ ∧ r = f (144 * s9 + 12 * p9 + q9)) (BB G B) (fun q => B ≤ q)) args s 0 0 (fun q => B ≤ q) := ⟨_, rfl⟩
  rw [← hQ]
  have ne0_1 : md ≠ ab := mp_ne hm hab (by simp)
  have ne0_2 : md ≠ av := mp_ne hm hav (by simp)
  have in_X4_get_X4 : ∀ w ∈ wsX40, w ∈ wsX4_get := by decide +kernel
  have hl := lv_entry ([.ref md, .int (nI s9), .int (nI p9), .int (nI q9)]) (n := 4) (Nat.le_of_ble_eq_true rfl)
  have he9 : entryFrame m args 4 = entryFrame m ([.ref md, .int (nI s9), .int (nI p9), .int (nI q9)] : List Value).toArray 4 := by rw [hargs]
  rw [he9, lg_entry_eq]
  generalize (lg_sl ([.ref md, .int (nI s9), .int (nI p9), .int (nI q9)]) ++ List.replicate (4 - (lg_sl ([.ref md, .int (nI s9), .int (nI p9), .int (nI q9)])).length) Slot.unset).toArray = ls at hl ⊢
  have hl : lv_has ls 4 [(0, .ref md), (1, .int (nI s9)), (2, .int (nI p9)), (3, .int (nI q9))] := hl
  refine lv_aload_n hx hb dX4_get_0 rfl (lv_at hl 0 rfl) ?_
  refine mw_get (C := RX4) (T := TX4) (N := 13) hx hb hts in_X4_get_X4 hown hK hP (hm) rfl 1 (by decide) (hts (.fieldLink RX4 7 "OctagonDeskModel" "bound" "[J") (by decide +kernel)) (fun _ h9 => h9) rfl dX4_get_1 ?_
  refine lv_sipush (v := nI 144) hx hb dX4_get_4 (by decide) ?_
  refine lv_iload_n hx hb dX4_get_7 rfl (lv_at hl 1 rfl) ?_
  refine nv_imul hx hb dX4_get_8 ?_
  refine lv_bipush (v := nI 12) hx hb dX4_get_9 (by decide) ?_
  refine lv_iload_n hx hb dX4_get_11 rfl (lv_at hl 2 rfl) ?_
  refine nv_imul hx hb dX4_get_12 ?_
  refine nv_iadd hx hb dX4_get_13 ?_
  refine lv_iload_n hx hb dX4_get_14 rfl (lv_at hl 3 rfl) ?_
  refine nv_iadd hx hb dX4_get_15 ?_
  refine mw_lald hx hb hK hP 0 (hab) rfl (by omega) (by omega) dX4_get_16 ?_
  rw [hQ]
  exact W.lret (v := f (((144 * s9) + (12 * p9)) + q9)) hx hb hr (fun t99 ht99 hW99 => ⟨⟨f (((144 * s9) + (12 * p9)) + q9), μ, rfl, (⟨rfl, rfl⟩), by show mw _ _ _ _ t99.heap; rw [ht99]; exact hP⟩, hS.F ht99⟩) hS.2.2 dX4_get_17

abbrev rm_X4_set : Room := { frames := 0, cells := 0, slots := 0, locals := 0 }
set_option maxHeartbeats 4000000 in
set_option maxRecDepth 100000 in
theorem c_X4_set (l : Launch) (G : GG) (B : Nat) (μ : mp) (md ab av c1 c2 c3 c4 c5 c6 c7 c8 c9 fl st : Nat) (f : Nat → Int64) (v : Nat → Int32) (s9 p9 q9 : Nat) (x9 : Int64) (hm : μ md = some (.inr (4, [.int (nI fl), .ref ab, .ref av, .int (nI st), .ref c1, .ref c2, .ref c3, .ref c4, .ref c5, .ref c6, .ref c7, .ref c8, .ref c9]))) (hab : μ ab = some (.inl (G.2 0, 3744, .inr (.inl f)))) (hav : μ av = some (.inl (G.2 2, 26, .inl v))) (hs9 : s9 < 26) (hp9 : p9 < 12) (hq9a : q9 < 12) : Met l yX4_set wsX4_set rm_X4_set (va_Pc [.ref md, .int (nI s9), .int (nI p9), .int (nI q9), .long x9] (KW G B μ)) (va_Qv (fun μ2 => μ2 = mu μ ab (.inl (G.2 0, 3744, .inr (.inl (stf f s9 p9 q9 x9))))) (BB G B) (fun q => B ≤ q)) 0 0 (fun q => B ≤ q) := by
  refine Met.ofW (cc := cX4_set) (maxL := 6) (ret := none) (by decide) rfl ?_
  intro p e s m args below meth c s₁ B9 hml hv
  obtain ⟨hargs, hBs, hP, hKK⟩ := hv
  have hx := B9.exec
  have hb := B9.bytes
  have hr := B9.returns
  have hts := atoms_spec (ws := wsX4_set) B9.pre
  have hown : s.vm.findClass RX4 = some m.cls := findClass_of_methodNamed B9.named
  have hlocks := B9.notSynchronized
  have hK := hKK.k
  have hS : va_S (fun q => B ≤ q) s.heap s.heap [] := va_S.rf
  obtain ⟨Q, hQ⟩ : ∃ Q, Q = MQ below (va_Qv (fun μ2 => μ2 = mu μ ab (.inl (G.2 0, 3744, .inr (.inl (stf f s9 p9 q9 x9))))) (BB G B) (fun q => B ≤ q)) args s 0 0 (fun q => B ≤ q) := ⟨_, rfl⟩
  rw [← hQ]
  have ne0_1 : md ≠ ab := mp_ne hm hab (by simp)
  have ne0_2 : md ≠ av := mp_ne hm hav (by simp)
  have in_X4_set_X4 : ∀ w ∈ wsX40, w ∈ wsX4_set := by decide +kernel
  have hP : mw G.1 vwCl B (mu μ ab (.inl (G.2 0, 3744, .inr (.inl f)))) s.heap := mw_eq (mu_i hab).symm hP
  have hl := lv_entry ([.ref md, .int (nI s9), .int (nI p9), .int (nI q9), .long x9]) (n := 6) (Nat.le_of_ble_eq_true rfl)
  have he9 : entryFrame m args 6 = entryFrame m ([.ref md, .int (nI s9), .int (nI p9), .int (nI q9), .long x9] : List Value).toArray 6 := by rw [hargs]
  rw [he9, lg_entry_eq]
  generalize (lg_sl ([.ref md, .int (nI s9), .int (nI p9), .int (nI q9), .long x9]) ++ List.replicate (6 - (lg_sl ([.ref md, .int (nI s9), .int (nI p9), .int (nI q9), .long x9])).length) Slot.unset).toArray = ls at hl ⊢
  have hl : lv_has ls 6 [(0, .ref md), (1, .int (nI s9)), (2, .int (nI p9)), (3, .int (nI q9)), (4, .long x9)] := hl
  refine lv_aload_n hx hb dX4_set_0 rfl (lv_at hl 0 rfl) ?_
  refine mw_get (C := RX4) (T := TX4) (N := 13) hx hb hts in_X4_set_X4 hown hK hP ((mu_n ne0_1).trans (hm)) rfl 1 (by decide) (hts (.fieldLink RX4 7 "OctagonDeskModel" "bound" "[J") (by decide +kernel)) (fun _ h9 => h9) rfl dX4_set_1 ?_
  refine lv_sipush (v := nI 144) hx hb dX4_set_4 (by decide) ?_
  refine lv_iload_n hx hb dX4_set_7 rfl (lv_at hl 1 rfl) ?_
  refine nv_imul hx hb dX4_set_8 ?_
  refine lv_bipush (v := nI 12) hx hb dX4_set_9 (by decide) ?_
  refine lv_iload_n hx hb dX4_set_11 rfl (lv_at hl 2 rfl) ?_
  refine nv_imul hx hb dX4_set_12 ?_
  refine nv_iadd hx hb dX4_set_13 ?_
  refine lv_iload_n hx hb dX4_set_14 rfl (lv_at hl 3 rfl) ?_
  refine nv_iadd hx hb dX4_set_15 ?_
  refine lv_lload hx hb dX4_set_16 (lv_at hl 4 rfl) ?_
  refine mw_last hx hb hK hP hS 0 (mu_s _ _ _) rfl (by omega) (by omega) dX4_set_18 (fun H locs hP hS => ?_)
  have hP : mw G.1 vwCl B (mu μ ab (.inl (G.2 0, 3744, .inr (.inl (vp_updL f (((144 * s9) + (12 * p9)) + q9) x9))))) _ := mw_eq (mu_u _ _ _ _) hP
  refine lv_aload_n hx hb dX4_set_19 rfl (lv_at hl 0 rfl) ?_
  refine mw_get (C := RX4) (T := TX4) (N := 13) hx hb hts in_X4_set_X4 hown hK hP ((mu_n ne0_1).trans (hm)) rfl 1 (by decide) (hts (.fieldLink RX4 7 "OctagonDeskModel" "bound" "[J") (by decide +kernel)) (fun _ h9 => h9) rfl dX4_set_20 ?_
  refine lv_sipush (v := nI 144) hx hb dX4_set_23 (by decide) ?_
  refine lv_iload_n hx hb dX4_set_26 rfl (lv_at hl 1 rfl) ?_
  refine nv_imul hx hb dX4_set_27 ?_
  refine lv_bipush (v := nI 12) hx hb dX4_set_28 (by decide) ?_
  refine lv_iload_n hx hb dX4_set_30 rfl (lv_at hl 3 rfl) ?_
  refine nv_imul hx hb dX4_set_31 ?_
  refine nv_iadd hx hb dX4_set_32 ?_
  refine lv_iload_n hx hb dX4_set_33 rfl (lv_at hl 2 rfl) ?_
  refine nv_iadd hx hb dX4_set_34 ?_
  refine lv_lload hx hb dX4_set_35 (lv_at hl 4 rfl) ?_
  refine mw_last hx hb hK hP hS 0 (mu_s _ _ _) rfl (by omega) (by omega) dX4_set_37 (fun H locs hP hS => ?_)
  have hP : mw G.1 vwCl B (mu μ ab (.inl (G.2 0, 3744, .inr (.inl (vp_updL (vp_updL f (((144 * s9) + (12 * p9)) + q9) x9) (((144 * s9) + (12 * q9)) + p9) x9))))) _ := mw_eq (mu_u _ _ _ _) hP
  rw [hQ]
  exact W.vret hx hb hr (fun t99 ht99 hW99 => ⟨⟨mu μ ab (.inl (G.2 0, 3744, .inr (.inl (vp_updL (vp_updL f (((144 * s9) + (12 * p9)) + q9) x9) (((144 * s9) + (12 * q9)) + p9) x9)))), rfl, (rfl), by show mw _ _ _ _ t99.heap; rw [ht99]; exact hP⟩, hS.F ht99⟩) hS.2.2 dX4_set_38

abbrev rm_X4_sumOf : Room := { frames := 1, cells := 0, slots := 0, locals := 23 }
set_option maxHeartbeats 4000000 in
set_option maxRecDepth 100000 in
theorem c_X4_sumOf (l : Launch) (G : GG) (B : Nat) (μ : mp) (md ab av c1 c2 c3 c4 c5 c6 c7 c8 c9 fl st : Nat) (f : Nat → Int64) (v : Nat → Int32) (s9 p9 q9 : Nat) (hm : μ md = some (.inr (4, [.int (nI fl), .ref ab, .ref av, .int (nI st), .ref c1, .ref c2, .ref c3, .ref c4, .ref c5, .ref c6, .ref c7, .ref c8, .ref c9]))) (hab : μ ab = some (.inl (G.2 0, 3744, .inr (.inl f)))) (hav : μ av = some (.inl (G.2 2, 26, .inl v))) (hs9 : s9 < 26) (hp9 : p9 < 12) (hq9a : q9 < 12) : Met l yX4_sumOf wsX4_sumOf rm_X4_sumOf (va_Pc [.ref md, .int (nI s9), .int (nI p9), .int (nI q9)] (KW G B μ)) (va_Ql (fun r μ2 => μ2 = μ ∧ r = so f s9 p9 q9) (BB G B) (fun q => B ≤ q)) 0 0 (fun q => B ≤ q) := by
  refine Met.ofW (cc := cX4_sumOf) (maxL := 6) (ret := (some .long)) (by decide) rfl ?_
  intro p e s m args below meth c s₁ B9 hml hv
  obtain ⟨hargs, hBs, hP, hKK⟩ := hv
  have hx := B9.exec
  have hb := B9.bytes
  have hr := B9.returns
  have hts := atoms_spec (ws := wsX4_sumOf) B9.pre
  have hown : s.vm.findClass RX4 = some m.cls := findClass_of_methodNamed B9.named
  have hlocks := B9.notSynchronized
  have hK := hKK.k
  have hS : va_S (fun q => B ≤ q) s.heap s.heap [] := va_S.rf
  obtain ⟨Q, hQ⟩ : ∃ Q, Q = MQ below (va_Ql (fun r μ2 => μ2 = μ ∧ r = so f s9 p9 q9) (BB G B) (fun q => B ≤ q)) args s 0 0 (fun q => B ≤ q) := ⟨_, rfl⟩
  rw [← hQ]
  have ne0_1 : md ≠ ab := mp_ne hm hab (by simp)
  have ne0_2 : md ≠ av := mp_ne hm hav (by simp)
  have hl := lv_entry ([.ref md, .int (nI s9), .int (nI p9), .int (nI q9)]) (n := 6) (Nat.le_of_ble_eq_true rfl)
  have he9 : entryFrame m args 6 = entryFrame m ([.ref md, .int (nI s9), .int (nI p9), .int (nI q9)] : List Value).toArray 6 := by rw [hargs]
  rw [he9, lg_entry_eq]
  generalize (lg_sl ([.ref md, .int (nI s9), .int (nI p9), .int (nI q9)]) ++ List.replicate (6 - (lg_sl ([.ref md, .int (nI s9), .int (nI p9), .int (nI q9)])).length) Slot.unset).toArray = ls at hl ⊢
  have hl : lv_has ls 6 [(0, .ref md), (1, .int (nI s9)), (2, .int (nI p9)), (3, .int (nI q9))] := hl
  refine lv_iload_n hx hb dX4_sumOf_0 rfl (lv_at hl 3 rfl) ?_
  refine lv_iload_n hx hb dX4_sumOf_1 rfl (lv_at hl 2 rfl) ?_
  refine kc_i (va_runS (As := [.int (nI p9)]) (rest := [.int (nI q9)]) ⟨hx, hb, hml, hown, hts⟩ (c_X4_minus l G B (μ) p9 (by omega)) (va_cwS 1 hts gX4_sumOf_X4_minus rfl rfl rfl (by decide +kernel) ⟨Nat.le_of_ble_eq_true rfl, Nat.le_of_ble_eq_true rfl⟩) ⟨KW.blind, fun U9 hU9 hW9 => ⟨rfl, KW.pre hBs hKK hS hP U9 hU9 hW9⟩⟩ rfl rfl hl.1 rfl (lv_room (Nat.le_of_ble_eq_true rfl)) dX4_sumOf_2 ⟨(Nat.le_of_ble_eq_true rfl), (Nat.le_of_ble_eq_true rfl)⟩) hS (fun r2 m2 H locs hq9 hP hz9 hS => ?_)
  obtain ⟨he9, rfl⟩ := hq9
  rw [he9] at hP
  have hne2 := ne_lt (p := p9) (by omega)
  refine nv_icmp_ne (tgt := 10) hx hb (by omega) (by omega) dX4_sumOf_5 (by decide) (fun hc5 => ?_) (fun hc5 => ?_)
  · refine lv_aload_n hx hb dX4_sumOf_10 rfl (lv_at hl 0 rfl) ?_
    refine lv_iload_n hx hb dX4_sumOf_11 rfl (lv_at hl 1 rfl) ?_
    refine lv_iload_n hx hb dX4_sumOf_12 rfl (lv_at hl 2 rfl) ?_
    refine lv_iload_n hx hb dX4_sumOf_13 rfl (lv_at hl 3 rfl) ?_
    refine kc_l (va_runV (As := [.int (nI s9), .int (nI p9), .int (nI q9)]) (rest := []) ⟨hx, hb, hml, hown, hts⟩ (c_X4_get l G B (μ) md ab av c1 c2 c3 c4 c5 c6 c7 c8 c9 fl st f v s9 p9 q9 (hm) (hab) (hav) (by omega) (by omega) (by omega)) (cwV 3 hts gX4_sumOf_X4_get rfl rfl rfl (by decide +kernel) ⟨Nat.le_of_ble_eq_true rfl, Nat.le_of_ble_eq_true rfl⟩) ⟨KW.blind, hP.recv hK rfl (hm), fun U9 hU9 hW9 => ⟨rfl, KW.pre hBs hKK hS hP U9 hU9 hW9⟩⟩ rfl rfl hl.1 rfl (lv_room (Nat.le_of_ble_eq_true rfl)) dX4_sumOf_14 ⟨(Nat.le_of_ble_eq_true rfl), (Nat.le_of_ble_eq_true rfl)⟩) hS (fun r14 m14 H locs hq9 hP hz9 hS => ?_)
    obtain ⟨he9, hr14⟩ := hq9
    rw [he9] at hP
    refine lv_lstore (lv' := [(4, .long r14), (0, .ref md), (1, .int (nI s9)), (2, .int (nI p9)), (3, .int (nI q9))]) hx hb dX4_sumOf_17 hl (by decide) rfl (fun ls hl => ?_)
    refine lv_iload_n hx hb dX4_sumOf_19 rfl (lv_at hl 3 rfl) ?_
    refine lv_iload_n hx hb dX4_sumOf_20 rfl (lv_at hl 4 rfl) ?_
    refine nv_icmp_ne (tgt := 34) hx hb (by omega) (by omega) dX4_sumOf_21 (by decide) (fun hc21 => ?_) (fun hc21 => ?_)
    · refine lv_lload hx hb dX4_sumOf_34 (lv_at hl 0 rfl) ?_
      rw [hQ]
      exact W.lret (v := r14) hx hb hr (fun t99 ht99 hW99 => ⟨⟨r14, μ, rfl, (⟨rfl, by unfold so; rw [if_neg hc5]; first | rw [if_pos hc21, hr28, hr14] | rw [if_neg hc21, hr14]⟩), by show mw _ _ _ _ t99.heap; rw [ht99]; exact hP⟩, hS.F ht99⟩) hS.2.2 dX4_sumOf_36
    · refine lv_lload hx hb dX4_sumOf_24 (lv_at hl 0 rfl) ?_
      refine lv_lload hx hb dX4_sumOf_26 (lv_at hl 0 rfl) ?_
      refine kc_l (va_runS (As := [.long r14, .long r14]) (rest := []) ⟨hx, hb, hml, hown, hts⟩ (c_X4_sum l G B (μ) r14 r14) (va_cwS 2 hts gX4_sumOf_X4_sum rfl rfl rfl (by decide +kernel) ⟨Nat.le_of_ble_eq_true rfl, Nat.le_of_ble_eq_true rfl⟩) ⟨KW.blind, fun U9 hU9 hW9 => ⟨rfl, KW.pre hBs hKK hS hP U9 hU9 hW9⟩⟩ rfl rfl hl.1 rfl (lv_room (Nat.le_of_ble_eq_true rfl)) dX4_sumOf_28 ⟨(Nat.le_of_ble_eq_true rfl), (Nat.le_of_ble_eq_true rfl)⟩) hS (fun r28 m28 H locs hq9 hP hz9 hS => ?_)
      obtain ⟨he9, hr28⟩ := hq9
      rw [he9] at hP
      refine lv_goto (tgt := 36) hx hb dX4_sumOf_31 (by decide) ?_
      rw [hQ]
      exact W.lret (v := r28) hx hb hr (fun t99 ht99 hW99 => ⟨⟨r28, μ, rfl, (⟨rfl, by unfold so; rw [if_neg hc5]; first | rw [if_pos hc21, hr28, hr14] | rw [if_neg hc21, hr14]⟩), by show mw _ _ _ _ t99.heap; rw [ht99]; exact hP⟩, hS.F ht99⟩) hS.2.2 dX4_sumOf_36
  · refine lv_lconst (v := 0) hx hb dX4_sumOf_8 (by decide) ?_
    rw [hQ]
    exact W.lret (v := 0) hx hb hr (fun t99 ht99 hW99 => ⟨⟨0, μ, rfl, (⟨rfl, by unfold so; rw [if_pos hc5]⟩), by show mw _ _ _ _ t99.heap; rw [ht99]; exact hP⟩, hS.F ht99⟩) hS.2.2 dX4_sumOf_9

abbrev rm_X4_lessen : Room := { frames := 1, cells := 0, slots := 0, locals := 25 }
abbrev rm_X4_close : Room := { frames := 2, cells := 0, slots := 0, locals := 52 }
abbrev rm_X4_load : Room := { frames := 0, cells := 0, slots := 0, locals := 0 }
set_option maxHeartbeats 4000000 in
set_option maxRecDepth 100000 in
theorem c_X4_load (l : Launch) (G : GG) (B : Nat) (μ : mp) (md ab av c1 c2 c3 c4 c5 c6 c7 c8 c9 fl st : Nat) (f : Nat → Int64) (v : Nat → Int32) (t9 a9 : Nat) (hm : μ md = some (.inr (4, [.int (nI fl), .ref ab, .ref av, .int (nI st), .ref c1, .ref c2, .ref c3, .ref c4, .ref c5, .ref c6, .ref c7, .ref c8, .ref c9]))) (hab : μ ab = some (.inl (G.2 0, 3744, .inr (.inl f)))) (hav : μ av = some (.inl (G.2 2, 26, .inl v))) (ht9 : t9 < 26) (ha9 : a9 < 26) (hvb : v a9 = 0 ∨ v a9 = 1) : Met l yX4_load wsX4_load rm_X4_load (va_Pc [.ref md, .int (nI t9), .int (nI a9)] (KW G B μ)) (va_Qv (fun μ2 => ∃ g9 : Nat → Int64, μ2 = mu (mu μ ab (.inl (G.2 0, 3744, .inr (.inl g9)))) av (.inl (G.2 2, 26, .inl (upd v t9 (v a9)))) ∧ Ld f g9 t9 a9 144) (BB G B) (fun q => B ≤ q)) 0 0 (fun q => B ≤ q) := by
  refine Met.ofW (cc := cX4_load) (maxL := 4) (ret := none) (by decide) rfl ?_
  intro p e s m args below meth c s₁ B9 hml hv
  obtain ⟨hargs, hBs, hP, hKK⟩ := hv
  have hx := B9.exec
  have hb := B9.bytes
  have hr := B9.returns
  have hts := atoms_spec (ws := wsX4_load) B9.pre
  have hown : s.vm.findClass RX4 = some m.cls := findClass_of_methodNamed B9.named
  have hlocks := B9.notSynchronized
  have hK := hKK.k
  have hS : va_S (fun q => B ≤ q) s.heap s.heap [] := va_S.rf
  obtain ⟨Q, hQ⟩ : ∃ Q, Q = MQ below (va_Qv (fun μ2 => ∃ g9 : Nat → Int64, μ2 = mu (mu μ ab (.inl (G.2 0, 3744, .inr (.inl g9)))) av (.inl (G.2 2, 26, .inl (upd v t9 (v a9)))) ∧ Ld f g9 t9 a9 144) (BB G B) (fun q => B ≤ q)) args s 0 0 (fun q => B ≤ q) := ⟨_, rfl⟩
  rw [← hQ]
  have ne0_1 : md ≠ ab := mp_ne hm hab (by simp)
  have ne0_2 : md ≠ av := mp_ne hm hav (by simp)
  have in_X4_load_X4 : ∀ w ∈ wsX40, w ∈ wsX4_load := by decide +kernel
  have hP : mw G.1 vwCl B (mu (mu μ ab (.inl (G.2 0, 3744, .inr (.inl f)))) av (.inl (G.2 2, 26, .inl v))) s.heap := mw_eq ((congrArg (fun z => mu z av (.inl (G.2 2, 26, .inl v))) (mu_i hab)).trans (mu_i hav)).symm hP
  have L2 : ∀ (N2 : Nat) (k1 : Nat) (g1 : Nat → Int64) (hN2 : 144 - k1 < N2) (hk1 : k1 ≤ 144) (hL : Ld f g1 t9 a9 k1), ∀ (H : Heap) (locs : List Loc), mw G.1 vwCl B (mu (mu μ ab (.inl (G.2 0, 3744, .inr (.inl g1)))) av (.inl (G.2 2, 26, .inl v))) H → va_S (fun q => B ≤ q) s.heap H locs → ∀ ls : Array Slot, lv_has ls 4 [(0, .ref md), (1, .int (nI t9)), (2, .int (nI a9)), (3, .int (nI k1))] → W p l e rm_X4_load s m args below meth c H locs 0 0 Q (F0 m 2 ls []) := by
    intro N2
    induction N2 with
    | zero => intro k1 g1 hN2; exact absurd hN2 (Nat.not_lt_zero _)
    | succ N2 ih2 =>
      intro k1 g1 hN2 hk1 hL H locs hP hS ls hl
      refine lv_iload_n hx hb dX4_load_2 rfl (lv_at hl 3 rfl) ?_
      refine lv_sipush (v := nI 144) hx hb dX4_load_3 (by decide) ?_
      refine nv_icmp_ge (tgt := 39) hx hb (by omega) (by omega) dX4_load_6 (by decide) (fun hc6 => ?_) (fun hc6 => ?_)
      · refine lv_aload_n hx hb dX4_load_39 rfl (lv_at hl 0 rfl) ?_
        refine mw_get (C := RX4) (T := TX4) (N := 13) hx hb hts in_X4_load_X4 hown hK hP ((mu_n ne0_2).trans ((mu_n ne0_1).trans (hm))) rfl 2 (by decide) (hts (.fieldLink RX4 13 "OctagonDeskModel" "isVoid" "[Z") (by decide +kernel)) (fun _ h9 => h9) rfl dX4_load_40 ?_
        refine lv_iload_n hx hb dX4_load_43 rfl (lv_at hl 1 rfl) ?_
        refine lv_aload_n hx hb dX4_load_44 rfl (lv_at hl 0 rfl) ?_
        refine mw_get (C := RX4) (T := TX4) (N := 13) hx hb hts in_X4_load_X4 hown hK hP ((mu_n ne0_2).trans ((mu_n ne0_1).trans (hm))) rfl 2 (by decide) (hts (.fieldLink RX4 13 "OctagonDeskModel" "isVoid" "[Z") (by decide +kernel)) (fun _ h9 => h9) rfl dX4_load_45 ?_
        refine lv_iload_n hx hb dX4_load_48 rfl (lv_at hl 2 rfl) ?_
        refine mw_zald hx hb hK hP 2 (mu_s _ _ _) rfl (by omega) (by omega) dX4_load_49 ?_
        refine mw_zast hx hb hK hP hS 2 (mu_s _ _ _) rfl (zb_r hvb) (by omega) (by omega) dX4_load_50 (fun H locs hP hS => ?_)
        have hP : mw G.1 vwCl B (mu (mu μ ab (.inl (G.2 0, 3744, .inr (.inl g1)))) av (.inl (G.2 2, 26, .inl (upd v t9 (v a9))))) _ := mw_eq (mu_u _ _ _ _) hP
        rw [hQ]
        exact W.vret hx hb hr (fun t99 ht99 hW99 => ⟨⟨mu (mu μ ab (.inl (G.2 0, 3744, .inr (.inl g1)))) av (.inl (G.2 2, 26, .inl (upd v t9 (v a9)))), rfl, (⟨_, rfl, by have e9 : k1 = 144 := (by omega); subst e9; exact hL⟩), by show mw _ _ _ _ t99.heap; rw [ht99]; exact hP⟩, hS.F ht99⟩) hS.2.2 dX4_load_51
      · refine lv_aload_n hx hb dX4_load_9 rfl (lv_at hl 0 rfl) ?_
        refine mw_get (C := RX4) (T := TX4) (N := 13) hx hb hts in_X4_load_X4 hown hK hP ((mu_n ne0_2).trans ((mu_n ne0_1).trans (hm))) rfl 1 (by decide) (hts (.fieldLink RX4 7 "OctagonDeskModel" "bound" "[J") (by decide +kernel)) (fun _ h9 => h9) rfl dX4_load_10 ?_
        refine lv_sipush (v := nI 144) hx hb dX4_load_13 (by decide) ?_
        refine lv_iload_n hx hb dX4_load_16 rfl (lv_at hl 1 rfl) ?_
        refine nv_imul hx hb dX4_load_17 ?_
        refine lv_iload_n hx hb dX4_load_18 rfl (lv_at hl 3 rfl) ?_
        refine nv_iadd hx hb dX4_load_19 ?_
        refine lv_aload_n hx hb dX4_load_20 rfl (lv_at hl 0 rfl) ?_
        refine mw_get (C := RX4) (T := TX4) (N := 13) hx hb hts in_X4_load_X4 hown hK hP ((mu_n ne0_2).trans ((mu_n ne0_1).trans (hm))) rfl 1 (by decide) (hts (.fieldLink RX4 7 "OctagonDeskModel" "bound" "[J") (by decide +kernel)) (fun _ h9 => h9) rfl dX4_load_21 ?_
        refine lv_sipush (v := nI 144) hx hb dX4_load_24 (by decide) ?_
        refine lv_iload_n hx hb dX4_load_27 rfl (lv_at hl 2 rfl) ?_
        refine nv_imul hx hb dX4_load_28 ?_
        refine lv_iload_n hx hb dX4_load_29 rfl (lv_at hl 3 rfl) ?_
        refine nv_iadd hx hb dX4_load_30 ?_
        refine mw_lald hx hb hK hP 0 ((mu_n ((mp_ne hab hav (by simp)))).trans (mu_s _ _ _)) rfl (by omega) (by omega) dX4_load_31 ?_
        refine lv_topl (fun v32 ev32 => ?_)
        refine mw_last hx hb hK hP hS 0 ((mu_n ((mp_ne hab hav (by simp)))).trans (mu_s _ _ _)) rfl (by omega) (by omega) dX4_load_32 (fun H locs hP hS => ?_)
        have hP : mw G.1 vwCl B (mu (mu μ ab (.inl (G.2 0, 3744, .inr (.inl (vp_updL g1 ((144 * t9) + k1) v32))))) av (.inl (G.2 2, 26, .inl v))) _ := mw_eq ((mu_c _ _ ((mp_ne hav hab (by simp)))).trans (congrArg (fun z => mu z av (.inl (G.2 2, 26, .inl v))) (mu_u _ _ _ _))) hP
        refine lv_iinc (v := nI (k1 + 1)) (lv' := [(3, .int (nI (k1 + 1))), (0, .ref md), (1, .int (nI t9)), (2, .int (nI a9))]) hx hb dX4_load_33 hl (k := 3) rfl (nI_add _ _) (by decide) rfl (fun ls hl => ?_)
        refine lv_goto (tgt := 2) hx hb dX4_load_36 (by decide) ?_
        exact ih2 (k1 + 1) (vp_updL g1 ((144 * t9) + k1) v32) (by omega) (by omega) (by have h9 := hL.s (by omega); rw [← ev32] at h9; exact h9) _ _ hP hS ls (lv_sub hl [1, 2, 3, 0] rfl)
  have hl := lv_entry ([.ref md, .int (nI t9), .int (nI a9)]) (n := 4) (Nat.le_of_ble_eq_true rfl)
  have he9 : entryFrame m args 4 = entryFrame m ([.ref md, .int (nI t9), .int (nI a9)] : List Value).toArray 4 := by rw [hargs]
  rw [he9, lg_entry_eq]
  generalize (lg_sl ([.ref md, .int (nI t9), .int (nI a9)]) ++ List.replicate (4 - (lg_sl ([.ref md, .int (nI t9), .int (nI a9)])).length) Slot.unset).toArray = ls at hl ⊢
  have hl : lv_has ls 4 [(0, .ref md), (1, .int (nI t9)), (2, .int (nI a9))] := hl
  refine lv_iconst (v := nI 0) hx hb dX4_load_0 (by decide) ?_
  refine lv_istore_n (lv' := [(3, .int (nI 0)), (0, .ref md), (1, .int (nI t9)), (2, .int (nI a9))]) hx hb dX4_load_1 rfl hl (by decide) rfl (fun ls hl => ?_)
  exact L2 _ 0 f (Nat.lt_succ_self _) (by omega) (Ld.z f t9 a9) _ _ hP hS ls (lv_sub hl [1, 2, 3, 0] rfl)

abbrev rm_X4_all : Room := { frames := 0, cells := 0, slots := 0, locals := 0 }
set_option maxHeartbeats 4000000 in
set_option maxRecDepth 100000 in
theorem c_X4_all (l : Launch) (G : GG) (B : Nat) (μ : mp) (md ab av c1 c2 c3 c4 c5 c6 c7 c8 c9 fl st : Nat) (f : Nat → Int64) (v : Nat → Int32) (s9 : Nat) (hm : μ md = some (.inr (4, [.int (nI fl), .ref ab, .ref av, .int (nI st), .ref c1, .ref c2, .ref c3, .ref c4, .ref c5, .ref c6, .ref c7, .ref c8, .ref c9]))) (hab : μ ab = some (.inl (G.2 0, 3744, .inr (.inl f)))) (hav : μ av = some (.inl (G.2 2, 26, .inl v))) (hs9 : s9 < 26) : Met l yX4_all wsX4_all rm_X4_all (va_Pc [.ref md, .int (nI s9)] (KW G B μ)) (va_Qv (fun μ2 => ∃ g9 : Nat → Int64, μ2 = mu (mu μ ab (.inl (G.2 0, 3744, .inr (.inl g9)))) av (.inl (G.2 2, 26, .inl (upd v s9 (nI 0)))) ∧ Al4 f g9 s9 144) (BB G B) (fun q => B ≤ q)) 0 0 (fun q => B ≤ q) := by
  refine Met.ofW (cc := cX4_all) (maxL := 3) (ret := none) (by decide) rfl ?_
  intro p e s m args below meth c s₁ B9 hml hv
  obtain ⟨hargs, hBs, hP, hKK⟩ := hv
  have hx := B9.exec
  have hb := B9.bytes
  have hr := B9.returns
  have hts := atoms_spec (ws := wsX4_all) B9.pre
  have hown : s.vm.findClass RX4 = some m.cls := findClass_of_methodNamed B9.named
  have hlocks := B9.notSynchronized
  have hK := hKK.k
  have hS : va_S (fun q => B ≤ q) s.heap s.heap [] := va_S.rf
  obtain ⟨Q, hQ⟩ : ∃ Q, Q = MQ below (va_Qv (fun μ2 => ∃ g9 : Nat → Int64, μ2 = mu (mu μ ab (.inl (G.2 0, 3744, .inr (.inl g9)))) av (.inl (G.2 2, 26, .inl (upd v s9 (nI 0)))) ∧ Al4 f g9 s9 144) (BB G B) (fun q => B ≤ q)) args s 0 0 (fun q => B ≤ q) := ⟨_, rfl⟩
  rw [← hQ]
  have ne0_1 : md ≠ ab := mp_ne hm hab (by simp)
  have ne0_2 : md ≠ av := mp_ne hm hav (by simp)
  have in_X4_all_X4 : ∀ w ∈ wsX40, w ∈ wsX4_all := by decide +kernel
  have hP : mw G.1 vwCl B (mu (mu μ ab (.inl (G.2 0, 3744, .inr (.inl f)))) av (.inl (G.2 2, 26, .inl v))) s.heap := mw_eq ((congrArg (fun z => mu z av (.inl (G.2 2, 26, .inl v))) (mu_i hab)).trans (mu_i hav)).symm hP
  have L2 : ∀ (N2 : Nat) (k1 : Nat) (g1 : Nat → Int64) (hN2 : 144 - k1 < N2) (hk1 : k1 ≤ 144) (hL : Al4 f g1 s9 k1), ∀ (H : Heap) (locs : List Loc), mw G.1 vwCl B (mu (mu μ ab (.inl (G.2 0, 3744, .inr (.inl g1)))) av (.inl (G.2 2, 26, .inl v))) H → va_S (fun q => B ≤ q) s.heap H locs → ∀ ls : Array Slot, lv_has ls 3 [(0, .ref md), (1, .int (nI s9)), (2, .int (nI k1))] → W p l e rm_X4_all s m args below meth c H locs 0 0 Q (F0 m 2 ls []) := by
    intro N2
    induction N2 with
    | zero => intro k1 g1 hN2; exact absurd hN2 (Nat.not_lt_zero _)
    | succ N2 ih2 =>
      intro k1 g1 hN2 hk1 hL H locs hP hS ls hl
      refine lv_iload_n hx hb dX4_all_2 rfl (lv_at hl 2 rfl) ?_
      refine lv_sipush (v := nI 144) hx hb dX4_all_3 (by decide) ?_
      refine nv_icmp_ge (tgt := 30) hx hb (by omega) (by omega) dX4_all_6 (by decide) (fun hc6 => ?_) (fun hc6 => ?_)
      · refine lv_aload_n hx hb dX4_all_30 rfl (lv_at hl 0 rfl) ?_
        refine mw_get (C := RX4) (T := TX4) (N := 13) hx hb hts in_X4_all_X4 hown hK hP ((mu_n ne0_2).trans ((mu_n ne0_1).trans (hm))) rfl 2 (by decide) (hts (.fieldLink RX4 13 "OctagonDeskModel" "isVoid" "[Z") (by decide +kernel)) (fun _ h9 => h9) rfl dX4_all_31 ?_
        refine lv_iload_n hx hb dX4_all_34 rfl (lv_at hl 1 rfl) ?_
        refine lv_iconst (v := nI 0) hx hb dX4_all_35 (by decide) ?_
        refine mw_zast hx hb hK hP hS 2 (mu_s _ _ _) rfl (by decide) (by omega) (by omega) dX4_all_36 (fun H locs hP hS => ?_)
        have hP : mw G.1 vwCl B (mu (mu μ ab (.inl (G.2 0, 3744, .inr (.inl g1)))) av (.inl (G.2 2, 26, .inl (upd v s9 (nI 0))))) _ := mw_eq (mu_u _ _ _ _) hP
        rw [hQ]
        exact W.vret hx hb hr (fun t99 ht99 hW99 => ⟨⟨mu (mu μ ab (.inl (G.2 0, 3744, .inr (.inl g1)))) av (.inl (G.2 2, 26, .inl (upd v s9 (nI 0)))), rfl, (⟨_, rfl, by have e9 : k1 = 144 := (by omega); subst e9; exact hL⟩), by show mw _ _ _ _ t99.heap; rw [ht99]; exact hP⟩, hS.F ht99⟩) hS.2.2 dX4_all_37
      · refine lv_aload_n hx hb dX4_all_9 rfl (lv_at hl 0 rfl) ?_
        refine mw_get (C := RX4) (T := TX4) (N := 13) hx hb hts in_X4_all_X4 hown hK hP ((mu_n ne0_2).trans ((mu_n ne0_1).trans (hm))) rfl 1 (by decide) (hts (.fieldLink RX4 7 "OctagonDeskModel" "bound" "[J") (by decide +kernel)) (fun _ h9 => h9) rfl dX4_all_10 ?_
        refine lv_sipush (v := nI 144) hx hb dX4_all_13 (by decide) ?_
        refine lv_iload_n hx hb dX4_all_16 rfl (lv_at hl 1 rfl) ?_
        refine nv_imul hx hb dX4_all_17 ?_
        refine lv_iload_n hx hb dX4_all_18 rfl (lv_at hl 2 rfl) ?_
        refine nv_iadd hx hb dX4_all_19 ?_
        refine lv_ldc2 (v := (9223372036854775807)) hx hb hown (hts (.constantLong RX4 45 (9223372036854775807)) (by decide +kernel)) dX4_all_20 ?_
        refine mw_last hx hb hK hP hS 0 ((mu_n ((mp_ne hab hav (by simp)))).trans (mu_s _ _ _)) rfl (by omega) (by omega) dX4_all_23 (fun H locs hP hS => ?_)
        have hP : mw G.1 vwCl B (mu (mu μ ab (.inl (G.2 0, 3744, .inr (.inl (vp_updL g1 ((144 * s9) + k1) 9223372036854775807))))) av (.inl (G.2 2, 26, .inl v))) _ := mw_eq ((mu_c _ _ ((mp_ne hav hab (by simp)))).trans (congrArg (fun z => mu z av (.inl (G.2 2, 26, .inl v))) (mu_u _ _ _ _))) hP
        refine lv_iinc (v := nI (k1 + 1)) (lv' := [(2, .int (nI (k1 + 1))), (0, .ref md), (1, .int (nI s9))]) hx hb dX4_all_24 hl (k := 2) rfl (nI_add _ _) (by decide) rfl (fun ls hl => ?_)
        refine lv_goto (tgt := 2) hx hb dX4_all_27 (by decide) ?_
        exact ih2 (k1 + 1) (vp_updL g1 ((144 * s9) + k1) 9223372036854775807) (by omega) (by omega) (hL.s) _ _ hP hS ls (lv_sub hl [1, 2, 0] rfl)
  have hl := lv_entry ([.ref md, .int (nI s9)]) (n := 3) (Nat.le_of_ble_eq_true rfl)
  have he9 : entryFrame m args 3 = entryFrame m ([.ref md, .int (nI s9)] : List Value).toArray 3 := by rw [hargs]
  rw [he9, lg_entry_eq]
  generalize (lg_sl ([.ref md, .int (nI s9)]) ++ List.replicate (3 - (lg_sl ([.ref md, .int (nI s9)])).length) Slot.unset).toArray = ls at hl ⊢
  have hl : lv_has ls 3 [(0, .ref md), (1, .int (nI s9))] := hl
  refine lv_iconst (v := nI 0) hx hb dX4_all_0 (by decide) ?_
  refine lv_istore_n (lv' := [(2, .int (nI 0)), (0, .ref md), (1, .int (nI s9))]) hx hb dX4_all_1 rfl hl (by decide) rfl (fun ls hl => ?_)
  exact L2 _ 0 f (Nat.lt_succ_self _) (by omega) (Al4.z f s9) _ _ hP hS ls (lv_sub hl [1, 2, 0] rfl)

abbrev rm_X4_drop : Room := { frames := 1, cells := 0, slots := 0, locals := 25 }
abbrev rm_X4_refused : Room := { frames := 0, cells := 0, slots := 0, locals := 0 }
set_option maxHeartbeats 4000000 in
set_option maxRecDepth 100000 in
theorem c_X4_refused (l : Launch) (G : GG) (B : Nat) (μ : mp) (md ab av c1 c2 c3 c4 c5 c6 c7 c8 c9 fl st : Nat) (f : Nat → Int64) (v : Nat → Int32) (w9 : Nat) (hm : μ md = some (.inr (4, [.int (nI fl), .ref ab, .ref av, .int (nI st), .ref c1, .ref c2, .ref c3, .ref c4, .ref c5, .ref c6, .ref c7, .ref c8, .ref c9]))) (hab : μ ab = some (.inl (G.2 0, 3744, .inr (.inl f)))) (hav : μ av = some (.inl (G.2 2, 26, .inl v))) (hw9 : w9 < 3) : Met l yX4_refused wsX4_refused rm_X4_refused (va_Pc [.ref md, .int (nI w9)] (KW G B μ)) (va_Qi (fun r μ2 => μ2 = mu μ md (.inr (4, [.int (nI w9), .ref ab, .ref av, .int (nI st), .ref c1, .ref c2, .ref c3, .ref c4, .ref c5, .ref c6, .ref c7, .ref c8, .ref c9])) ∧ (w9 = 0 → r = nI 0) ∧ (¬ w9 = 0 → r = nI 1)) (BB G B) (fun q => B ≤ q)) 0 0 (fun q => B ≤ q) := by
  refine Met.ofW (cc := cX4_refused) (maxL := 2) (ret := (some .boolean)) (by decide) rfl ?_
  intro p e s m args below meth c s₁ B9 hml hv
  obtain ⟨hargs, hBs, hP, hKK⟩ := hv
  have hx := B9.exec
  have hb := B9.bytes
  have hr := B9.returns
  have hts := atoms_spec (ws := wsX4_refused) B9.pre
  have hown : s.vm.findClass RX4 = some m.cls := findClass_of_methodNamed B9.named
  have hlocks := B9.notSynchronized
  have hK := hKK.k
  have hS : va_S (fun q => B ≤ q) s.heap s.heap [] := va_S.rf
  obtain ⟨Q, hQ⟩ : ∃ Q, Q = MQ below (va_Qi (fun r μ2 => μ2 = mu μ md (.inr (4, [.int (nI w9), .ref ab, .ref av, .int (nI st), .ref c1, .ref c2, .ref c3, .ref c4, .ref c5, .ref c6, .ref c7, .ref c8, .ref c9])) ∧ (w9 = 0 → r = nI 0) ∧ (¬ w9 = 0 → r = nI 1)) (BB G B) (fun q => B ≤ q)) args s 0 0 (fun q => B ≤ q) := ⟨_, rfl⟩
  rw [← hQ]
  have ne0_1 : md ≠ ab := mp_ne hm hab (by simp)
  have ne0_2 : md ≠ av := mp_ne hm hav (by simp)
  have in_X4_refused_X4 : ∀ w ∈ wsX40, w ∈ wsX4_refused := by decide +kernel
  have hP : mw G.1 vwCl B (mu μ md (.inr (4, [.int (nI fl), .ref ab, .ref av, .int (nI st), .ref c1, .ref c2, .ref c3, .ref c4, .ref c5, .ref c6, .ref c7, .ref c8, .ref c9]))) s.heap := mw_eq (mu_i hm).symm hP
  have hl := lv_entry ([.ref md, .int (nI w9)]) (n := 2) (Nat.le_of_ble_eq_true rfl)
  have he9 : entryFrame m args 2 = entryFrame m ([.ref md, .int (nI w9)] : List Value).toArray 2 := by rw [hargs]
  rw [he9, lg_entry_eq]
  generalize (lg_sl ([.ref md, .int (nI w9)]) ++ List.replicate (2 - (lg_sl ([.ref md, .int (nI w9)])).length) Slot.unset).toArray = ls at hl ⊢
  have hl : lv_has ls 2 [(0, .ref md), (1, .int (nI w9))] := hl
  refine lv_aload_n hx hb dX4_refused_0 rfl (lv_at hl 0 rfl) ?_
  refine lv_iload_n hx hb dX4_refused_1 rfl (lv_at hl 1 rfl) ?_
  refine mw_put (ty := .int) (v := .int (nI w9)) (C := RX4) (T := TX4) (N := 13) hx hb hts in_X4_refused_X4 tyX4 tyX4_ok nmX4 hown hK hP hS (mu_s _ _ _) rfl 0 (by decide) (hts (.fieldLink RX4 47 "OctagonDeskModel" "fault" "I") (by decide +kernel)) (fun _ h9 => h9) rfl (by decide +kernel) (by first | rfl | decide +kernel) (by first | rfl | decide +kernel) (Nat.le_of_ble_eq_true rfl) dX4_refused_2 (fun H locs hP hS => ?_)
  have hP : mw G.1 vwCl B (mu μ md (.inr (4, [.int (nI w9), .ref ab, .ref av, .int (nI st), .ref c1, .ref c2, .ref c3, .ref c4, .ref c5, .ref c6, .ref c7, .ref c8, .ref c9]))) _ := mw_eq (mu_u _ _ _ _) hP
  refine lv_iload_n hx hb dX4_refused_5 rfl (lv_at hl 1 rfl) ?_
  refine lv_if_le (tgt := 13) hx hb dX4_refused_6 (by decide) (fun hc6 => ?_) (fun hc6 => ?_)
  · have hc6 : w9 = 0 := by rcases (show w9 = 0 ∨ w9 = 1 ∨ w9 = 2 by omega) with e9 | e9 | e9; exact e9; (subst e9; exact absurd hc6 (by decide)); (subst e9; exact absurd hc6 (by decide))
    refine lv_iconst (v := nI 0) hx hb dX4_refused_13 (by decide) ?_
    rw [hQ]
    exact W.zret (v := nI 0) (ty := .boolean) hx hb hr (by first | rfl | decide) (fun t99 ht99 hW99 => ⟨⟨nI 0, mu μ md (.inr (4, [.int (nI w9), .ref ab, .ref av, .int (nI st), .ref c1, .ref c2, .ref c3, .ref c4, .ref c5, .ref c6, .ref c7, .ref c8, .ref c9])), rfl, (⟨rfl, fun _ => rfl, fun h9 => absurd hc6 h9⟩), by show mw _ _ _ _ t99.heap; rw [ht99]; exact hP⟩, hS.F ht99⟩) hS.2.2 dX4_refused_14
  · have hc6 : ¬ w9 = 0 := fun e9 => by subst e9; exact absurd (by decide) hc6
    refine lv_iconst (v := nI 1) hx hb dX4_refused_9 (by decide) ?_
    refine lv_goto (tgt := 14) hx hb dX4_refused_10 (by decide) ?_
    rw [hQ]
    exact W.zret (v := nI 1) (ty := .boolean) hx hb hr (by first | rfl | decide) (fun t99 ht99 hW99 => ⟨⟨nI 1, mu μ md (.inr (4, [.int (nI w9), .ref ab, .ref av, .int (nI st), .ref c1, .ref c2, .ref c3, .ref c4, .ref c5, .ref c6, .ref c7, .ref c8, .ref c9])), rfl, (⟨rfl, fun h9 => absurd h9 hc6, fun _ => rfl⟩), by show mw _ _ _ _ t99.heap; rw [ht99]; exact hP⟩, hS.F ht99⟩) hS.2.2 dX4_refused_14

abbrev rm_X4_thrown : Room := { frames := 0, cells := 0, slots := 0, locals := 0 }
abbrev rm_X4_areSlots : Room := { frames := 2, cells := 0, slots := 0, locals := 42 }
set_option maxHeartbeats 4000000 in
set_option maxRecDepth 100000 in
theorem c_X4_areSlots (l : Launch) (G : GG) (B : Nat) (μ : mp) (x9 y9 z9 : Int32) : Met l yX4_areSlots wsX4_areSlots rm_X4_areSlots (va_Pc [.int x9, .int y9, .int z9] (KW G B μ)) (va_Qi (fun r μ2 => μ2 = μ ∧ ((r = 1 ∧ (okS x9 ∧ okS y9 ∧ okS z9)) ∨ (r = 0 ∧ ¬ ((okS x9 ∧ okS y9 ∧ okS z9))))) (BB G B) (fun q => B ≤ q)) 0 0 (fun q => B ≤ q) := by
  refine Met.ofW (cc := cX4_areSlots) (maxL := 3) (ret := (some .boolean)) (by decide) rfl ?_
  intro p e s m args below meth c s₁ B9 hml hv
  obtain ⟨hargs, hBs, hP, hKK⟩ := hv
  have hx := B9.exec
  have hb := B9.bytes
  have hr := B9.returns
  have hts := atoms_spec (ws := wsX4_areSlots) B9.pre
  have hown : s.vm.findClass RX4 = some m.cls := findClass_of_methodNamed B9.named
  have hlocks := B9.notSynchronized
  have hK := hKK.k
  have hS : va_S (fun q => B ≤ q) s.heap s.heap [] := va_S.rf
  obtain ⟨Q, hQ⟩ : ∃ Q, Q = MQ below (va_Qi (fun r μ2 => μ2 = μ ∧ ((r = 1 ∧ (okS x9 ∧ okS y9 ∧ okS z9)) ∨ (r = 0 ∧ ¬ ((okS x9 ∧ okS y9 ∧ okS z9))))) (BB G B) (fun q => B ≤ q)) args s 0 0 (fun q => B ≤ q) := ⟨_, rfl⟩
  rw [← hQ]
  have hl := lv_entry ([.int x9, .int y9, .int z9]) (n := 3) (Nat.le_of_ble_eq_true rfl)
  have he9 : entryFrame m args 3 = entryFrame m ([.int x9, .int y9, .int z9] : List Value).toArray 3 := by rw [hargs]
  rw [he9, lg_entry_eq]
  generalize (lg_sl ([.int x9, .int y9, .int z9]) ++ List.replicate (3 - (lg_sl ([.int x9, .int y9, .int z9])).length) Slot.unset).toArray = ls at hl ⊢
  have hl : lv_has ls 3 [(0, .int x9), (1, .int y9), (2, .int z9)] := hl
  refine lv_iload_n hx hb dX4_areSlots_0 rfl (lv_at hl 0 rfl) ?_
  refine kc_i (va_runS (As := [.int x9]) (rest := []) ⟨hx, hb, hml, hown, hts⟩ (c_X4_isSlot l G B (μ) x9) (va_cwS 1 hts gX4_areSlots_X4_isSlot rfl rfl rfl (by decide +kernel) ⟨Nat.le_of_ble_eq_true rfl, Nat.le_of_ble_eq_true rfl⟩) ⟨KW.blind, fun U9 hU9 hW9 => ⟨rfl, KW.pre hBs hKK hS hP U9 hU9 hW9⟩⟩ rfl rfl hl.1 rfl (lv_room (Nat.le_of_ble_eq_true rfl)) dX4_areSlots_1 ⟨(Nat.le_of_ble_eq_true rfl), (Nat.le_of_ble_eq_true rfl)⟩) hS (fun r1 m1 H locs hq9 hP hz9 hS => ?_)
  obtain ⟨he9, hy1⟩ := hq9
  rw [he9] at hP
  refine lv_if_eq (tgt := 25) hx hb dX4_areSlots_4 (by decide) (fun hc4 => ?_) (fun hc4 => ?_)
  · refine lv_iconst (v := nI 0) hx hb dX4_areSlots_25 (by decide) ?_
    rw [hQ]
    exact W.zret (v := nI 0) (ty := .boolean) hx hb hr (by first | rfl | decide) (fun t99 ht99 hW99 => ⟨⟨nI 0, μ, rfl, (⟨rfl, Or.inr ⟨rfl, fun h9 => by first | exact yn_f hy1 hc4 h9.1 | exact yn_f hy8 hc11 h9.2.1 | exact yn_f hy15 hc18 h9.2.2⟩⟩), by show mw _ _ _ _ t99.heap; rw [ht99]; exact hP⟩, hS.F ht99⟩) hS.2.2 dX4_areSlots_26
  · refine lv_iload_n hx hb dX4_areSlots_7 rfl (lv_at hl 1 rfl) ?_
    refine kc_i (va_runS (As := [.int y9]) (rest := []) ⟨hx, hb, hml, hown, hts⟩ (c_X4_isSlot l G B (μ) y9) (va_cwS 1 hts gX4_areSlots_X4_isSlot rfl rfl rfl (by decide +kernel) ⟨Nat.le_of_ble_eq_true rfl, Nat.le_of_ble_eq_true rfl⟩) ⟨KW.blind, fun U9 hU9 hW9 => ⟨rfl, KW.pre hBs hKK hS hP U9 hU9 hW9⟩⟩ rfl rfl hl.1 rfl (lv_room (Nat.le_of_ble_eq_true rfl)) dX4_areSlots_8 ⟨(Nat.le_of_ble_eq_true rfl), (Nat.le_of_ble_eq_true rfl)⟩) hS (fun r8 m8 H locs hq9 hP hz9 hS => ?_)
    obtain ⟨he9, hy8⟩ := hq9
    rw [he9] at hP
    refine lv_if_eq (tgt := 25) hx hb dX4_areSlots_11 (by decide) (fun hc11 => ?_) (fun hc11 => ?_)
    · refine lv_iconst (v := nI 0) hx hb dX4_areSlots_25 (by decide) ?_
      rw [hQ]
      exact W.zret (v := nI 0) (ty := .boolean) hx hb hr (by first | rfl | decide) (fun t99 ht99 hW99 => ⟨⟨nI 0, μ, rfl, (⟨rfl, Or.inr ⟨rfl, fun h9 => by first | exact yn_f hy1 hc4 h9.1 | exact yn_f hy8 hc11 h9.2.1 | exact yn_f hy15 hc18 h9.2.2⟩⟩), by show mw _ _ _ _ t99.heap; rw [ht99]; exact hP⟩, hS.F ht99⟩) hS.2.2 dX4_areSlots_26
    · refine lv_iload_n hx hb dX4_areSlots_14 rfl (lv_at hl 2 rfl) ?_
      refine kc_i (va_runS (As := [.int z9]) (rest := []) ⟨hx, hb, hml, hown, hts⟩ (c_X4_isSlot l G B (μ) z9) (va_cwS 1 hts gX4_areSlots_X4_isSlot rfl rfl rfl (by decide +kernel) ⟨Nat.le_of_ble_eq_true rfl, Nat.le_of_ble_eq_true rfl⟩) ⟨KW.blind, fun U9 hU9 hW9 => ⟨rfl, KW.pre hBs hKK hS hP U9 hU9 hW9⟩⟩ rfl rfl hl.1 rfl (lv_room (Nat.le_of_ble_eq_true rfl)) dX4_areSlots_15 ⟨(Nat.le_of_ble_eq_true rfl), (Nat.le_of_ble_eq_true rfl)⟩) hS (fun r15 m15 H locs hq9 hP hz9 hS => ?_)
      obtain ⟨he9, hy15⟩ := hq9
      rw [he9] at hP
      refine lv_if_eq (tgt := 25) hx hb dX4_areSlots_18 (by decide) (fun hc18 => ?_) (fun hc18 => ?_)
      · refine lv_iconst (v := nI 0) hx hb dX4_areSlots_25 (by decide) ?_
        rw [hQ]
        exact W.zret (v := nI 0) (ty := .boolean) hx hb hr (by first | rfl | decide) (fun t99 ht99 hW99 => ⟨⟨nI 0, μ, rfl, (⟨rfl, Or.inr ⟨rfl, fun h9 => by first | exact yn_f hy1 hc4 h9.1 | exact yn_f hy8 hc11 h9.2.1 | exact yn_f hy15 hc18 h9.2.2⟩⟩), by show mw _ _ _ _ t99.heap; rw [ht99]; exact hP⟩, hS.F ht99⟩) hS.2.2 dX4_areSlots_26
      · refine lv_iconst (v := nI 1) hx hb dX4_areSlots_21 (by decide) ?_
        refine lv_goto (tgt := 26) hx hb dX4_areSlots_22 (by decide) ?_
        rw [hQ]
        exact W.zret (v := nI 1) (ty := .boolean) hx hb hr (by first | rfl | decide) (fun t99 ht99 hW99 => ⟨⟨nI 1, μ, rfl, (⟨rfl, Or.inl ⟨rfl, yn_t hy1 hc4, yn_t hy8 hc11, yn_t hy15 hc18⟩⟩), by show mw _ _ _ _ t99.heap; rw [ht99]; exact hP⟩, hS.F ht99⟩) hS.2.2 dX4_areSlots_26

abbrev rm_X4_isAction : Room := { frames := 2, cells := 0, slots := 0, locals := 42 }
set_option maxHeartbeats 4000000 in
set_option maxRecDepth 100000 in
theorem c_X4_isAction (l : Launch) (G : GG) (B : Nat) (μ : mp) (k9 a9 b9 c9 : Int32) : Met l yX4_isAction wsX4_isAction rm_X4_isAction (va_Pc [.int k9, .int a9, .int b9, .int c9] (KW G B μ)) (va_Qi (fun r μ2 => μ2 = μ ∧ ((r = 1 ∧ okA k9 a9 b9 c9) ∨ (r = 0 ∧ ¬ (okA k9 a9 b9 c9)))) (BB G B) (fun q => B ≤ q)) 0 0 (fun q => B ≤ q) := by
  refine Met.ofW (cc := cX4_isAction) (maxL := 4) (ret := (some .boolean)) (by decide) rfl ?_
  intro p e s m args below meth c s₁ B9 hml hv
  obtain ⟨hargs, hBs, hP, hKK⟩ := hv
  have hx := B9.exec
  have hb := B9.bytes
  have hr := B9.returns
  have hts := atoms_spec (ws := wsX4_isAction) B9.pre
  have hown : s.vm.findClass RX4 = some m.cls := findClass_of_methodNamed B9.named
  have hlocks := B9.notSynchronized
  have hK := hKK.k
  have hS : va_S (fun q => B ≤ q) s.heap s.heap [] := va_S.rf
  obtain ⟨Q, hQ⟩ : ∃ Q, Q = MQ below (va_Qi (fun r μ2 => μ2 = μ ∧ ((r = 1 ∧ okA k9 a9 b9 c9) ∨ (r = 0 ∧ ¬ (okA k9 a9 b9 c9)))) (BB G B) (fun q => B ≤ q)) args s 0 0 (fun q => B ≤ q) := ⟨_, rfl⟩
  rw [← hQ]
  have hl := lv_entry ([.int k9, .int a9, .int b9, .int c9]) (n := 4) (Nat.le_of_ble_eq_true rfl)
  have he9 : entryFrame m args 4 = entryFrame m ([.int k9, .int a9, .int b9, .int c9] : List Value).toArray 4 := by rw [hargs]
  rw [he9, lg_entry_eq]
  generalize (lg_sl ([.int k9, .int a9, .int b9, .int c9]) ++ List.replicate (4 - (lg_sl ([.int k9, .int a9, .int b9, .int c9])).length) Slot.unset).toArray = ls at hl ⊢
  have hl : lv_has ls 4 [(0, .int k9), (1, .int a9), (2, .int b9), (3, .int c9)] := hl
  refine lv_iload_n hx hb dX4_isAction_0 rfl (lv_at hl 3 rfl) ?_
  refine kc_i (va_runS (As := [.int c9]) (rest := []) ⟨hx, hb, hml, hown, hts⟩ (c_X4_isNumber l G B (μ) c9) (va_cwS 1 hts gX4_isAction_X4_isNumber rfl rfl rfl (by decide +kernel) ⟨Nat.le_of_ble_eq_true rfl, Nat.le_of_ble_eq_true rfl⟩) ⟨KW.blind, fun U9 hU9 hW9 => ⟨rfl, KW.pre hBs hKK hS hP U9 hU9 hW9⟩⟩ rfl rfl hl.1 rfl (lv_room (Nat.le_of_ble_eq_true rfl)) dX4_isAction_1 ⟨(Nat.le_of_ble_eq_true rfl), (Nat.le_of_ble_eq_true rfl)⟩) hS (fun r1 m1 H locs hq9 hP hz9 hS => ?_)
  obtain ⟨he9, hy1⟩ := hq9
  rw [he9] at hP
  refine lv_if_ne (tgt := 9) hx hb dX4_isAction_4 (by decide) (fun hc4 => ?_) (fun hc4 => ?_)
  · refine lv_iload_n hx hb dX4_isAction_9 rfl (lv_at hl 0 rfl) ?_
    refine lv_if_ne (tgt := 43) hx hb dX4_isAction_10 (by decide) (fun hc10 => ?_) (fun hc10 => ?_)
    · refine lv_iload_n hx hb dX4_isAction_43 rfl (lv_at hl 0 rfl) ?_
      refine lv_iconst (v := nI 1) hx hb dX4_isAction_44 (by decide) ?_
      refine lv_icmp_ne (tgt := 72) hx hb dX4_isAction_45 (by decide) (fun hc45 => ?_) (fun hc45 => ?_)
      · refine lv_iload_n hx hb dX4_isAction_72 rfl (lv_at hl 0 rfl) ?_
        refine lv_iconst (v := nI 2) hx hb dX4_isAction_73 (by decide) ?_
        refine lv_icmp_ne (tgt := 102) hx hb dX4_isAction_74 (by decide) (fun hc74 => ?_) (fun hc74 => ?_)
        · refine lv_iconst (v := nI 0) hx hb dX4_isAction_102 (by decide) ?_
          rw [hQ]
          exact W.zret (v := nI 0) (ty := .boolean) hx hb hr (by first | rfl | decide) (fun t99 ht99 hW99 => ⟨⟨nI 0, μ, rfl, (⟨rfl, Or.inr ⟨rfl, fun h9 => by first | exact yn_f hy1 hc4 h9.1 | exact yn_f hy14 hc17 (h9.k0 hc10).1 | exact yn_f hy21 hc24 (h9.k0 hc10).2.1 | exact (h9.k0 hc10).2.2 (by rw [ne_x _ (by omega), hc32]) | exact yn_f hy51 hc54 (isI_S.mpr (h9.k1 hc45).1) | exact yn_f hy58 hc61 (h9.k1 hc45).2 | exact yn_f hy80 hc83 (isI_S.mpr (h9.k2 hc74).1) | exact yn_f hy87 hc90 (h9.k2 hc74).2.1 | exact absurd hc95 (Int32.not_lt.mpr (h9.k2 hc74).2.2) | exact h9.kn hc10 hc45 hc74⟩⟩), by show mw _ _ _ _ t99.heap; rw [ht99]; exact hP⟩, hS.F ht99⟩) hS.2.2 dX4_isAction_103
        · refine lv_iload_n hx hb dX4_isAction_77 rfl (lv_at hl 1 rfl) ?_
          refine lv_iconst (v := nI 0) hx hb dX4_isAction_78 (by decide) ?_
          refine lv_iconst (v := nI 5) hx hb dX4_isAction_79 (by decide) ?_
          refine kc_i (va_runS (As := [.int a9, .int (nI 0), .int (nI 5)]) (rest := []) ⟨hx, hb, hml, hown, hts⟩ (c_X4_isIn l G B (μ) a9 (nI 0) (nI 5)) (va_cwS 3 hts gX4_isAction_X4_isIn rfl rfl rfl (by decide +kernel) ⟨Nat.le_of_ble_eq_true rfl, Nat.le_of_ble_eq_true rfl⟩) ⟨KW.blind, fun U9 hU9 hW9 => ⟨rfl, KW.pre hBs hKK hS hP U9 hU9 hW9⟩⟩ rfl rfl hl.1 rfl (lv_room (Nat.le_of_ble_eq_true rfl)) dX4_isAction_80 ⟨(Nat.le_of_ble_eq_true rfl), (Nat.le_of_ble_eq_true rfl)⟩) hS (fun r80 m80 H locs hq9 hP hz9 hS => ?_)
          obtain ⟨he9, hy80⟩ := hq9
          rw [he9] at hP
          refine lv_if_eq (tgt := 102) hx hb dX4_isAction_83 (by decide) (fun hc83 => ?_) (fun hc83 => ?_)
          · refine lv_iconst (v := nI 0) hx hb dX4_isAction_102 (by decide) ?_
            rw [hQ]
            exact W.zret (v := nI 0) (ty := .boolean) hx hb hr (by first | rfl | decide) (fun t99 ht99 hW99 => ⟨⟨nI 0, μ, rfl, (⟨rfl, Or.inr ⟨rfl, fun h9 => by first | exact yn_f hy1 hc4 h9.1 | exact yn_f hy14 hc17 (h9.k0 hc10).1 | exact yn_f hy21 hc24 (h9.k0 hc10).2.1 | exact (h9.k0 hc10).2.2 (by rw [ne_x _ (by omega), hc32]) | exact yn_f hy51 hc54 (isI_S.mpr (h9.k1 hc45).1) | exact yn_f hy58 hc61 (h9.k1 hc45).2 | exact yn_f hy80 hc83 (isI_S.mpr (h9.k2 hc74).1) | exact yn_f hy87 hc90 (h9.k2 hc74).2.1 | exact absurd hc95 (Int32.not_lt.mpr (h9.k2 hc74).2.2) | exact h9.kn hc10 hc45 hc74⟩⟩), by show mw _ _ _ _ t99.heap; rw [ht99]; exact hP⟩, hS.F ht99⟩) hS.2.2 dX4_isAction_103
          · refine lv_iload_n hx hb dX4_isAction_86 rfl (lv_at hl 2 rfl) ?_
            refine kc_i (va_runS (As := [.int b9]) (rest := []) ⟨hx, hb, hml, hown, hts⟩ (c_X4_isNumber l G B (μ) b9) (va_cwS 1 hts gX4_isAction_X4_isNumber rfl rfl rfl (by decide +kernel) ⟨Nat.le_of_ble_eq_true rfl, Nat.le_of_ble_eq_true rfl⟩) ⟨KW.blind, fun U9 hU9 hW9 => ⟨rfl, KW.pre hBs hKK hS hP U9 hU9 hW9⟩⟩ rfl rfl hl.1 rfl (lv_room (Nat.le_of_ble_eq_true rfl)) dX4_isAction_87 ⟨(Nat.le_of_ble_eq_true rfl), (Nat.le_of_ble_eq_true rfl)⟩) hS (fun r87 m87 H locs hq9 hP hz9 hS => ?_)
            obtain ⟨he9, hy87⟩ := hq9
            rw [he9] at hP
            refine lv_if_eq (tgt := 102) hx hb dX4_isAction_90 (by decide) (fun hc90 => ?_) (fun hc90 => ?_)
            · refine lv_iconst (v := nI 0) hx hb dX4_isAction_102 (by decide) ?_
              rw [hQ]
              exact W.zret (v := nI 0) (ty := .boolean) hx hb hr (by first | rfl | decide) (fun t99 ht99 hW99 => ⟨⟨nI 0, μ, rfl, (⟨rfl, Or.inr ⟨rfl, fun h9 => by first | exact yn_f hy1 hc4 h9.1 | exact yn_f hy14 hc17 (h9.k0 hc10).1 | exact yn_f hy21 hc24 (h9.k0 hc10).2.1 | exact (h9.k0 hc10).2.2 (by rw [ne_x _ (by omega), hc32]) | exact yn_f hy51 hc54 (isI_S.mpr (h9.k1 hc45).1) | exact yn_f hy58 hc61 (h9.k1 hc45).2 | exact yn_f hy80 hc83 (isI_S.mpr (h9.k2 hc74).1) | exact yn_f hy87 hc90 (h9.k2 hc74).2.1 | exact absurd hc95 (Int32.not_lt.mpr (h9.k2 hc74).2.2) | exact h9.kn hc10 hc45 hc74⟩⟩), by show mw _ _ _ _ t99.heap; rw [ht99]; exact hP⟩, hS.F ht99⟩) hS.2.2 dX4_isAction_103
            · refine lv_iload_n hx hb dX4_isAction_93 rfl (lv_at hl 2 rfl) ?_
              refine lv_iload_n hx hb dX4_isAction_94 rfl (lv_at hl 3 rfl) ?_
              refine lv_icmp_gt (tgt := 102) hx hb dX4_isAction_95 (by decide) (fun hc95 => ?_) (fun hc95 => ?_)
              · refine lv_iconst (v := nI 0) hx hb dX4_isAction_102 (by decide) ?_
                rw [hQ]
                exact W.zret (v := nI 0) (ty := .boolean) hx hb hr (by first | rfl | decide) (fun t99 ht99 hW99 => ⟨⟨nI 0, μ, rfl, (⟨rfl, Or.inr ⟨rfl, fun h9 => by first | exact yn_f hy1 hc4 h9.1 | exact yn_f hy14 hc17 (h9.k0 hc10).1 | exact yn_f hy21 hc24 (h9.k0 hc10).2.1 | exact (h9.k0 hc10).2.2 (by rw [ne_x _ (by omega), hc32]) | exact yn_f hy51 hc54 (isI_S.mpr (h9.k1 hc45).1) | exact yn_f hy58 hc61 (h9.k1 hc45).2 | exact yn_f hy80 hc83 (isI_S.mpr (h9.k2 hc74).1) | exact yn_f hy87 hc90 (h9.k2 hc74).2.1 | exact absurd hc95 (Int32.not_lt.mpr (h9.k2 hc74).2.2) | exact h9.kn hc10 hc45 hc74⟩⟩), by show mw _ _ _ _ t99.heap; rw [ht99]; exact hP⟩, hS.F ht99⟩) hS.2.2 dX4_isAction_103
              · refine lv_iconst (v := nI 1) hx hb dX4_isAction_98 (by decide) ?_
                refine lv_goto (tgt := 103) hx hb dX4_isAction_99 (by decide) ?_
                rw [hQ]
                exact W.zret (v := nI 1) (ty := .boolean) hx hb hr (by first | rfl | decide) (fun t99 ht99 hW99 => ⟨⟨nI 1, μ, rfl, (⟨rfl, Or.inl ⟨rfl, yn_t hy1 hc4, by first | exact Or.inl ⟨hc10, ha9, hb9, hp9⟩ | exact Or.inr (Or.inl ⟨hc45, isI_S.mp (yn_t hy51 hc54), yn_t hy58 hc61⟩) | exact Or.inr (Or.inr ⟨hc74, isI_S.mp (yn_t hy80 hc83), yn_t hy87 hc90, Int32.not_lt.mp hc95⟩)⟩⟩), by show mw _ _ _ _ t99.heap; rw [ht99]; exact hP⟩, hS.F ht99⟩) hS.2.2 dX4_isAction_103
      · refine lv_iload_n hx hb dX4_isAction_48 rfl (lv_at hl 1 rfl) ?_
        refine lv_iconst (v := nI 0) hx hb dX4_isAction_49 (by decide) ?_
        refine lv_iconst (v := nI 5) hx hb dX4_isAction_50 (by decide) ?_
        refine kc_i (va_runS (As := [.int a9, .int (nI 0), .int (nI 5)]) (rest := []) ⟨hx, hb, hml, hown, hts⟩ (c_X4_isIn l G B (μ) a9 (nI 0) (nI 5)) (va_cwS 3 hts gX4_isAction_X4_isIn rfl rfl rfl (by decide +kernel) ⟨Nat.le_of_ble_eq_true rfl, Nat.le_of_ble_eq_true rfl⟩) ⟨KW.blind, fun U9 hU9 hW9 => ⟨rfl, KW.pre hBs hKK hS hP U9 hU9 hW9⟩⟩ rfl rfl hl.1 rfl (lv_room (Nat.le_of_ble_eq_true rfl)) dX4_isAction_51 ⟨(Nat.le_of_ble_eq_true rfl), (Nat.le_of_ble_eq_true rfl)⟩) hS (fun r51 m51 H locs hq9 hP hz9 hS => ?_)
        obtain ⟨he9, hy51⟩ := hq9
        rw [he9] at hP
        refine lv_if_eq (tgt := 68) hx hb dX4_isAction_54 (by decide) (fun hc54 => ?_) (fun hc54 => ?_)
        · refine lv_iconst (v := nI 0) hx hb dX4_isAction_68 (by decide) ?_
          refine lv_goto (tgt := 103) hx hb dX4_isAction_69 (by decide) ?_
          rw [hQ]
          exact W.zret (v := nI 0) (ty := .boolean) hx hb hr (by first | rfl | decide) (fun t99 ht99 hW99 => ⟨⟨nI 0, μ, rfl, (⟨rfl, Or.inr ⟨rfl, fun h9 => by first | exact yn_f hy1 hc4 h9.1 | exact yn_f hy14 hc17 (h9.k0 hc10).1 | exact yn_f hy21 hc24 (h9.k0 hc10).2.1 | exact (h9.k0 hc10).2.2 (by rw [ne_x _ (by omega), hc32]) | exact yn_f hy51 hc54 (isI_S.mpr (h9.k1 hc45).1) | exact yn_f hy58 hc61 (h9.k1 hc45).2 | exact yn_f hy80 hc83 (isI_S.mpr (h9.k2 hc74).1) | exact yn_f hy87 hc90 (h9.k2 hc74).2.1 | exact absurd hc95 (Int32.not_lt.mpr (h9.k2 hc74).2.2) | exact h9.kn hc10 hc45 hc74⟩⟩), by show mw _ _ _ _ t99.heap; rw [ht99]; exact hP⟩, hS.F ht99⟩) hS.2.2 dX4_isAction_103
        · refine lv_iload_n hx hb dX4_isAction_57 rfl (lv_at hl 2 rfl) ?_
          refine kc_i (va_runS (As := [.int b9]) (rest := []) ⟨hx, hb, hml, hown, hts⟩ (c_X4_isTerm l G B (μ) b9) (va_cwS 1 hts gX4_isAction_X4_isTerm rfl rfl rfl (by decide +kernel) ⟨Nat.le_of_ble_eq_true rfl, Nat.le_of_ble_eq_true rfl⟩) ⟨KW.blind, fun U9 hU9 hW9 => ⟨rfl, KW.pre hBs hKK hS hP U9 hU9 hW9⟩⟩ rfl rfl hl.1 rfl (lv_room (Nat.le_of_ble_eq_true rfl)) dX4_isAction_58 ⟨(Nat.le_of_ble_eq_true rfl), (Nat.le_of_ble_eq_true rfl)⟩) hS (fun r58 m58 H locs hq9 hP hz9 hS => ?_)
          obtain ⟨he9, hy58⟩ := hq9
          rw [he9] at hP
          refine lv_if_eq (tgt := 68) hx hb dX4_isAction_61 (by decide) (fun hc61 => ?_) (fun hc61 => ?_)
          · refine lv_iconst (v := nI 0) hx hb dX4_isAction_68 (by decide) ?_
            refine lv_goto (tgt := 103) hx hb dX4_isAction_69 (by decide) ?_
            rw [hQ]
            exact W.zret (v := nI 0) (ty := .boolean) hx hb hr (by first | rfl | decide) (fun t99 ht99 hW99 => ⟨⟨nI 0, μ, rfl, (⟨rfl, Or.inr ⟨rfl, fun h9 => by first | exact yn_f hy1 hc4 h9.1 | exact yn_f hy14 hc17 (h9.k0 hc10).1 | exact yn_f hy21 hc24 (h9.k0 hc10).2.1 | exact (h9.k0 hc10).2.2 (by rw [ne_x _ (by omega), hc32]) | exact yn_f hy51 hc54 (isI_S.mpr (h9.k1 hc45).1) | exact yn_f hy58 hc61 (h9.k1 hc45).2 | exact yn_f hy80 hc83 (isI_S.mpr (h9.k2 hc74).1) | exact yn_f hy87 hc90 (h9.k2 hc74).2.1 | exact absurd hc95 (Int32.not_lt.mpr (h9.k2 hc74).2.2) | exact h9.kn hc10 hc45 hc74⟩⟩), by show mw _ _ _ _ t99.heap; rw [ht99]; exact hP⟩, hS.F ht99⟩) hS.2.2 dX4_isAction_103
          · refine lv_iconst (v := nI 1) hx hb dX4_isAction_64 (by decide) ?_
            refine lv_goto (tgt := 103) hx hb dX4_isAction_65 (by decide) ?_
            rw [hQ]
            exact W.zret (v := nI 1) (ty := .boolean) hx hb hr (by first | rfl | decide) (fun t99 ht99 hW99 => ⟨⟨nI 1, μ, rfl, (⟨rfl, Or.inl ⟨rfl, yn_t hy1 hc4, by first | exact Or.inl ⟨hc10, ha9, hb9, hp9⟩ | exact Or.inr (Or.inl ⟨hc45, isI_S.mp (yn_t hy51 hc54), yn_t hy58 hc61⟩) | exact Or.inr (Or.inr ⟨hc74, isI_S.mp (yn_t hy80 hc83), yn_t hy87 hc90, Int32.not_lt.mp hc95⟩)⟩⟩), by show mw _ _ _ _ t99.heap; rw [ht99]; exact hP⟩, hS.F ht99⟩) hS.2.2 dX4_isAction_103
    · refine lv_iload_n hx hb dX4_isAction_13 rfl (lv_at hl 1 rfl) ?_
      refine kc_i (va_runS (As := [.int a9]) (rest := []) ⟨hx, hb, hml, hown, hts⟩ (c_X4_isTerm l G B (μ) a9) (va_cwS 1 hts gX4_isAction_X4_isTerm rfl rfl rfl (by decide +kernel) ⟨Nat.le_of_ble_eq_true rfl, Nat.le_of_ble_eq_true rfl⟩) ⟨KW.blind, fun U9 hU9 hW9 => ⟨rfl, KW.pre hBs hKK hS hP U9 hU9 hW9⟩⟩ rfl rfl hl.1 rfl (lv_room (Nat.le_of_ble_eq_true rfl)) dX4_isAction_14 ⟨(Nat.le_of_ble_eq_true rfl), (Nat.le_of_ble_eq_true rfl)⟩) hS (fun r14 m14 H locs hq9 hP hz9 hS => ?_)
      obtain ⟨he9, hy14⟩ := hq9
      rw [he9] at hP
      refine lv_if_eq (tgt := 39) hx hb dX4_isAction_17 (by decide) (fun hc17 => ?_) (fun hc17 => ?_)
      · refine lv_iconst (v := nI 0) hx hb dX4_isAction_39 (by decide) ?_
        refine lv_goto (tgt := 103) hx hb dX4_isAction_40 (by decide) ?_
        rw [hQ]
        exact W.zret (v := nI 0) (ty := .boolean) hx hb hr (by first | rfl | decide) (fun t99 ht99 hW99 => ⟨⟨nI 0, μ, rfl, (⟨rfl, Or.inr ⟨rfl, fun h9 => by first | exact yn_f hy1 hc4 h9.1 | exact yn_f hy14 hc17 (h9.k0 hc10).1 | exact yn_f hy21 hc24 (h9.k0 hc10).2.1 | exact (h9.k0 hc10).2.2 (by rw [ne_x _ (by omega), hc32]) | exact yn_f hy51 hc54 (isI_S.mpr (h9.k1 hc45).1) | exact yn_f hy58 hc61 (h9.k1 hc45).2 | exact yn_f hy80 hc83 (isI_S.mpr (h9.k2 hc74).1) | exact yn_f hy87 hc90 (h9.k2 hc74).2.1 | exact absurd hc95 (Int32.not_lt.mpr (h9.k2 hc74).2.2) | exact h9.kn hc10 hc45 hc74⟩⟩), by show mw _ _ _ _ t99.heap; rw [ht99]; exact hP⟩, hS.F ht99⟩) hS.2.2 dX4_isAction_103
      · refine lv_iload_n hx hb dX4_isAction_20 rfl (lv_at hl 2 rfl) ?_
        refine kc_i (va_runS (As := [.int b9]) (rest := []) ⟨hx, hb, hml, hown, hts⟩ (c_X4_isTerm l G B (μ) b9) (va_cwS 1 hts gX4_isAction_X4_isTerm rfl rfl rfl (by decide +kernel) ⟨Nat.le_of_ble_eq_true rfl, Nat.le_of_ble_eq_true rfl⟩) ⟨KW.blind, fun U9 hU9 hW9 => ⟨rfl, KW.pre hBs hKK hS hP U9 hU9 hW9⟩⟩ rfl rfl hl.1 rfl (lv_room (Nat.le_of_ble_eq_true rfl)) dX4_isAction_21 ⟨(Nat.le_of_ble_eq_true rfl), (Nat.le_of_ble_eq_true rfl)⟩) hS (fun r21 m21 H locs hq9 hP hz9 hS => ?_)
        obtain ⟨he9, hy21⟩ := hq9
        rw [he9] at hP
        refine lv_if_eq (tgt := 39) hx hb dX4_isAction_24 (by decide) (fun hc24 => ?_) (fun hc24 => ?_)
        · refine lv_iconst (v := nI 0) hx hb dX4_isAction_39 (by decide) ?_
          refine lv_goto (tgt := 103) hx hb dX4_isAction_40 (by decide) ?_
          rw [hQ]
          exact W.zret (v := nI 0) (ty := .boolean) hx hb hr (by first | rfl | decide) (fun t99 ht99 hW99 => ⟨⟨nI 0, μ, rfl, (⟨rfl, Or.inr ⟨rfl, fun h9 => by first | exact yn_f hy1 hc4 h9.1 | exact yn_f hy14 hc17 (h9.k0 hc10).1 | exact yn_f hy21 hc24 (h9.k0 hc10).2.1 | exact (h9.k0 hc10).2.2 (by rw [ne_x _ (by omega), hc32]) | exact yn_f hy51 hc54 (isI_S.mpr (h9.k1 hc45).1) | exact yn_f hy58 hc61 (h9.k1 hc45).2 | exact yn_f hy80 hc83 (isI_S.mpr (h9.k2 hc74).1) | exact yn_f hy87 hc90 (h9.k2 hc74).2.1 | exact absurd hc95 (Int32.not_lt.mpr (h9.k2 hc74).2.2) | exact h9.kn hc10 hc45 hc74⟩⟩), by show mw _ _ _ _ t99.heap; rw [ht99]; exact hP⟩, hS.F ht99⟩) hS.2.2 dX4_isAction_103
        · have ha9 := yn_t hy14 hc17
          have hb9 := yn_t hy21 hc24
          obtain ⟨na9, hna9, ena9⟩ := ok_nat (n := 12) (by decide) ha9
          subst ena9
          obtain ⟨nb9, hnb9, enb9⟩ := ok_nat (n := 12) (by decide) hb9
          subst enb9
          refine lv_iload_n hx hb dX4_isAction_27 rfl (lv_at hl 1 rfl) ?_
          refine lv_iload_n hx hb dX4_isAction_28 rfl (lv_at hl 2 rfl) ?_
          refine kc_i (va_runS (As := [.int (nI nb9)]) (rest := [.int (nI na9)]) ⟨hx, hb, hml, hown, hts⟩ (c_X4_minus l G B (μ) nb9 (by omega)) (va_cwS 1 hts gX4_isAction_X4_minus rfl rfl rfl (by decide +kernel) ⟨Nat.le_of_ble_eq_true rfl, Nat.le_of_ble_eq_true rfl⟩) ⟨KW.blind, fun U9 hU9 hW9 => ⟨rfl, KW.pre hBs hKK hS hP U9 hU9 hW9⟩⟩ rfl rfl hl.1 rfl (lv_room (Nat.le_of_ble_eq_true rfl)) dX4_isAction_29 ⟨(Nat.le_of_ble_eq_true rfl), (Nat.le_of_ble_eq_true rfl)⟩) hS (fun r29 m29 H locs hq9 hP hz9 hS => ?_)
          obtain ⟨he9, rfl⟩ := hq9
          rw [he9] at hP
          have hne29 := ne_lt (p := nb9) (by omega)
          refine nv_icmp_eq (tgt := 39) hx hb (by omega) (by omega) dX4_isAction_32 (by decide) (fun hc32 => ?_) (fun hc32 => ?_)
          · refine lv_iconst (v := nI 0) hx hb dX4_isAction_39 (by decide) ?_
            refine lv_goto (tgt := 103) hx hb dX4_isAction_40 (by decide) ?_
            rw [hQ]
            exact W.zret (v := nI 0) (ty := .boolean) hx hb hr (by first | rfl | decide) (fun t99 ht99 hW99 => ⟨⟨nI 0, μ, rfl, (⟨rfl, Or.inr ⟨rfl, fun h9 => by first | exact yn_f hy1 hc4 h9.1 | exact yn_f hy14 hc17 (h9.k0 hc10).1 | exact yn_f hy21 hc24 (h9.k0 hc10).2.1 | exact (h9.k0 hc10).2.2 (by rw [ne_x _ (by omega), hc32]) | exact yn_f hy51 hc54 (isI_S.mpr (h9.k1 hc45).1) | exact yn_f hy58 hc61 (h9.k1 hc45).2 | exact yn_f hy80 hc83 (isI_S.mpr (h9.k2 hc74).1) | exact yn_f hy87 hc90 (h9.k2 hc74).2.1 | exact absurd hc95 (Int32.not_lt.mpr (h9.k2 hc74).2.2) | exact h9.kn hc10 hc45 hc74⟩⟩), by show mw _ _ _ _ t99.heap; rw [ht99]; exact hP⟩, hS.F ht99⟩) hS.2.2 dX4_isAction_103
          · have hp9 : ¬ nI na9 = nI nb9 ^^^ nI 1 := fun e9 => hc32 (by rw [ne_x _ (by omega)] at e9; exact (nI_eq (by omega) (by omega)).mp e9)
            refine lv_iconst (v := nI 1) hx hb dX4_isAction_35 (by decide) ?_
            refine lv_goto (tgt := 103) hx hb dX4_isAction_36 (by decide) ?_
            rw [hQ]
            exact W.zret (v := nI 1) (ty := .boolean) hx hb hr (by first | rfl | decide) (fun t99 ht99 hW99 => ⟨⟨nI 1, μ, rfl, (⟨rfl, Or.inl ⟨rfl, yn_t hy1 hc4, by first | exact Or.inl ⟨hc10, ha9, hb9, hp9⟩ | exact Or.inr (Or.inl ⟨hc45, isI_S.mp (yn_t hy51 hc54), yn_t hy58 hc61⟩) | exact Or.inr (Or.inr ⟨hc74, isI_S.mp (yn_t hy80 hc83), yn_t hy87 hc90, Int32.not_lt.mp hc95⟩)⟩⟩), by show mw _ _ _ _ t99.heap; rw [ht99]; exact hP⟩, hS.F ht99⟩) hS.2.2 dX4_isAction_103
  · refine lv_iconst (v := nI 0) hx hb dX4_isAction_7 (by decide) ?_
    rw [hQ]
    exact W.zret (v := nI 0) (ty := .boolean) hx hb hr (by first | rfl | decide) (fun t99 ht99 hW99 => ⟨⟨nI 0, μ, rfl, (⟨rfl, Or.inr ⟨rfl, fun h9 => by first | exact yn_f hy1 hc4 h9.1 | exact yn_f hy14 hc17 (h9.k0 hc10).1 | exact yn_f hy21 hc24 (h9.k0 hc10).2.1 | exact (h9.k0 hc10).2.2 (by rw [ne_x _ (by omega), hc32]) | exact yn_f hy51 hc54 (isI_S.mpr (h9.k1 hc45).1) | exact yn_f hy58 hc61 (h9.k1 hc45).2 | exact yn_f hy80 hc83 (isI_S.mpr (h9.k2 hc74).1) | exact yn_f hy87 hc90 (h9.k2 hc74).2.1 | exact absurd hc95 (Int32.not_lt.mpr (h9.k2 hc74).2.2) | exact h9.kn hc10 hc45 hc74⟩⟩), by show mw _ _ _ _ t99.heap; rw [ht99]; exact hP⟩, hS.F ht99⟩) hS.2.2 dX4_isAction_8

abbrev rm_X4_clear : Room := { frames := 2, cells := 0, slots := 0, locals := 42 }
abbrev rm_X4_copy : Room := { frames := 2, cells := 0, slots := 0, locals := 42 }
abbrev rm_X4_isEmpty : Room := { frames := 2, cells := 0, slots := 0, locals := 42 }
abbrev rm_X4_forget : Room := { frames := 2, cells := 0, slots := 0, locals := 48 }
abbrev rm_X4_take : Room := { frames := 2, cells := 0, slots := 0, locals := 42 }
abbrev rm_X4_erase : Room := { frames := 0, cells := 0, slots := 0, locals := 0 }
set_option maxHeartbeats 4000000 in
set_option maxRecDepth 100000 in
theorem c_X4_erase (l : Launch) (G : GG) (B : Nat) (μ : mp) (md ab av c1 c2 c3 c4 c5 c6 c7 c8 c9 fl st : Nat) (f : Nat → Int64) (v : Nat → Int32) (hm : μ md = some (.inr (4, [.int (nI fl), .ref ab, .ref av, .int (nI st), .ref c1, .ref c2, .ref c3, .ref c4, .ref c5, .ref c6, .ref c7, .ref c8, .ref c9]))) (hab : μ ab = some (.inl (G.2 0, 3744, .inr (.inl f)))) (hav : μ av = some (.inl (G.2 2, 26, .inl v))) : Met l yX4_erase wsX4_erase rm_X4_erase (va_Pc [.ref md] (KW G B μ)) (va_Qi (fun r μ2 => r = nI st ∧ μ2 = mu μ md (.inr (4, [.int (nI 0), .ref ab, .ref av, .int (nI 0), .ref c1, .ref c2, .ref c3, .ref c4, .ref c5, .ref c6, .ref c7, .ref c8, .ref c9]))) (BB G B) (fun q => B ≤ q)) 0 0 (fun q => B ≤ q) := by
  refine Met.ofW (cc := cX4_erase) (maxL := 2) (ret := (some .int)) (by decide) rfl ?_
  intro p e s m args below meth c s₁ B9 hml hv
  obtain ⟨hargs, hBs, hP, hKK⟩ := hv
  have hx := B9.exec
  have hb := B9.bytes
  have hr := B9.returns
  have hts := atoms_spec (ws := wsX4_erase) B9.pre
  have hown : s.vm.findClass RX4 = some m.cls := findClass_of_methodNamed B9.named
  have hlocks := B9.notSynchronized
  have hK := hKK.k
  have hS : va_S (fun q => B ≤ q) s.heap s.heap [] := va_S.rf
  obtain ⟨Q, hQ⟩ : ∃ Q, Q = MQ below (va_Qi (fun r μ2 => r = nI st ∧ μ2 = mu μ md (.inr (4, [.int (nI 0), .ref ab, .ref av, .int (nI 0), .ref c1, .ref c2, .ref c3, .ref c4, .ref c5, .ref c6, .ref c7, .ref c8, .ref c9]))) (BB G B) (fun q => B ≤ q)) args s 0 0 (fun q => B ≤ q) := ⟨_, rfl⟩
  rw [← hQ]
  have ne0_1 : md ≠ ab := mp_ne hm hab (by simp)
  have ne0_2 : md ≠ av := mp_ne hm hav (by simp)
  have in_X4_erase_X4 : ∀ w ∈ wsX40, w ∈ wsX4_erase := by decide +kernel
  have hP : mw G.1 vwCl B (mu μ md (.inr (4, [.int (nI fl), .ref ab, .ref av, .int (nI st), .ref c1, .ref c2, .ref c3, .ref c4, .ref c5, .ref c6, .ref c7, .ref c8, .ref c9]))) s.heap := mw_eq (mu_i hm).symm hP
  have hl := lv_entry ([.ref md]) (n := 2) (Nat.le_of_ble_eq_true rfl)
  have he9 : entryFrame m args 2 = entryFrame m ([.ref md] : List Value).toArray 2 := by rw [hargs]
  rw [he9, lg_entry_eq]
  generalize (lg_sl ([.ref md]) ++ List.replicate (2 - (lg_sl ([.ref md])).length) Slot.unset).toArray = ls at hl ⊢
  have hl : lv_has ls 2 [(0, .ref md)] := hl
  refine lv_aload_n hx hb dX4_erase_0 rfl (lv_at hl 0 rfl) ?_
  refine lv_iconst (v := nI 0) hx hb dX4_erase_1 (by decide) ?_
  refine mw_put (ty := .int) (v := .int (nI 0)) (C := RX4) (T := TX4) (N := 13) hx hb hts in_X4_erase_X4 tyX4 tyX4_ok nmX4 hown hK hP hS (mu_s _ _ _) rfl 0 (by decide) (hts (.fieldLink RX4 47 "OctagonDeskModel" "fault" "I") (by decide +kernel)) (fun _ h9 => h9) rfl (by decide +kernel) (by first | rfl | decide +kernel) (by first | rfl | decide +kernel) (Nat.le_of_ble_eq_true rfl) dX4_erase_2 (fun H locs hP hS => ?_)
  have hP : mw G.1 vwCl B (mu μ md (.inr (4, [.int (nI 0), .ref ab, .ref av, .int (nI st), .ref c1, .ref c2, .ref c3, .ref c4, .ref c5, .ref c6, .ref c7, .ref c8, .ref c9]))) _ := mw_eq (mu_u _ _ _ _) hP
  refine lv_aload_n hx hb dX4_erase_5 rfl (lv_at hl 0 rfl) ?_
  refine mw_get (C := RX4) (T := TX4) (N := 13) hx hb hts in_X4_erase_X4 hown hK hP (mu_s _ _ _) rfl 3 (by decide) (hts (.fieldLink RX4 136 "OctagonDeskModel" "steps" "I") (by decide +kernel)) (fun _ h9 => h9) rfl dX4_erase_6 ?_
  refine lv_istore_n (lv' := [(1, .int (nI st)), (0, .ref md)]) hx hb dX4_erase_9 rfl hl (by decide) rfl (fun ls hl => ?_)
  refine lv_aload_n hx hb dX4_erase_10 rfl (lv_at hl 1 rfl) ?_
  refine lv_iconst (v := nI 0) hx hb dX4_erase_11 (by decide) ?_
  refine mw_put (ty := .int) (v := .int (nI 0)) (C := RX4) (T := TX4) (N := 13) hx hb hts in_X4_erase_X4 tyX4 tyX4_ok nmX4 hown hK hP hS (mu_s _ _ _) rfl 3 (by decide) (hts (.fieldLink RX4 136 "OctagonDeskModel" "steps" "I") (by decide +kernel)) (fun _ h9 => h9) rfl (by decide +kernel) (by first | rfl | decide +kernel) (by first | rfl | decide +kernel) (Nat.le_of_ble_eq_true rfl) dX4_erase_12 (fun H locs hP hS => ?_)
  have hP : mw G.1 vwCl B (mu μ md (.inr (4, [.int (nI 0), .ref ab, .ref av, .int (nI 0), .ref c1, .ref c2, .ref c3, .ref c4, .ref c5, .ref c6, .ref c7, .ref c8, .ref c9]))) _ := mw_eq (mu_u _ _ _ _) hP
  refine lv_iload_n hx hb dX4_erase_15 rfl (lv_at hl 0 rfl) ?_
  rw [hQ]
  exact W.iret (v := nI st) hx hb hr (fun t99 ht99 hW99 => ⟨⟨nI st, mu μ md (.inr (4, [.int (nI 0), .ref ab, .ref av, .int (nI 0), .ref c1, .ref c2, .ref c3, .ref c4, .ref c5, .ref c6, .ref c7, .ref c8, .ref c9])), rfl, (⟨rfl, rfl⟩), by show mw _ _ _ _ t99.heap; rw [ht99]; exact hP⟩, hS.F ht99⟩) hS.2.2 dX4_erase_16

abbrev rm_X4_most : Room := { frames := 2, cells := 0, slots := 0, locals := 42 }
abbrev rm_X4_isWithin : Room := { frames := 0, cells := 0, slots := 0, locals := 0 }
abbrev rm_X4_inside : Room := { frames := 2, cells := 0, slots := 0, locals := 42 }
abbrev rm_X4_bounds : Room := { frames := 2, cells := 0, slots := 0, locals := 42 }