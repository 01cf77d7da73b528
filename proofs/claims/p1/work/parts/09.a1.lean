abbrev rm_X6_requireSlot : Room := { frames := 6, cells := 1, slots := 6, locals := 100 }
set_option maxHeartbeats 4000000 in
set_option maxRecDepth 100000 in
theorem c_X6_requireSlot (l : Launch) (hlt : l.stackTraces = false) (G : GG) (B : Nat) (μ : mp) (x9 : Int32) : vx_Met l yX6_requireSlot wsX6_requireSlot rm_X6_requireSlot (va_Pc [.int x9] (KX G B μ)) (va_Qv (fun μ2 => μ2 = μ ∧ okS x9) (BB G B) (fun q => B ≤ q)) (XX G B μ (fun E => E = exA ∧ ¬ okS x9)) 1 6 (fun q => B ≤ q) := by
  refine vx_ofW (cc := cX6_requireSlot) (maxL := 1) (ret := none) (by decide) rfl ?_
  intro p e s m args below meth c s₁ B9 hml hout hv
  obtain ⟨hargs, ⟨hBs, hP, hKK⟩, hDc⟩ := hv
  have hx := B9.exec
  have hb := B9.bytes
  have hr := B9.returns
  have hts := atoms_spec (ws := wsX6_requireSlot) B9.pre
  have hown : s.vm.findClass RX6 = some m.cls := findClass_of_methodNamed B9.named
  have hlocks := B9.notSynchronized
  have hK := hKK.k
  have hS : va_S (fun q => B ≤ q) s.heap s.heap [] := va_S.rf
  obtain ⟨Q, hQ⟩ : ∃ Q, Q = vx_MQ below (va_Qv (fun μ2 => μ2 = μ ∧ okS x9) (BB G B) (fun q => B ≤ q)) (XX G B μ (fun E => E = exA ∧ ¬ okS x9)) args s 1 6 (fun q => B ≤ q) := ⟨_, rfl⟩
  rw [← hQ]
  have hl := lv_entry ([.int x9]) (n := 1) (Nat.le_of_ble_eq_true rfl)
  have he9 : entryFrame m args 1 = entryFrame m ([.int x9] : List Value).toArray 1 := by rw [hargs]
  rw [he9, lg_entry_eq]
  generalize (lg_sl ([.int x9]) ++ List.replicate (1 - (lg_sl ([.int x9])).length) Slot.unset).toArray = ls at hl ⊢
  have hl : lv_has ls 1 [(0, .int x9)] := hl
  refine lv_iload_n hx hb dX6_requireSlot_0 rfl (lv_at hl 0 rfl) ?_
  refine lv_if_lt (tgt := 10) hx hb dX6_requireSlot_1 (by decide) (fun hc1 => ?_) (fun hc1 => ?_)
  · rw [hQ]
    exact kx_throw (is := 153) hx hb hlt hown (by decide +kernel) (hts (.classLink RX6 125 exA) (by decide +kernel)) (hts (.initialized exA) (by decide +kernel)) (List.mem_of_getElem? (i := 3) rfl) hKK.2.2.2.2.1.1 hDc (fun w9 h9 => hts w9 (List.mem_cons_of_mem _ (List.mem_append_right _ h9))) (by decide +kernel) (by decide +kernel) hKK hP hS (hl.1.trans hml.symm) dX6_requireSlot_10 dX6_requireSlot_13 dX6_requireSlot_14 dX6_requireSlot_16 dX6_requireSlot_19 hout (Nat.le_of_ble_eq_true rfl) (Nat.le_of_ble_eq_true rfl) (Nat.le_of_ble_eq_true rfl) (Nat.le_of_ble_eq_true rfl) (Nat.le_of_ble_eq_true rfl) hlocks (by refine ⟨rfl, fun h9 => ?_⟩; first | exact hc7 h9.2 | exact h9.1 hc1) (Nat.le_of_ble_eq_true rfl) (Nat.le_of_ble_eq_true rfl)
  · refine lv_iload_n hx hb dX6_requireSlot_4 rfl (lv_at hl 0 rfl) ?_
    refine lv_bipush (v := nI 6) hx hb dX6_requireSlot_5 (by decide) ?_
    refine lv_icmp_lt (tgt := 20) hx hb dX6_requireSlot_7 (by decide) (fun hc7 => ?_) (fun hc7 => ?_)
    · rw [hQ]
      refine vx_ret ?_
      refine W.widen (k := 1) (n := 6) (by omega) (by omega) ?_
      exact W.vret hx hb hr (fun t99 ht99 hW99 => ⟨⟨μ, rfl, (⟨rfl, hc1, hc7⟩), by show mw _ _ _ _ t99.heap; rw [ht99]; exact hP⟩, hS.F ht99⟩) hS.2.2 dX6_requireSlot_20
    · rw [hQ]
      exact kx_throw (is := 153) hx hb hlt hown (by decide +kernel) (hts (.classLink RX6 125 exA) (by decide +kernel)) (hts (.initialized exA) (by decide +kernel)) (List.mem_of_getElem? (i := 3) rfl) hKK.2.2.2.2.1.1 hDc (fun w9 h9 => hts w9 (List.mem_cons_of_mem _ (List.mem_append_right _ h9))) (by decide +kernel) (by decide +kernel) hKK hP hS (hl.1.trans hml.symm) dX6_requireSlot_10 dX6_requireSlot_13 dX6_requireSlot_14 dX6_requireSlot_16 dX6_requireSlot_19 hout (Nat.le_of_ble_eq_true rfl) (Nat.le_of_ble_eq_true rfl) (Nat.le_of_ble_eq_true rfl) (Nat.le_of_ble_eq_true rfl) (Nat.le_of_ble_eq_true rfl) hlocks (by refine ⟨rfl, fun h9 => ?_⟩; first | exact hc7 h9.2 | exact h9.1 hc1) (Nat.le_of_ble_eq_true rfl) (Nat.le_of_ble_eq_true rfl)

abbrev rm_X6_requireVariable : Room := { frames := 6, cells := 1, slots := 6, locals := 100 }
set_option maxHeartbeats 4000000 in
set_option maxRecDepth 100000 in
theorem c_X6_requireVariable (l : Launch) (hlt : l.stackTraces = false) (G : GG) (B : Nat) (μ : mp) (x9 : Int32) : vx_Met l yX6_requireVariable wsX6_requireVariable rm_X6_requireVariable (va_Pc [.int x9] (KX G B μ)) (va_Qv (fun μ2 => μ2 = μ ∧ okS x9) (BB G B) (fun q => B ≤ q)) (XX G B μ (fun E => E = exA ∧ ¬ okS x9)) 1 6 (fun q => B ≤ q) := by
  refine vx_ofW (cc := cX6_requireVariable) (maxL := 1) (ret := none) (by decide) rfl ?_
  intro p e s m args below meth c s₁ B9 hml hout hv
  obtain ⟨hargs, ⟨hBs, hP, hKK⟩, hDc⟩ := hv
  have hx := B9.exec
  have hb := B9.bytes
  have hr := B9.returns
  have hts := atoms_spec (ws := wsX6_requireVariable) B9.pre
  have hown : s.vm.findClass RX6 = some m.cls := findClass_of_methodNamed B9.named
  have hlocks := B9.notSynchronized
  have hK := hKK.k
  have hS : va_S (fun q => B ≤ q) s.heap s.heap [] := va_S.rf
  obtain ⟨Q, hQ⟩ : ∃ Q, Q = vx_MQ below (va_Qv (fun μ2 => μ2 = μ ∧ okS x9) (BB G B) (fun q => B ≤ q)) (XX G B μ (fun E => E = exA ∧ ¬ okS x9)) args s 1 6 (fun q => B ≤ q) := ⟨_, rfl⟩
  rw [← hQ]
  have hl := lv_entry ([.int x9]) (n := 1) (Nat.le_of_ble_eq_true rfl)
  have he9 : entryFrame m args 1 = entryFrame m ([.int x9] : List Value).toArray 1 := by rw [hargs]
  rw [he9, lg_entry_eq]
  generalize (lg_sl ([.int x9]) ++ List.replicate (1 - (lg_sl ([.int x9])).length) Slot.unset).toArray = ls at hl ⊢
  have hl : lv_has ls 1 [(0, .int x9)] := hl
  refine lv_iload_n hx hb dX6_requireVariable_0 rfl (lv_at hl 0 rfl) ?_
  refine lv_if_lt (tgt := 10) hx hb dX6_requireVariable_1 (by decide) (fun hc1 => ?_) (fun hc1 => ?_)
  · rw [hQ]
    exact kx_throw (is := 155) hx hb hlt hown (by decide +kernel) (hts (.classLink RX6 125 exA) (by decide +kernel)) (hts (.initialized exA) (by decide +kernel)) (List.mem_of_getElem? (i := 4) rfl) hKK.2.2.2.2.1.1 hDc (fun w9 h9 => hts w9 (List.mem_cons_of_mem _ (List.mem_append_right _ h9))) (by decide +kernel) (by decide +kernel) hKK hP hS (hl.1.trans hml.symm) dX6_requireVariable_10 dX6_requireVariable_13 dX6_requireVariable_14 dX6_requireVariable_16 dX6_requireVariable_19 hout (Nat.le_of_ble_eq_true rfl) (Nat.le_of_ble_eq_true rfl) (Nat.le_of_ble_eq_true rfl) (Nat.le_of_ble_eq_true rfl) (Nat.le_of_ble_eq_true rfl) hlocks (by refine ⟨rfl, fun h9 => ?_⟩; first | exact hc7 h9.2 | exact h9.1 hc1) (Nat.le_of_ble_eq_true rfl) (Nat.le_of_ble_eq_true rfl)
  · refine lv_iload_n hx hb dX6_requireVariable_4 rfl (lv_at hl 0 rfl) ?_
    refine lv_bipush (v := nI 6) hx hb dX6_requireVariable_5 (by decide) ?_
    refine lv_icmp_lt (tgt := 20) hx hb dX6_requireVariable_7 (by decide) (fun hc7 => ?_) (fun hc7 => ?_)
    · rw [hQ]
      refine vx_ret ?_
      refine W.widen (k := 1) (n := 6) (by omega) (by omega) ?_
      exact W.vret hx hb hr (fun t99 ht99 hW99 => ⟨⟨μ, rfl, (⟨rfl, hc1, hc7⟩), by show mw _ _ _ _ t99.heap; rw [ht99]; exact hP⟩, hS.F ht99⟩) hS.2.2 dX6_requireVariable_20
    · rw [hQ]
      exact kx_throw (is := 155) hx hb hlt hown (by decide +kernel) (hts (.classLink RX6 125 exA) (by decide +kernel)) (hts (.initialized exA) (by decide +kernel)) (List.mem_of_getElem? (i := 4) rfl) hKK.2.2.2.2.1.1 hDc (fun w9 h9 => hts w9 (List.mem_cons_of_mem _ (List.mem_append_right _ h9))) (by decide +kernel) (by decide +kernel) hKK hP hS (hl.1.trans hml.symm) dX6_requireVariable_10 dX6_requireVariable_13 dX6_requireVariable_14 dX6_requireVariable_16 dX6_requireVariable_19 hout (Nat.le_of_ble_eq_true rfl) (Nat.le_of_ble_eq_true rfl) (Nat.le_of_ble_eq_true rfl) (Nat.le_of_ble_eq_true rfl) (Nat.le_of_ble_eq_true rfl) hlocks (by refine ⟨rfl, fun h9 => ?_⟩; first | exact hc7 h9.2 | exact h9.1 hc1) (Nat.le_of_ble_eq_true rfl) (Nat.le_of_ble_eq_true rfl)

abbrev rm_X6_requireTerm : Room := { frames := 6, cells := 1, slots := 6, locals := 100 }
set_option maxHeartbeats 4000000 in
set_option maxRecDepth 100000 in
theorem c_X6_requireTerm (l : Launch) (hlt : l.stackTraces = false) (G : GG) (B : Nat) (μ : mp) (x9 : Int32) : vx_Met l yX6_requireTerm wsX6_requireTerm rm_X6_requireTerm (va_Pc [.int x9] (KX G B μ)) (va_Qv (fun μ2 => μ2 = μ ∧ okT x9) (BB G B) (fun q => B ≤ q)) (XX G B μ (fun E => E = exA ∧ ¬ okT x9)) 1 6 (fun q => B ≤ q) := by
  refine vx_ofW (cc := cX6_requireTerm) (maxL := 1) (ret := none) (by decide) rfl ?_
  intro p e s m args below meth c s₁ B9 hml hout hv
  obtain ⟨hargs, ⟨hBs, hP, hKK⟩, hDc⟩ := hv
  have hx := B9.exec
  have hb := B9.bytes
  have hr := B9.returns
  have hts := atoms_spec (ws := wsX6_requireTerm) B9.pre
  have hown : s.vm.findClass RX6 = some m.cls := findClass_of_methodNamed B9.named
  have hlocks := B9.notSynchronized
  have hK := hKK.k
  have hS : va_S (fun q => B ≤ q) s.heap s.heap [] := va_S.rf
  obtain ⟨Q, hQ⟩ : ∃ Q, Q = vx_MQ below (va_Qv (fun μ2 => μ2 = μ ∧ okT x9) (BB G B) (fun q => B ≤ q)) (XX G B μ (fun E => E = exA ∧ ¬ okT x9)) args s 1 6 (fun q => B ≤ q) := ⟨_, rfl⟩
  rw [← hQ]
  have hl := lv_entry ([.int x9]) (n := 1) (Nat.le_of_ble_eq_true rfl)
  have he9 : entryFrame m args 1 = entryFrame m ([.int x9] : List Value).toArray 1 := by rw [hargs]
  rw [he9, lg_entry_eq]
  generalize (lg_sl ([.int x9]) ++ List.replicate (1 - (lg_sl ([.int x9])).length) Slot.unset).toArray = ls at hl ⊢
  have hl : lv_has ls 1 [(0, .int x9)] := hl
  refine lv_iload_n hx hb dX6_requireTerm_0 rfl (lv_at hl 0 rfl) ?_
  refine lv_if_lt (tgt := 10) hx hb dX6_requireTerm_1 (by decide) (fun hc1 => ?_) (fun hc1 => ?_)
  · rw [hQ]
    exact kx_throw (is := 157) hx hb hlt hown (by decide +kernel) (hts (.classLink RX6 125 exA) (by decide +kernel)) (hts (.initialized exA) (by decide +kernel)) (List.mem_of_getElem? (i := 5) rfl) hKK.2.2.2.2.1.1 hDc (fun w9 h9 => hts w9 (List.mem_cons_of_mem _ (List.mem_append_right _ h9))) (by decide +kernel) (by decide +kernel) hKK hP hS (hl.1.trans hml.symm) dX6_requireTerm_10 dX6_requireTerm_13 dX6_requireTerm_14 dX6_requireTerm_16 dX6_requireTerm_19 hout (Nat.le_of_ble_eq_true rfl) (Nat.le_of_ble_eq_true rfl) (Nat.le_of_ble_eq_true rfl) (Nat.le_of_ble_eq_true rfl) (Nat.le_of_ble_eq_true rfl) hlocks (by refine ⟨rfl, fun h9 => ?_⟩; first | exact hc7 h9.2 | exact h9.1 hc1) (Nat.le_of_ble_eq_true rfl) (Nat.le_of_ble_eq_true rfl)
  · refine lv_iload_n hx hb dX6_requireTerm_4 rfl (lv_at hl 0 rfl) ?_
    refine lv_bipush (v := nI 12) hx hb dX6_requireTerm_5 (by decide) ?_
    refine lv_icmp_lt (tgt := 20) hx hb dX6_requireTerm_7 (by decide) (fun hc7 => ?_) (fun hc7 => ?_)
    · rw [hQ]
      refine vx_ret ?_
      refine W.widen (k := 1) (n := 6) (by omega) (by omega) ?_
      exact W.vret hx hb hr (fun t99 ht99 hW99 => ⟨⟨μ, rfl, (⟨rfl, hc1, hc7⟩), by show mw _ _ _ _ t99.heap; rw [ht99]; exact hP⟩, hS.F ht99⟩) hS.2.2 dX6_requireTerm_20
    · rw [hQ]
      exact kx_throw (is := 157) hx hb hlt hown (by decide +kernel) (hts (.classLink RX6 125 exA) (by decide +kernel)) (hts (.initialized exA) (by decide +kernel)) (List.mem_of_getElem? (i := 5) rfl) hKK.2.2.2.2.1.1 hDc (fun w9 h9 => hts w9 (List.mem_cons_of_mem _ (List.mem_append_right _ h9))) (by decide +kernel) (by decide +kernel) hKK hP hS (hl.1.trans hml.symm) dX6_requireTerm_10 dX6_requireTerm_13 dX6_requireTerm_14 dX6_requireTerm_16 dX6_requireTerm_19 hout (Nat.le_of_ble_eq_true rfl) (Nat.le_of_ble_eq_true rfl) (Nat.le_of_ble_eq_true rfl) (Nat.le_of_ble_eq_true rfl) (Nat.le_of_ble_eq_true rfl) hlocks (by refine ⟨rfl, fun h9 => ?_⟩; first | exact hc7 h9.2 | exact h9.1 hc1) (Nat.le_of_ble_eq_true rfl) (Nat.le_of_ble_eq_true rfl)

abbrev rm_X6_requireNumber : Room := { frames := 6, cells := 1, slots := 6, locals := 100 }
set_option maxHeartbeats 4000000 in
set_option maxRecDepth 100000 in
theorem c_X6_requireNumber (l : Launch) (hlt : l.stackTraces = false) (G : GG) (B : Nat) (μ : mp) (x9 : Int32) : vx_Met l yX6_requireNumber wsX6_requireNumber rm_X6_requireNumber (va_Pc [.int x9] (KX G B μ)) (va_Qv (fun μ2 => μ2 = μ ∧ okN x9) (BB G B) (fun q => B ≤ q)) (XX G B μ (fun E => E = exA ∧ ¬ okN x9)) 1 6 (fun q => B ≤ q) := by
  refine vx_ofW (cc := cX6_requireNumber) (maxL := 1) (ret := none) (by decide) rfl ?_
  intro p e s m args below meth c s₁ B9 hml hout hv
  obtain ⟨hargs, ⟨hBs, hP, hKK⟩, hDc⟩ := hv
  have hx := B9.exec
  have hb := B9.bytes
  have hr := B9.returns
  have hts := atoms_spec (ws := wsX6_requireNumber) B9.pre
  have hown : s.vm.findClass RX6 = some m.cls := findClass_of_methodNamed B9.named
  have hlocks := B9.notSynchronized
  have hK := hKK.k
  have hS : va_S (fun q => B ≤ q) s.heap s.heap [] := va_S.rf
  obtain ⟨Q, hQ⟩ : ∃ Q, Q = vx_MQ below (va_Qv (fun μ2 => μ2 = μ ∧ okN x9) (BB G B) (fun q => B ≤ q)) (XX G B μ (fun E => E = exA ∧ ¬ okN x9)) args s 1 6 (fun q => B ≤ q) := ⟨_, rfl⟩
  rw [← hQ]
  have hl := lv_entry ([.int x9]) (n := 1) (Nat.le_of_ble_eq_true rfl)
  have he9 : entryFrame m args 1 = entryFrame m ([.int x9] : List Value).toArray 1 := by rw [hargs]
  rw [he9, lg_entry_eq]
  generalize (lg_sl ([.int x9]) ++ List.replicate (1 - (lg_sl ([.int x9])).length) Slot.unset).toArray = ls at hl ⊢
  have hl : lv_has ls 1 [(0, .int x9)] := hl
  refine lv_iload_n hx hb dX6_requireNumber_0 rfl (lv_at hl 0 rfl) ?_
  refine lv_ldc (v := (-1000000)) hx hb hown (hts (.constant RX6 167 (-1000000)) (by decide +kernel)) dX6_requireNumber_1 ?_
  refine lv_icmp_lt (tgt := 12) hx hb dX6_requireNumber_3 (by decide) (fun hc3 => ?_) (fun hc3 => ?_)
  · rw [hQ]
    exact kx_throw (is := 169) hx hb hlt hown (by decide +kernel) (hts (.classLink RX6 125 exA) (by decide +kernel)) (hts (.initialized exA) (by decide +kernel)) (List.mem_of_getElem? (i := 7) rfl) hKK.2.2.2.2.1.1 hDc (fun w9 h9 => hts w9 (List.mem_cons_of_mem _ (List.mem_append_right _ h9))) (by decide +kernel) (by decide +kernel) hKK hP hS (hl.1.trans hml.symm) dX6_requireNumber_12 dX6_requireNumber_15 dX6_requireNumber_16 dX6_requireNumber_18 dX6_requireNumber_21 hout (Nat.le_of_ble_eq_true rfl) (Nat.le_of_ble_eq_true rfl) (Nat.le_of_ble_eq_true rfl) (Nat.le_of_ble_eq_true rfl) (Nat.le_of_ble_eq_true rfl) hlocks (by refine ⟨rfl, fun h9 => ?_⟩; first | exact hc9 h9.2 | exact h9.1 hc3) (Nat.le_of_ble_eq_true rfl) (Nat.le_of_ble_eq_true rfl)
  · refine lv_iload_n hx hb dX6_requireNumber_6 rfl (lv_at hl 0 rfl) ?_
    refine lv_ldc (v := (1000000)) hx hb hown (hts (.constant RX6 168 (1000000)) (by decide +kernel)) dX6_requireNumber_7 ?_
    refine nv_eqi (y := nI 1000000) (by decide) ?_
    refine lv_icmp_le (tgt := 22) hx hb dX6_requireNumber_9 (by decide) (fun hc9 => ?_) (fun hc9 => ?_)
    · rw [hQ]
      refine vx_ret ?_
      refine W.widen (k := 1) (n := 6) (by omega) (by omega) ?_
      exact W.vret hx hb hr (fun t99 ht99 hW99 => ⟨⟨μ, rfl, (⟨rfl, hc3, hc9⟩), by show mw _ _ _ _ t99.heap; rw [ht99]; exact hP⟩, hS.F ht99⟩) hS.2.2 dX6_requireNumber_22
    · rw [hQ]
      exact kx_throw (is := 169) hx hb hlt hown (by decide +kernel) (hts (.classLink RX6 125 exA) (by decide +kernel)) (hts (.initialized exA) (by decide +kernel)) (List.mem_of_getElem? (i := 7) rfl) hKK.2.2.2.2.1.1 hDc (fun w9 h9 => hts w9 (List.mem_cons_of_mem _ (List.mem_append_right _ h9))) (by decide +kernel) (by decide +kernel) hKK hP hS (hl.1.trans hml.symm) dX6_requireNumber_12 dX6_requireNumber_15 dX6_requireNumber_16 dX6_requireNumber_18 dX6_requireNumber_21 hout (Nat.le_of_ble_eq_true rfl) (Nat.le_of_ble_eq_true rfl) (Nat.le_of_ble_eq_true rfl) (Nat.le_of_ble_eq_true rfl) (Nat.le_of_ble_eq_true rfl) hlocks (by refine ⟨rfl, fun h9 => ?_⟩; first | exact hc9 h9.2 | exact h9.1 hc3) (Nat.le_of_ble_eq_true rfl) (Nat.le_of_ble_eq_true rfl)

abbrev rm_X6_requireTerms : Room := { frames := 7, cells := 3, slots := 18, locals := 120 }
set_option maxHeartbeats 4000000 in
set_option maxRecDepth 100000 in
theorem c_X6_requireTerms (l : Launch) (hlt : l.stackTraces = false) (G : GG) (B : Nat) (μ : mp) (x9 y9 : Int32) : vx_Met l yX6_requireTerms wsX6_requireTerms rm_X6_requireTerms (va_Pc [.int x9, .int y9] (KX G B μ)) (va_Qv (fun μ2 => μ2 = μ ∧ okP x9 y9) (BB G B) (fun q => B ≤ q)) (XX G B μ (fun E => E = exA ∧ ¬ okP x9 y9)) 3 18 (fun q => B ≤ q) := by
  refine vx_ofW (cc := cX6_requireTerms) (maxL := 2) (ret := none) (by decide) rfl ?_
  intro p e s m args below meth c s₁ B9 hml hout hv
  obtain ⟨hargs, ⟨hBs, hP, hKK⟩, hDc⟩ := hv
  have hx := B9.exec
  have hb := B9.bytes
  have hr := B9.returns
  have hts := atoms_spec (ws := wsX6_requireTerms) B9.pre
  have hown : s.vm.findClass RX6 = some m.cls := findClass_of_methodNamed B9.named
  have hlocks := B9.notSynchronized
  have hK := hKK.k
  have hS : va_S (fun q => B ≤ q) s.heap s.heap [] := va_S.rf
  obtain ⟨Q, hQ⟩ : ∃ Q, Q = vx_MQ below (va_Qv (fun μ2 => μ2 = μ ∧ okP x9 y9) (BB G B) (fun q => B ≤ q)) (XX G B μ (fun E => E = exA ∧ ¬ okP x9 y9)) args s 3 18 (fun q => B ≤ q) := ⟨_, rfl⟩
  rw [← hQ]
  have hl := lv_entry ([.int x9, .int y9]) (n := 2) (Nat.le_of_ble_eq_true rfl)
  have he9 : entryFrame m args 2 = entryFrame m ([.int x9, .int y9] : List Value).toArray 2 := by rw [hargs]
  rw [he9, lg_entry_eq]
  generalize (lg_sl ([.int x9, .int y9]) ++ List.replicate (2 - (lg_sl ([.int x9, .int y9])).length) Slot.unset).toArray = ls at hl ⊢
  have hl : lv_has ls 2 [(0, .int x9), (1, .int y9)] := hl
  refine lv_iload_n hx hb dX6_requireTerms_0 rfl (lv_at hl 0 rfl) ?_
  refine kx_v (vx_runS (As := [.int x9]) (rest := []) ⟨hx, hb, hml, hown, hts⟩ (c_X6_requireTerm l hlt G B (μ) x9) (va_cwS 1 hts gX6_requireTerms_X6_requireTerm rfl rfl rfl (by decide +kernel) ⟨Nat.le_of_ble_eq_true rfl, Nat.le_of_ble_eq_true rfl⟩) ⟨KX.blind, fun U9 hU9 hW9 => ⟨rfl, KW.pre hBs hKK hS hP U9 hU9 hW9, hDc.at hW9⟩⟩ rfl rfl hl.1 rfl (lv_room (Nat.le_of_ble_eq_true rfl)) dX6_requireTerms_1 ⟨(Nat.le_of_ble_eq_true rfl), (Nat.le_of_ble_eq_true rfl)⟩) hS (fun E ce q9 H locs hce hP hS h91 h92 h93 => ?_) (fun m1 H locs hq9 hP hz9 hS => ?_)
  · rw [hQ]
    exact kx_out hout hlocks h91 h92 h93 (⟨hce.1, fun h9 => hce.2 h9.1⟩) hP hS (Nat.le_of_ble_eq_true rfl) (Nat.le_of_ble_eq_true rfl)
  obtain ⟨he9, hk1⟩ := hq9
  rw [he9] at hP
  have hx1 := hk1
  obtain ⟨j1, hj1, ej1⟩ := ok_nat (by decide) hk1
  subst ej1
  refine lv_iload_n hx hb dX6_requireTerms_4 rfl (lv_at hl 1 rfl) ?_
  refine kx_v (vx_runS (As := [.int y9]) (rest := []) ⟨hx, hb, hml, hown, hts⟩ (c_X6_requireTerm l hlt G B (μ) y9) (va_cwS 1 hts gX6_requireTerms_X6_requireTerm rfl rfl rfl (by decide +kernel) ⟨Nat.le_of_ble_eq_true rfl, Nat.le_of_ble_eq_true rfl⟩) ⟨KX.blind, fun U9 hU9 hW9 => ⟨rfl, KW.pre hBs hKK hS hP U9 hU9 hW9, hDc.at hW9⟩⟩ rfl rfl hl.1 rfl (lv_room (Nat.le_of_ble_eq_true rfl)) dX6_requireTerms_5 ⟨(Nat.le_of_ble_eq_true rfl), (Nat.le_of_ble_eq_true rfl)⟩) hS (fun E ce q9 H locs hce hP hS h91 h92 h93 => ?_) (fun m5 H locs hq9 hP hz9 hS => ?_)
  · rw [hQ]
    exact kx_out hout hlocks h91 h92 h93 (⟨hce.1, fun h9 => hce.2 h9.2.1⟩) hP hS (Nat.le_of_ble_eq_true rfl) (Nat.le_of_ble_eq_true rfl)
  obtain ⟨he9, hk5⟩ := hq9
  rw [he9] at hP
  have hx5 := hk5
  obtain ⟨j5, hj5, ej5⟩ := ok_nat (by decide) hk5
  subst ej5
  refine lv_iload_n hx hb dX6_requireTerms_8 rfl (lv_at hl 0 rfl) ?_
  refine lv_iload_n hx hb dX6_requireTerms_9 rfl (lv_at hl 1 rfl) ?_
  refine kc_i (va_runS (As := [.int (nI j5)]) (rest := [.int (nI j1)]) ⟨hx, hb, hml, hown, hts⟩ (c_X6_negation l G B (μ) j5 (by omega)) (va_cwS 1 hts gX6_requireTerms_X6_negation rfl rfl rfl (by decide +kernel) ⟨Nat.le_of_ble_eq_true rfl, Nat.le_of_ble_eq_true rfl⟩) ⟨KW.blind, fun U9 hU9 hW9 => ⟨rfl, KW.pre hBs hKK hS hP U9 hU9 hW9⟩⟩ rfl rfl hl.1 rfl (lv_room (Nat.le_of_ble_eq_true rfl)) dX6_requireTerms_10 ⟨(Nat.le_of_ble_eq_true rfl), (Nat.le_of_ble_eq_true rfl)⟩) hS (fun r10 m10 H locs hq9 hP hz9 hS => ?_)
  obtain ⟨he9, rfl⟩ := hq9
  rw [he9] at hP
  have hne10 := ne_lt (p := j5) (by omega)
  refine nv_icmp_ne (tgt := 26) hx hb (by omega) (by omega) dX6_requireTerms_13 (by decide) (fun hc13 => ?_) (fun hc13 => ?_)
  · rw [hQ]
    refine vx_ret ?_
    refine W.widen (k := 3) (n := 18) (by omega) (by omega) ?_
    exact W.vret hx hb hr (fun t99 ht99 hW99 => ⟨⟨μ, rfl, (⟨rfl, hx1, hx5, fun h9 => hc13 (by rw [ne_x _ hj5] at h9; exact (nI_eq (by omega) (by omega)).mp h9)⟩), by show mw _ _ _ _ t99.heap; rw [ht99]; exact hP⟩, hS.F ht99⟩) hS.2.2 dX6_requireTerms_26
  · rw [hQ]
    exact kx_throw (is := 165) hx hb hlt hown (by decide +kernel) (hts (.classLink RX6 125 exA) (by decide +kernel)) (hts (.initialized exA) (by decide +kernel)) (List.mem_of_getElem? (i := 6) rfl) hKK.2.2.2.2.1.1 hDc (fun w9 h9 => hts w9 (List.mem_cons_of_mem _ (List.mem_append_right _ h9))) (by decide +kernel) (by decide +kernel) hKK hP hS (hl.1.trans hml.symm) dX6_requireTerms_16 dX6_requireTerms_19 dX6_requireTerms_20 dX6_requireTerms_22 dX6_requireTerms_25 hout (Nat.le_of_ble_eq_true rfl) (Nat.le_of_ble_eq_true rfl) (Nat.le_of_ble_eq_true rfl) (Nat.le_of_ble_eq_true rfl) (Nat.le_of_ble_eq_true rfl) hlocks (⟨rfl, fun h9 => h9.2.2 (by rw [ne_x _ hj5, hc13])⟩) (Nat.le_of_ble_eq_true rfl) (Nat.le_of_ble_eq_true rfl)

abbrev rm_X6_requireThreeSlots : Room := { frames := 7, cells := 3, slots := 18, locals := 120 }
set_option maxHeartbeats 4000000 in
set_option maxRecDepth 100000 in
theorem c_X6_requireThreeSlots (l : Launch) (hlt : l.stackTraces = false) (G : GG) (B : Nat) (μ : mp) (x9 y9 z9 : Int32) : vx_Met l yX6_requireThreeSlots wsX6_requireThreeSlots rm_X6_requireThreeSlots (va_Pc [.int x9, .int y9, .int z9] (KX G B μ)) (va_Qv (fun μ2 => μ2 = μ ∧ okS x9 ∧ okS y9 ∧ okS z9) (BB G B) (fun q => B ≤ q)) (XX G B μ (fun E => E = exA ∧ ¬ (okS x9 ∧ okS y9 ∧ okS z9))) 3 18 (fun q => B ≤ q) := by
  refine vx_ofW (cc := cX6_requireThreeSlots) (maxL := 3) (ret := none) (by decide) rfl ?_
  intro p e s m args below meth c s₁ B9 hml hout hv
  obtain ⟨hargs, ⟨hBs, hP, hKK⟩, hDc⟩ := hv
  have hx := B9.exec
  have hb := B9.bytes
  have hr := B9.returns
  have hts := atoms_spec (ws := wsX6_requireThreeSlots) B9.pre
  have hown : s.vm.findClass RX6 = some m.cls := findClass_of_methodNamed B9.named
  have hlocks := B9.notSynchronized
  have hK := hKK.k
  have hS : va_S (fun q => B ≤ q) s.heap s.heap [] := va_S.rf
  obtain ⟨Q, hQ⟩ : ∃ Q, Q = vx_MQ below (va_Qv (fun μ2 => μ2 = μ ∧ okS x9 ∧ okS y9 ∧ okS z9) (BB G B) (fun q => B ≤ q)) (XX G B μ (fun E => E = exA ∧ ¬ (okS x9 ∧ okS y9 ∧ okS z9))) args s 3 18 (fun q => B ≤ q) := ⟨_, rfl⟩
  rw [← hQ]
  have hl := lv_entry ([.int x9, .int y9, .int z9]) (n := 3) (Nat.le_of_ble_eq_true rfl)
  have he9 : entryFrame m args 3 = entryFrame m ([.int x9, .int y9, .int z9] : List Value).toArray 3 := by rw [hargs]
  rw [he9, lg_entry_eq]
  generalize (lg_sl ([.int x9, .int y9, .int z9]) ++ List.replicate (3 - (lg_sl ([.int x9, .int y9, .int z9])).length) Slot.unset).toArray = ls at hl ⊢
  have hl : lv_has ls 3 [(0, .int x9), (1, .int y9), (2, .int z9)] := hl
  refine lv_iload_n hx hb dX6_requireThreeSlots_0 rfl (lv_at hl 0 rfl) ?_
  refine kx_v (vx_runS (As := [.int x9]) (rest := []) ⟨hx, hb, hml, hown, hts⟩ (c_X6_requireSlot l hlt G B (μ) x9) (va_cwS 1 hts gX6_requireThreeSlots_X6_requireSlot rfl rfl rfl (by decide +kernel) ⟨Nat.le_of_ble_eq_true rfl, Nat.le_of_ble_eq_true rfl⟩) ⟨KX.blind, fun U9 hU9 hW9 => ⟨rfl, KW.pre hBs hKK hS hP U9 hU9 hW9, hDc.at hW9⟩⟩ rfl rfl hl.1 rfl (lv_room (Nat.le_of_ble_eq_true rfl)) dX6_requireThreeSlots_1 ⟨(Nat.le_of_ble_eq_true rfl), (Nat.le_of_ble_eq_true rfl)⟩) hS (fun E ce q9 H locs hce hP hS h91 h92 h93 => ?_) (fun m1 H locs hq9 hP hz9 hS => ?_)
  · rw [hQ]
    exact kx_out hout hlocks h91 h92 h93 (⟨hce.1, fun h9 => hce.2 h9.1⟩) hP hS (Nat.le_of_ble_eq_true rfl) (Nat.le_of_ble_eq_true rfl)
  obtain ⟨he9, hk1⟩ := hq9
  rw [he9] at hP
  have hx1 := hk1
  obtain ⟨j1, hj1, ej1⟩ := ok_nat (by decide) hk1
  subst ej1
  refine lv_iload_n hx hb dX6_requireThreeSlots_4 rfl (lv_at hl 1 rfl) ?_
  refine kx_v (vx_runS (As := [.int y9]) (rest := []) ⟨hx, hb, hml, hown, hts⟩ (c_X6_requireSlot l hlt G B (μ) y9) (va_cwS 1 hts gX6_requireThreeSlots_X6_requireSlot rfl rfl rfl (by decide +kernel) ⟨Nat.le_of_ble_eq_true rfl, Nat.le_of_ble_eq_true rfl⟩) ⟨KX.blind, fun U9 hU9 hW9 => ⟨rfl, KW.pre hBs hKK hS hP U9 hU9 hW9, hDc.at hW9⟩⟩ rfl rfl hl.1 rfl (lv_room (Nat.le_of_ble_eq_true rfl)) dX6_requireThreeSlots_5 ⟨(Nat.le_of_ble_eq_true rfl), (Nat.le_of_ble_eq_true rfl)⟩) hS (fun E ce q9 H locs hce hP hS h91 h92 h93 => ?_) (fun m5 H locs hq9 hP hz9 hS => ?_)
  · rw [hQ]
    exact kx_out hout hlocks h91 h92 h93 (⟨hce.1, fun h9 => hce.2 h9.2.1⟩) hP hS (Nat.le_of_ble_eq_true rfl) (Nat.le_of_ble_eq_true rfl)
  obtain ⟨he9, hk5⟩ := hq9
  rw [he9] at hP
  have hx5 := hk5
  obtain ⟨j5, hj5, ej5⟩ := ok_nat (by decide) hk5
  subst ej5
  refine lv_iload_n hx hb dX6_requireThreeSlots_8 rfl (lv_at hl 2 rfl) ?_
  refine kx_v (vx_runS (As := [.int z9]) (rest := []) ⟨hx, hb, hml, hown, hts⟩ (c_X6_requireSlot l hlt G B (μ) z9) (va_cwS 1 hts gX6_requireThreeSlots_X6_requireSlot rfl rfl rfl (by decide +kernel) ⟨Nat.le_of_ble_eq_true rfl, Nat.le_of_ble_eq_true rfl⟩) ⟨KX.blind, fun U9 hU9 hW9 => ⟨rfl, KW.pre hBs hKK hS hP U9 hU9 hW9, hDc.at hW9⟩⟩ rfl rfl hl.1 rfl (lv_room (Nat.le_of_ble_eq_true rfl)) dX6_requireThreeSlots_9 ⟨(Nat.le_of_ble_eq_true rfl), (Nat.le_of_ble_eq_true rfl)⟩) hS (fun E ce q9 H locs hce hP hS h91 h92 h93 => ?_) (fun m9 H locs hq9 hP hz9 hS => ?_)
  · rw [hQ]
    exact kx_out hout hlocks h91 h92 h93 (⟨hce.1, fun h9 => hce.2 h9.2.2⟩) hP hS (Nat.le_of_ble_eq_true rfl) (Nat.le_of_ble_eq_true rfl)
  obtain ⟨he9, hk9⟩ := hq9
  rw [he9] at hP
  have hx9 := hk9
  obtain ⟨j9, hj9, ej9⟩ := ok_nat (by decide) hk9
  subst ej9
  rw [hQ]
  refine vx_ret ?_
  refine W.widen (k := 3) (n := 18) (by omega) (by omega) ?_
  exact W.vret hx hb hr (fun t99 ht99 hW99 => ⟨⟨μ, rfl, (⟨rfl, hx1, hx5, hx9⟩), by show mw _ _ _ _ t99.heap; rw [ht99]; exact hP⟩, hS.F ht99⟩) hS.2.2 dX6_requireThreeSlots_12

abbrev rm_X6_requireAction : Room := { frames := 8, cells := 4, slots := 24, locals := 141 }
set_option maxHeartbeats 4000000 in
set_option maxRecDepth 100000 in
theorem c_X6_requireAction (l : Launch) (hlt : l.stackTraces = false) (G : GG) (B : Nat) (μ : mp) (k9 a9 b9 c9 : Int32) : vx_Met l yX6_requireAction wsX6_requireAction rm_X6_requireAction (va_Pc [.int k9, .int a9, .int b9, .int c9] (KX G B μ)) (va_Qv (fun μ2 => μ2 = μ ∧ okA k9 a9 b9 c9) (BB G B) (fun q => B ≤ q)) (XX G B μ (fun E => E = exA ∧ ¬ okA k9 a9 b9 c9)) 4 24 (fun q => B ≤ q) := by
  refine vx_ofW (cc := cX6_requireAction) (maxL := 4) (ret := none) (by decide) rfl ?_
  intro p e s m args below meth c s₁ B9 hml hout hv
  obtain ⟨hargs, ⟨hBs, hP, hKK⟩, hDc⟩ := hv
  have hx := B9.exec
  have hb := B9.bytes
  have hr := B9.returns
  have hts := atoms_spec (ws := wsX6_requireAction) B9.pre
  have hown : s.vm.findClass RX6 = some m.cls := findClass_of_methodNamed B9.named
  have hlocks := B9.notSynchronized
  have hK := hKK.k
  have hS : va_S (fun q => B ≤ q) s.heap s.heap [] := va_S.rf
  obtain ⟨Q, hQ⟩ : ∃ Q, Q = vx_MQ below (va_Qv (fun μ2 => μ2 = μ ∧ okA k9 a9 b9 c9) (BB G B) (fun q => B ≤ q)) (XX G B μ (fun E => E = exA ∧ ¬ okA k9 a9 b9 c9)) args s 4 24 (fun q => B ≤ q) := ⟨_, rfl⟩
  rw [← hQ]
  have hl := lv_entry ([.int k9, .int a9, .int b9, .int c9]) (n := 4) (Nat.le_of_ble_eq_true rfl)
  have he9 : entryFrame m args 4 = entryFrame m ([.int k9, .int a9, .int b9, .int c9] : List Value).toArray 4 := by rw [hargs]
  rw [he9, lg_entry_eq]
  generalize (lg_sl ([.int k9, .int a9, .int b9, .int c9]) ++ List.replicate (4 - (lg_sl ([.int k9, .int a9, .int b9, .int c9])).length) Slot.unset).toArray = ls at hl ⊢
  have hl : lv_has ls 4 [(0, .int k9), (1, .int a9), (2, .int b9), (3, .int c9)] := hl
  refine lv_iload_n hx hb dX6_requireAction_0 rfl (lv_at hl 3 rfl) ?_
  refine kx_v (vx_runS (As := [.int c9]) (rest := []) ⟨hx, hb, hml, hown, hts⟩ (c_X6_requireNumber l hlt G B (μ) c9) (va_cwS 1 hts gX6_requireAction_X6_requireNumber rfl rfl rfl (by decide +kernel) ⟨Nat.le_of_ble_eq_true rfl, Nat.le_of_ble_eq_true rfl⟩) ⟨KX.blind, fun U9 hU9 hW9 => ⟨rfl, KW.pre hBs hKK hS hP U9 hU9 hW9, hDc.at hW9⟩⟩ rfl rfl hl.1 rfl (lv_room (Nat.le_of_ble_eq_true rfl)) dX6_requireAction_1 ⟨(Nat.le_of_ble_eq_true rfl), (Nat.le_of_ble_eq_true rfl)⟩) hS (fun E ce q9 H locs hce hP hS h91 h92 h93 => ?_) (fun m1 H locs hq9 hP hz9 hS => ?_)
  · rw [hQ]
    exact kx_out hout hlocks h91 h92 h93 (⟨hce.1, fun h9 => hce.2 h9.1⟩) hP hS (Nat.le_of_ble_eq_true rfl) (Nat.le_of_ble_eq_true rfl)
  obtain ⟨he9, hk1⟩ := hq9
  rw [he9] at hP
  refine lv_iload_n hx hb dX6_requireAction_4 rfl (lv_at hl 0 rfl) ?_
  refine lv_if_ne (tgt := 16) hx hb dX6_requireAction_5 (by decide) (fun hc5 => ?_) (fun hc5 => ?_)
  · refine lv_iload_n hx hb dX6_requireAction_16 rfl (lv_at hl 0 rfl) ?_
    refine lv_iconst (v := nI 1) hx hb dX6_requireAction_17 (by decide) ?_
    refine lv_icmp_ne (tgt := 32) hx hb dX6_requireAction_18 (by decide) (fun hc18 => ?_) (fun hc18 => ?_)
    · refine lv_iload_n hx hb dX6_requireAction_32 rfl (lv_at hl 0 rfl) ?_
      refine lv_iconst (v := nI 2) hx hb dX6_requireAction_33 (by decide) ?_
      refine lv_icmp_ne (tgt := 60) hx hb dX6_requireAction_34 (by decide) (fun hc34 => ?_) (fun hc34 => ?_)
      · rw [hQ]
        exact kx_throw (is := 176) hx hb hlt hown (by decide +kernel) (hts (.classLink RX6 125 exA) (by decide +kernel)) (hts (.initialized exA) (by decide +kernel)) (List.mem_of_getElem? (i := 9) rfl) hKK.2.2.2.2.1.1 hDc (fun w9 h9 => hts w9 (List.mem_cons_of_mem _ (List.mem_append_right _ h9))) (by decide +kernel) (by decide +kernel) hKK hP hS (hl.1.trans hml.symm) dX6_requireAction_60 dX6_requireAction_63 dX6_requireAction_64 dX6_requireAction_66 dX6_requireAction_69 hout (Nat.le_of_ble_eq_true rfl) (Nat.le_of_ble_eq_true rfl) (Nat.le_of_ble_eq_true rfl) (Nat.le_of_ble_eq_true rfl) (Nat.le_of_ble_eq_true rfl) hlocks (⟨rfl, fun h9 => h9.kn hc5 hc18 hc34⟩) (Nat.le_of_ble_eq_true rfl) (Nat.le_of_ble_eq_true rfl)
      · refine lv_iload_n hx hb dX6_requireAction_37 rfl (lv_at hl 1 rfl) ?_
        refine kx_v (vx_runS (As := [.int a9]) (rest := []) ⟨hx, hb, hml, hown, hts⟩ (c_X6_requireVariable l hlt G B (μ) a9) (va_cwS 1 hts gX6_requireAction_X6_requireVariable rfl rfl rfl (by decide +kernel) ⟨Nat.le_of_ble_eq_true rfl, Nat.le_of_ble_eq_true rfl⟩) ⟨KX.blind, fun U9 hU9 hW9 => ⟨rfl, KW.pre hBs hKK hS hP U9 hU9 hW9, hDc.at hW9⟩⟩ rfl rfl hl.1 rfl (lv_room (Nat.le_of_ble_eq_true rfl)) dX6_requireAction_38 ⟨(Nat.le_of_ble_eq_true rfl), (Nat.le_of_ble_eq_true rfl)⟩) hS (fun E ce q9 H locs hce hP hS h91 h92 h93 => ?_) (fun m38 H locs hq9 hP hz9 hS => ?_)
        · rw [hQ]
          exact kx_out hout hlocks h91 h92 h93 (⟨hce.1, fun h9 => hce.2 (h9.k2 hc34).1⟩) hP hS (Nat.le_of_ble_eq_true rfl) (Nat.le_of_ble_eq_true rfl)
        obtain ⟨he9, hk38⟩ := hq9
        rw [he9] at hP
        have hx38 := hk38
        obtain ⟨j38, hj38, ej38⟩ := ok_nat (by decide) hk38
        subst ej38
        refine lv_iload_n hx hb dX6_requireAction_41 rfl (lv_at hl 2 rfl) ?_
        refine kx_v (vx_runS (As := [.int b9]) (rest := []) ⟨hx, hb, hml, hown, hts⟩ (c_X6_requireNumber l hlt G B (μ) b9) (va_cwS 1 hts gX6_requireAction_X6_requireNumber rfl rfl rfl (by decide +kernel) ⟨Nat.le_of_ble_eq_true rfl, Nat.le_of_ble_eq_true rfl⟩) ⟨KX.blind, fun U9 hU9 hW9 => ⟨rfl, KW.pre hBs hKK hS hP U9 hU9 hW9, hDc.at hW9⟩⟩ rfl rfl hl.1 rfl (lv_room (Nat.le_of_ble_eq_true rfl)) dX6_requireAction_42 ⟨(Nat.le_of_ble_eq_true rfl), (Nat.le_of_ble_eq_true rfl)⟩) hS (fun E ce q9 H locs hce hP hS h91 h92 h93 => ?_) (fun m42 H locs hq9 hP hz9 hS => ?_)
        · rw [hQ]
          exact kx_out hout hlocks h91 h92 h93 (⟨hce.1, fun h9 => hce.2 (h9.k2 hc34).2.1⟩) hP hS (Nat.le_of_ble_eq_true rfl) (Nat.le_of_ble_eq_true rfl)
        obtain ⟨he9, hk42⟩ := hq9
        rw [he9] at hP
        refine lv_iload_n hx hb dX6_requireAction_45 rfl (lv_at hl 2 rfl) ?_
        refine lv_iload_n hx hb dX6_requireAction_46 rfl (lv_at hl 3 rfl) ?_
        refine lv_icmp_le (tgt := 70) hx hb dX6_requireAction_47 (by decide) (fun hc47 => ?_) (fun hc47 => ?_)
        · rw [hQ]
          refine vx_ret ?_
          refine W.widen (k := 4) (n := 24) (by omega) (by omega) ?_
          exact W.vret hx hb hr (fun t99 ht99 hW99 => ⟨⟨μ, rfl, (⟨rfl, hk1, by first | exact Or.inl ⟨hc5, hk10⟩ | exact Or.inr (Or.inl ⟨hc18, hx22, hx26⟩) | exact Or.inr (Or.inr ⟨hc34, hx38, hk42, hc47⟩)⟩), by show mw _ _ _ _ t99.heap; rw [ht99]; exact hP⟩, hS.F ht99⟩) hS.2.2 dX6_requireAction_70
        · rw [hQ]
          exact kx_throw (is := 174) hx hb hlt hown (by decide +kernel) (hts (.classLink RX6 125 exA) (by decide +kernel)) (hts (.initialized exA) (by decide +kernel)) (List.mem_of_getElem? (i := 8) rfl) hKK.2.2.2.2.1.1 hDc (fun w9 h9 => hts w9 (List.mem_cons_of_mem _ (List.mem_append_right _ h9))) (by decide +kernel) (by decide +kernel) hKK hP hS (hl.1.trans hml.symm) dX6_requireAction_50 dX6_requireAction_53 dX6_requireAction_54 dX6_requireAction_56 dX6_requireAction_59 hout (Nat.le_of_ble_eq_true rfl) (Nat.le_of_ble_eq_true rfl) (Nat.le_of_ble_eq_true rfl) (Nat.le_of_ble_eq_true rfl) (Nat.le_of_ble_eq_true rfl) hlocks (⟨rfl, fun h9 => hc47 (h9.k2 hc34).2.2⟩) (Nat.le_of_ble_eq_true rfl) (Nat.le_of_ble_eq_true rfl)
    · refine lv_iload_n hx hb dX6_requireAction_21 rfl (lv_at hl 1 rfl) ?_
      refine kx_v (vx_runS (As := [.int a9]) (rest := []) ⟨hx, hb, hml, hown, hts⟩ (c_X6_requireVariable l hlt G B (μ) a9) (va_cwS 1 hts gX6_requireAction_X6_requireVariable rfl rfl rfl (by decide +kernel) ⟨Nat.le_of_ble_eq_true rfl, Nat.le_of_ble_eq_true rfl⟩) ⟨KX.blind, fun U9 hU9 hW9 => ⟨rfl, KW.pre hBs hKK hS hP U9 hU9 hW9, hDc.at hW9⟩⟩ rfl rfl hl.1 rfl (lv_room (Nat.le_of_ble_eq_true rfl)) dX6_requireAction_22 ⟨(Nat.le_of_ble_eq_true rfl), (Nat.le_of_ble_eq_true rfl)⟩) hS (fun E ce q9 H locs hce hP hS h91 h92 h93 => ?_) (fun m22 H locs hq9 hP hz9 hS => ?_)
      · rw [hQ]
        exact kx_out hout hlocks h91 h92 h93 (⟨hce.1, fun h9 => hce.2 (h9.k1 hc18).1⟩) hP hS (Nat.le_of_ble_eq_true rfl) (Nat.le_of_ble_eq_true rfl)
      obtain ⟨he9, hk22⟩ := hq9
      rw [he9] at hP
      have hx22 := hk22
      obtain ⟨j22, hj22, ej22⟩ := ok_nat (by decide) hk22
      subst ej22
      refine lv_iload_n hx hb dX6_requireAction_25 rfl (lv_at hl 2 rfl) ?_
      refine kx_v (vx_runS (As := [.int b9]) (rest := []) ⟨hx, hb, hml, hown, hts⟩ (c_X6_requireTerm l hlt G B (μ) b9) (va_cwS 1 hts gX6_requireAction_X6_requireTerm rfl rfl rfl (by decide +kernel) ⟨Nat.le_of_ble_eq_true rfl, Nat.le_of_ble_eq_true rfl⟩) ⟨KX.blind, fun U9 hU9 hW9 => ⟨rfl, KW.pre hBs hKK hS hP U9 hU9 hW9, hDc.at hW9⟩⟩ rfl rfl hl.1 rfl (lv_room (Nat.le_of_ble_eq_true rfl)) dX6_requireAction_26 ⟨(Nat.le_of_ble_eq_true rfl), (Nat.le_of_ble_eq_true rfl)⟩) hS (fun E ce q9 H locs hce hP hS h91 h92 h93 => ?_) (fun m26 H locs hq9 hP hz9 hS => ?_)
      · rw [hQ]
        exact kx_out hout hlocks h91 h92 h93 (⟨hce.1, fun h9 => hce.2 (h9.k1 hc18).2⟩) hP hS (Nat.le_of_ble_eq_true rfl) (Nat.le_of_ble_eq_true rfl)
      obtain ⟨he9, hk26⟩ := hq9
      rw [he9] at hP
      have hx26 := hk26
      obtain ⟨j26, hj26, ej26⟩ := ok_nat (by decide) hk26
      subst ej26
      refine lv_goto (tgt := 70) hx hb dX6_requireAction_29 (by decide) ?_
      rw [hQ]
      refine vx_ret ?_
      refine W.widen (k := 4) (n := 24) (by omega) (by omega) ?_
      exact W.vret hx hb hr (fun t99 ht99 hW99 => ⟨⟨μ, rfl, (⟨rfl, hk1, by first | exact Or.inl ⟨hc5, hk10⟩ | exact Or.inr (Or.inl ⟨hc18, hx22, hx26⟩) | exact Or.inr (Or.inr ⟨hc34, hx38, hk42, hc47⟩)⟩), by show mw _ _ _ _ t99.heap; rw [ht99]; exact hP⟩, hS.F ht99⟩) hS.2.2 dX6_requireAction_70
  · refine lv_iload_n hx hb dX6_requireAction_8 rfl (lv_at hl 1 rfl) ?_
    refine lv_iload_n hx hb dX6_requireAction_9 rfl (lv_at hl 2 rfl) ?_
    refine kx_v (vx_runS (As := [.int a9, .int b9]) (rest := []) ⟨hx, hb, hml, hown, hts⟩ (c_X6_requireTerms l hlt G B (μ) a9 b9) (va_cwS 2 hts gX6_requireAction_X6_requireTerms rfl rfl rfl (by decide +kernel) ⟨Nat.le_of_ble_eq_true rfl, Nat.le_of_ble_eq_true rfl⟩) ⟨KX.blind, fun U9 hU9 hW9 => ⟨rfl, KW.pre hBs hKK hS hP U9 hU9 hW9, hDc.at hW9⟩⟩ rfl rfl hl.1 rfl (lv_room (Nat.le_of_ble_eq_true rfl)) dX6_requireAction_10 ⟨(Nat.le_of_ble_eq_true rfl), (Nat.le_of_ble_eq_true rfl)⟩) hS (fun E ce q9 H locs hce hP hS h91 h92 h93 => ?_) (fun m10 H locs hq9 hP hz9 hS => ?_)
    · rw [hQ]
      exact kx_out hout hlocks h91 h92 h93 (⟨hce.1, fun h9 => hce.2 (h9.k0 hc5)⟩) hP hS (Nat.le_of_ble_eq_true rfl) (Nat.le_of_ble_eq_true rfl)
    obtain ⟨he9, hk10⟩ := hq9
    rw [he9] at hP
    refine lv_goto (tgt := 70) hx hb dX6_requireAction_13 (by decide) ?_
    rw [hQ]
    refine vx_ret ?_
    refine W.widen (k := 4) (n := 24) (by omega) (by omega) ?_
    exact W.vret hx hb hr (fun t99 ht99 hW99 => ⟨⟨μ, rfl, (⟨rfl, hk1, by first | exact Or.inl ⟨hc5, hk10⟩ | exact Or.inr (Or.inl ⟨hc18, hx22, hx26⟩) | exact Or.inr (Or.inr ⟨hc34, hx38, hk42, hc47⟩)⟩), by show mw _ _ _ _ t99.heap; rw [ht99]; exact hP⟩, hS.F ht99⟩) hS.2.2 dX6_requireAction_70
