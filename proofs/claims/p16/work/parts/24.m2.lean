abbrev rn_X4_clear : Room := { frames := 2, cells := 0, slots := 0, locals := 42 }
set_option maxHeartbeats 4000000 in
set_option maxRecDepth 100000 in
theorem m_X4_clear (l : Launch) (G : GG) (B : Nat) (μ : mp) (md ab av c1 c2 c3 c4 c5 c6 c7 c8 c9 fl st : Nat) (f : Nat → Int64) (v : Nat → Int32) (x9 : Int32) (hm : μ md = some (.inr (4, [.int (nI fl), .ref ab, .ref av, .int (nI st), .ref c1, .ref c2, .ref c3, .ref c4, .ref c5, .ref c6, .ref c7, .ref c8, .ref c9]))) (hab : μ ab = some (.inl (G.2 0, 3744, .inr (.inl f)))) (hav : μ av = some (.inl (G.2 2, 26, .inl v))) (hsy : Sym f) (hvb : VB v) : Met l yX4_clear wsX4_clear rn_X4_clear (va_Pc [.ref md, .int x9] (KW G B μ)) (va_Qv (fun μ2 => ∃ (fl9 : Nat) (g9 : Nat → Int64) (w9 : Nat → Int32), μ2 = mu (mu (mu μ md (.inr (4, [.int (nI fl9), .ref ab, .ref av, .int (nI st), .ref c1, .ref c2, .ref c3, .ref c4, .ref c5, .ref c6, .ref c7, .ref c8, .ref c9]))) ab (.inl (G.2 0, 3744, .inr (.inl g9)))) av (.inl (G.2 2, 26, .inl w9)) ∧ (Sym g9 ∧ VB w9) ∧ ((fl9 = 0 ∧ (okS x9)) ∨ (fl9 = 1 ∧ ¬ (okS x9)))) (BB G B) (fun q => B ≤ q)) 0 0 (fun q => B ≤ q) := by
  refine Met.ofW (cc := cX4_clear) (maxL := 2) (ret := none) (by decide) rfl ?_
  intro p e s m args below meth c s₁ B9 hml hv
  obtain ⟨hargs, hBs, hP, hKK⟩ := hv
  have hx := B9.exec
  have hb := B9.bytes
  have hr := B9.returns
  have hts := atoms_spec (ws := wsX4_clear) B9.pre
  have hown : s.vm.findClass RX4 = some m.cls := findClass_of_methodNamed B9.named
  have hlocks := B9.notSynchronized
  have hK := hKK.k
  have hS : va_S (fun q => B ≤ q) s.heap s.heap [] := va_S.rf
  obtain ⟨Q, hQ⟩ : ∃ Q, Q = MQ below (va_Qv (fun μ2 => ∃ (fl9 : Nat) (g9 : Nat → Int64) (w9 : Nat → Int32), μ2 = mu (mu (mu μ md (.inr (4, [.int (nI fl9), .ref ab, .ref av, .int (nI st), .ref c1, .ref c2, .ref c3, .ref c4, .ref c5, .ref c6, .ref c7, .ref c8, .ref c9]))) ab (.inl (G.2 0, 3744, .inr (.inl g9)))) av (.inl (G.2 2, 26, .inl w9)) ∧ (Sym g9 ∧ VB w9) ∧ ((fl9 = 0 ∧ (okS x9)) ∨ (fl9 = 1 ∧ ¬ (okS x9)))) (BB G B) (fun q => B ≤ q)) args s 0 0 (fun q => B ≤ q) := ⟨_, rfl⟩
  rw [← hQ]
  have ne0_1 : md ≠ ab := mp_ne hm hab (by simp)
  have ne0_2 : md ≠ av := mp_ne hm hav (by simp)
  have hP : mw G.1 vwCl B (mu (mu (mu μ md (.inr (4, [.int (nI fl), .ref ab, .ref av, .int (nI st), .ref c1, .ref c2, .ref c3, .ref c4, .ref c5, .ref c6, .ref c7, .ref c8, .ref c9]))) ab (.inl (G.2 0, 3744, .inr (.inl f)))) av (.inl (G.2 2, 26, .inl v))) s.heap := mw_eq ((congrArg (fun z => mu z av (.inl (G.2 2, 26, .inl v))) ((congrArg (fun z => mu z ab (.inl (G.2 0, 3744, .inr (.inl f)))) (mu_i hm)).trans (mu_i hab))).trans (mu_i hav)).symm hP
  have hl := lv_entry ([.ref md, .int x9]) (n := 2) (Nat.le_of_ble_eq_true rfl)
  have he9 : entryFrame m args 2 = entryFrame m ([.ref md, .int x9] : List Value).toArray 2 := by rw [hargs]
  rw [he9, lg_entry_eq]
  generalize (lg_sl ([.ref md, .int x9]) ++ List.replicate (2 - (lg_sl ([.ref md, .int x9])).length) Slot.unset).toArray = ls at hl ⊢
  have hl : lv_has ls 2 [(0, .ref md), (1, .int x9)] := hl
  refine lv_aload_n hx hb dX4_clear_0 rfl (lv_at hl 0 rfl) ?_
  refine lv_iload_n hx hb dX4_clear_1 rfl (lv_at hl 1 rfl) ?_
  refine kc_i (va_runS (As := [.int x9]) (rest := [.ref md]) ⟨hx, hb, hml, hown, hts⟩ (c_X4_isSlot l G B (mu (mu (mu μ md (.inr (4, [.int (nI fl), .ref ab, .ref av, .int (nI st), .ref c1, .ref c2, .ref c3, .ref c4, .ref c5, .ref c6, .ref c7, .ref c8, .ref c9]))) ab (.inl (G.2 0, 3744, .inr (.inl f)))) av (.inl (G.2 2, 26, .inl v))) x9) (va_cwS 1 hts gX4_clear_X4_isSlot rfl rfl rfl (by decide +kernel) ⟨Nat.le_of_ble_eq_true rfl, Nat.le_of_ble_eq_true rfl⟩) ⟨KW.blind, fun U9 hU9 hW9 => ⟨rfl, KW.pre hBs hKK hS hP U9 hU9 hW9⟩⟩ rfl rfl hl.1 rfl (lv_room (Nat.le_of_ble_eq_true rfl)) dX4_clear_2 ⟨(Nat.le_of_ble_eq_true rfl), (Nat.le_of_ble_eq_true rfl)⟩) hS (fun r2 m2 H locs hq9 hP hz9 hS => ?_)
  obtain ⟨he9, hy2⟩ := hq9
  rw [he9] at hP
  refine lv_if_eq (tgt := 12) hx hb dX4_clear_5 (by decide) (fun hc5 => ?_) (fun hc5 => ?_)
  · refine lv_iconst (v := nI 1) hx hb dX4_clear_12 (by decide) ?_
    refine kc_i (va_runV (As := [.int (nI 1)]) (rest := []) ⟨hx, hb, hml, hown, hts⟩ (c_X4_refused l G B (mu (mu (mu μ md (.inr (4, [.int (nI fl), .ref ab, .ref av, .int (nI st), .ref c1, .ref c2, .ref c3, .ref c4, .ref c5, .ref c6, .ref c7, .ref c8, .ref c9]))) ab (.inl (G.2 0, 3744, .inr (.inl f)))) av (.inl (G.2 2, 26, .inl v))) md ab av c1 c2 c3 c4 c5 c6 c7 c8 c9 fl st f v 1 ((mu_n ne0_2).trans ((mu_n ne0_1).trans (mu_s _ _ _))) ((mu_n ((mp_ne hab hav (by simp)))).trans (mu_s _ _ _)) (mu_s _ _ _) (by omega)) (cwV 1 hts gX4_clear_X4_refused rfl rfl rfl (by decide +kernel) ⟨Nat.le_of_ble_eq_true rfl, Nat.le_of_ble_eq_true rfl⟩) ⟨KW.blind, hP.recv hK rfl ((mu_n ne0_2).trans ((mu_n ne0_1).trans (mu_s _ _ _))), fun U9 hU9 hW9 => ⟨rfl, KW.pre hBs hKK hS hP U9 hU9 hW9⟩⟩ rfl rfl hl.1 rfl (lv_room (Nat.le_of_ble_eq_true rfl)) dX4_clear_13 ⟨(Nat.le_of_ble_eq_true rfl), (Nat.le_of_ble_eq_true rfl)⟩) hS (fun r13 m13 H locs hq9 hP hz9 hS => ?_)
    obtain ⟨he9, hw0, hw1⟩ := hq9
    rw [he9] at hP
    have hP : mw G.1 vwCl B (mu (mu (mu μ md (.inr (4, [.int (nI 1), .ref ab, .ref av, .int (nI st), .ref c1, .ref c2, .ref c3, .ref c4, .ref c5, .ref c6, .ref c7, .ref c8, .ref c9]))) ab (.inl (G.2 0, 3744, .inr (.inl f)))) av (.inl (G.2 2, 26, .inl v))) _ := mw_eq ((mu_c _ _ ((Ne.symm ne0_2))).trans (congrArg (fun z => mu z av (.inl (G.2 2, 26, .inl v))) ((mu_c _ _ ((Ne.symm ne0_1))).trans (congrArg (fun z => mu z ab (.inl (G.2 0, 3744, .inr (.inl f)))) (mu_u _ _ _ _))))) hP
    obtain rfl : r13 = nI 1 := hw1 (by decide)
    refine lv_if_ne (tgt := 24) hx hb dX4_clear_16 (by decide) (fun hc16 => ?_) (fun hc16 => ?_)
    · rw [hQ]
      exact W.vret hx hb hr (fun t99 ht99 hW99 => ⟨⟨mu (mu (mu μ md (.inr (4, [.int (nI 1), .ref ab, .ref av, .int (nI st), .ref c1, .ref c2, .ref c3, .ref c4, .ref c5, .ref c6, .ref c7, .ref c8, .ref c9]))) ab (.inl (G.2 0, 3744, .inr (.inl f)))) av (.inl (G.2 2, 26, .inl v)), rfl, (⟨_, _, _, rfl, ⟨hsy, hvb⟩, Or.inr ⟨rfl, fun h9 => by first | exact yn_f hy2 hc5 h9⟩⟩), by show mw _ _ _ _ t99.heap; rw [ht99]; exact hP⟩, hS.F ht99⟩) hS.2.2 dX4_clear_24
    · exact absurd hc16 (by decide)
  · refine lv_iconst (v := nI 0) hx hb dX4_clear_8 (by decide) ?_
    refine lv_goto (tgt := 13) hx hb dX4_clear_9 (by decide) ?_
    refine kc_i (va_runV (As := [.int (nI 0)]) (rest := []) ⟨hx, hb, hml, hown, hts⟩ (c_X4_refused l G B (mu (mu (mu μ md (.inr (4, [.int (nI fl), .ref ab, .ref av, .int (nI st), .ref c1, .ref c2, .ref c3, .ref c4, .ref c5, .ref c6, .ref c7, .ref c8, .ref c9]))) ab (.inl (G.2 0, 3744, .inr (.inl f)))) av (.inl (G.2 2, 26, .inl v))) md ab av c1 c2 c3 c4 c5 c6 c7 c8 c9 fl st f v 0 ((mu_n ne0_2).trans ((mu_n ne0_1).trans (mu_s _ _ _))) ((mu_n ((mp_ne hab hav (by simp)))).trans (mu_s _ _ _)) (mu_s _ _ _) (by omega)) (cwV 1 hts gX4_clear_X4_refused rfl rfl rfl (by decide +kernel) ⟨Nat.le_of_ble_eq_true rfl, Nat.le_of_ble_eq_true rfl⟩) ⟨KW.blind, hP.recv hK rfl ((mu_n ne0_2).trans ((mu_n ne0_1).trans (mu_s _ _ _))), fun U9 hU9 hW9 => ⟨rfl, KW.pre hBs hKK hS hP U9 hU9 hW9⟩⟩ rfl rfl hl.1 rfl (lv_room (Nat.le_of_ble_eq_true rfl)) dX4_clear_13 ⟨(Nat.le_of_ble_eq_true rfl), (Nat.le_of_ble_eq_true rfl)⟩) hS (fun r13 m13 H locs hq9 hP hz9 hS => ?_)
    obtain ⟨he9, hw0, hw1⟩ := hq9
    rw [he9] at hP
    have hP : mw G.1 vwCl B (mu (mu (mu μ md (.inr (4, [.int (nI 0), .ref ab, .ref av, .int (nI st), .ref c1, .ref c2, .ref c3, .ref c4, .ref c5, .ref c6, .ref c7, .ref c8, .ref c9]))) ab (.inl (G.2 0, 3744, .inr (.inl f)))) av (.inl (G.2 2, 26, .inl v))) _ := mw_eq ((mu_c _ _ ((Ne.symm ne0_2))).trans (congrArg (fun z => mu z av (.inl (G.2 2, 26, .inl v))) ((mu_c _ _ ((Ne.symm ne0_1))).trans (congrArg (fun z => mu z ab (.inl (G.2 0, 3744, .inr (.inl f)))) (mu_u _ _ _ _))))) hP
    obtain rfl : r13 = nI 0 := hw0 rfl
    refine lv_if_ne (tgt := 24) hx hb dX4_clear_16 (by decide) (fun hc16 => ?_) (fun hc16 => ?_)
    · exact absurd rfl hc16
    · have hok : okS x9 := yn_t hy2 hc5
      obtain ⟨nx9, hnx9, enx9⟩ := ok_nat (n := 6) (by decide) hok
      subst enx9
      refine lv_aload_n hx hb dX4_clear_19 rfl (lv_at hl 0 rfl) ?_
      refine lv_iload_n hx hb dX4_clear_20 rfl (lv_at hl 1 rfl) ?_
      refine kc_v (va_runV (As := [.int (nI nx9)]) (rest := []) ⟨hx, hb, hml, hown, hts⟩ (c_X4_all l G B (mu (mu (mu μ md (.inr (4, [.int (nI 0), .ref ab, .ref av, .int (nI st), .ref c1, .ref c2, .ref c3, .ref c4, .ref c5, .ref c6, .ref c7, .ref c8, .ref c9]))) ab (.inl (G.2 0, 3744, .inr (.inl f)))) av (.inl (G.2 2, 26, .inl v))) md ab av c1 c2 c3 c4 c5 c6 c7 c8 c9 0 st f v nx9 ((mu_n ne0_2).trans ((mu_n ne0_1).trans (mu_s _ _ _))) ((mu_n ((mp_ne hab hav (by simp)))).trans (mu_s _ _ _)) (mu_s _ _ _) (by omega)) (cwV 1 hts gX4_clear_X4_all rfl rfl rfl (by decide +kernel) ⟨Nat.le_of_ble_eq_true rfl, Nat.le_of_ble_eq_true rfl⟩) ⟨KW.blind, hP.recv hK rfl ((mu_n ne0_2).trans ((mu_n ne0_1).trans (mu_s _ _ _))), fun U9 hU9 hW9 => ⟨rfl, KW.pre hBs hKK hS hP U9 hU9 hW9⟩⟩ rfl rfl hl.1 rfl (lv_room (Nat.le_of_ble_eq_true rfl)) dX4_clear_21 ⟨(Nat.le_of_ble_eq_true rfl), (Nat.le_of_ble_eq_true rfl)⟩) hS (fun m21 H locs hq9 hP hz9 hS => ?_)
      obtain ⟨g21, he21, hL21⟩ := hq9
      rw [he21] at hP
      have hP : mw G.1 vwCl B (mu (mu (mu μ md (.inr (4, [.int (nI 0), .ref ab, .ref av, .int (nI st), .ref c1, .ref c2, .ref c3, .ref c4, .ref c5, .ref c6, .ref c7, .ref c8, .ref c9]))) ab (.inl (G.2 0, 3744, .inr (.inl g21)))) av (.inl (G.2 2, 26, .inl (upd v nx9 (nI 0))))) _ := mw_eq ((congrArg (fun z => mu z av (.inl (G.2 2, 26, .inl (upd v nx9 (nI 0))))) ((mu_c _ _ ((mp_ne hav hab (by simp)))).trans (congrArg (fun z => mu z av (.inl (G.2 2, 26, .inl v))) (mu_u _ _ _ _)))).trans (mu_u _ _ _ _)) hP
      rw [hQ]
      exact W.vret hx hb hr (fun t99 ht99 hW99 => ⟨⟨mu (mu (mu μ md (.inr (4, [.int (nI 0), .ref ab, .ref av, .int (nI st), .ref c1, .ref c2, .ref c3, .ref c4, .ref c5, .ref c6, .ref c7, .ref c8, .ref c9]))) ab (.inl (G.2 0, 3744, .inr (.inl g21)))) av (.inl (G.2 2, 26, .inl (upd v nx9 (nI 0)))), rfl, (⟨_, _, _, rfl, ⟨(hsy.al hL21), (VB.u hvb (Or.inl rfl))⟩, Or.inl ⟨rfl, hok⟩⟩), by show mw _ _ _ _ t99.heap; rw [ht99]; exact hP⟩, hS.F ht99⟩) hS.2.2 dX4_clear_24

abbrev rn_X4_copy : Room := { frames := 2, cells := 0, slots := 0, locals := 42 }
set_option maxHeartbeats 4000000 in
set_option maxRecDepth 100000 in
theorem m_X4_copy (l : Launch) (G : GG) (B : Nat) (μ : mp) (md ab av c1 c2 c3 c4 c5 c6 c7 c8 c9 fl st : Nat) (f : Nat → Int64) (v : Nat → Int32) (x9 y9 : Int32) (hm : μ md = some (.inr (4, [.int (nI fl), .ref ab, .ref av, .int (nI st), .ref c1, .ref c2, .ref c3, .ref c4, .ref c5, .ref c6, .ref c7, .ref c8, .ref c9]))) (hab : μ ab = some (.inl (G.2 0, 3744, .inr (.inl f)))) (hav : μ av = some (.inl (G.2 2, 26, .inl v))) (hsy : Sym f) (hvb : VB v) : Met l yX4_copy wsX4_copy rn_X4_copy (va_Pc [.ref md, .int x9, .int y9] (KW G B μ)) (va_Qv (fun μ2 => ∃ (fl9 : Nat) (g9 : Nat → Int64) (w9 : Nat → Int32), μ2 = mu (mu (mu μ md (.inr (4, [.int (nI fl9), .ref ab, .ref av, .int (nI st), .ref c1, .ref c2, .ref c3, .ref c4, .ref c5, .ref c6, .ref c7, .ref c8, .ref c9]))) ab (.inl (G.2 0, 3744, .inr (.inl g9)))) av (.inl (G.2 2, 26, .inl w9)) ∧ (Sym g9 ∧ VB w9) ∧ ((fl9 = 0 ∧ (okS x9 ∧ okS y9)) ∨ (fl9 = 1 ∧ ¬ (okS x9 ∧ okS y9)))) (BB G B) (fun q => B ≤ q)) 0 0 (fun q => B ≤ q) := by
  refine Met.ofW (cc := cX4_copy) (maxL := 3) (ret := none) (by decide) rfl ?_
  intro p e s m args below meth c s₁ B9 hml hv
  obtain ⟨hargs, hBs, hP, hKK⟩ := hv
  have hx := B9.exec
  have hb := B9.bytes
  have hr := B9.returns
  have hts := atoms_spec (ws := wsX4_copy) B9.pre
  have hown : s.vm.findClass RX4 = some m.cls := findClass_of_methodNamed B9.named
  have hlocks := B9.notSynchronized
  have hK := hKK.k
  have hS : va_S (fun q => B ≤ q) s.heap s.heap [] := va_S.rf
  obtain ⟨Q, hQ⟩ : ∃ Q, Q = MQ below (va_Qv (fun μ2 => ∃ (fl9 : Nat) (g9 : Nat → Int64) (w9 : Nat → Int32), μ2 = mu (mu (mu μ md (.inr (4, [.int (nI fl9), .ref ab, .ref av, .int (nI st), .ref c1, .ref c2, .ref c3, .ref c4, .ref c5, .ref c6, .ref c7, .ref c8, .ref c9]))) ab (.inl (G.2 0, 3744, .inr (.inl g9)))) av (.inl (G.2 2, 26, .inl w9)) ∧ (Sym g9 ∧ VB w9) ∧ ((fl9 = 0 ∧ (okS x9 ∧ okS y9)) ∨ (fl9 = 1 ∧ ¬ (okS x9 ∧ okS y9)))) (BB G B) (fun q => B ≤ q)) args s 0 0 (fun q => B ≤ q) := ⟨_, rfl⟩
  rw [← hQ]
  have ne0_1 : md ≠ ab := mp_ne hm hab (by simp)
  have ne0_2 : md ≠ av := mp_ne hm hav (by simp)
  have hP : mw G.1 vwCl B (mu (mu (mu μ md (.inr (4, [.int (nI fl), .ref ab, .ref av, .int (nI st), .ref c1, .ref c2, .ref c3, .ref c4, .ref c5, .ref c6, .ref c7, .ref c8, .ref c9]))) ab (.inl (G.2 0, 3744, .inr (.inl f)))) av (.inl (G.2 2, 26, .inl v))) s.heap := mw_eq ((congrArg (fun z => mu z av (.inl (G.2 2, 26, .inl v))) ((congrArg (fun z => mu z ab (.inl (G.2 0, 3744, .inr (.inl f)))) (mu_i hm)).trans (mu_i hab))).trans (mu_i hav)).symm hP
  have hl := lv_entry ([.ref md, .int x9, .int y9]) (n := 3) (Nat.le_of_ble_eq_true rfl)
  have he9 : entryFrame m args 3 = entryFrame m ([.ref md, .int x9, .int y9] : List Value).toArray 3 := by rw [hargs]
  rw [he9, lg_entry_eq]
  generalize (lg_sl ([.ref md, .int x9, .int y9]) ++ List.replicate (3 - (lg_sl ([.ref md, .int x9, .int y9])).length) Slot.unset).toArray = ls at hl ⊢
  have hl : lv_has ls 3 [(0, .ref md), (1, .int x9), (2, .int y9)] := hl
  refine lv_aload_n hx hb dX4_copy_0 rfl (lv_at hl 0 rfl) ?_
  refine lv_iload_n hx hb dX4_copy_1 rfl (lv_at hl 1 rfl) ?_
  refine kc_i (va_runS (As := [.int x9]) (rest := [.ref md]) ⟨hx, hb, hml, hown, hts⟩ (c_X4_isSlot l G B (mu (mu (mu μ md (.inr (4, [.int (nI fl), .ref ab, .ref av, .int (nI st), .ref c1, .ref c2, .ref c3, .ref c4, .ref c5, .ref c6, .ref c7, .ref c8, .ref c9]))) ab (.inl (G.2 0, 3744, .inr (.inl f)))) av (.inl (G.2 2, 26, .inl v))) x9) (va_cwS 1 hts gX4_copy_X4_isSlot rfl rfl rfl (by decide +kernel) ⟨Nat.le_of_ble_eq_true rfl, Nat.le_of_ble_eq_true rfl⟩) ⟨KW.blind, fun U9 hU9 hW9 => ⟨rfl, KW.pre hBs hKK hS hP U9 hU9 hW9⟩⟩ rfl rfl hl.1 rfl (lv_room (Nat.le_of_ble_eq_true rfl)) dX4_copy_2 ⟨(Nat.le_of_ble_eq_true rfl), (Nat.le_of_ble_eq_true rfl)⟩) hS (fun r2 m2 H locs hq9 hP hz9 hS => ?_)
  obtain ⟨he9, hy2⟩ := hq9
  rw [he9] at hP
  refine lv_if_eq (tgt := 19) hx hb dX4_copy_5 (by decide) (fun hc5 => ?_) (fun hc5 => ?_)
  · refine lv_iconst (v := nI 1) hx hb dX4_copy_19 (by decide) ?_
    refine kc_i (va_runV (As := [.int (nI 1)]) (rest := []) ⟨hx, hb, hml, hown, hts⟩ (c_X4_refused l G B (mu (mu (mu μ md (.inr (4, [.int (nI fl), .ref ab, .ref av, .int (nI st), .ref c1, .ref c2, .ref c3, .ref c4, .ref c5, .ref c6, .ref c7, .ref c8, .ref c9]))) ab (.inl (G.2 0, 3744, .inr (.inl f)))) av (.inl (G.2 2, 26, .inl v))) md ab av c1 c2 c3 c4 c5 c6 c7 c8 c9 fl st f v 1 ((mu_n ne0_2).trans ((mu_n ne0_1).trans (mu_s _ _ _))) ((mu_n ((mp_ne hab hav (by simp)))).trans (mu_s _ _ _)) (mu_s _ _ _) (by omega)) (cwV 1 hts gX4_copy_X4_refused rfl rfl rfl (by decide +kernel) ⟨Nat.le_of_ble_eq_true rfl, Nat.le_of_ble_eq_true rfl⟩) ⟨KW.blind, hP.recv hK rfl ((mu_n ne0_2).trans ((mu_n ne0_1).trans (mu_s _ _ _))), fun U9 hU9 hW9 => ⟨rfl, KW.pre hBs hKK hS hP U9 hU9 hW9⟩⟩ rfl rfl hl.1 rfl (lv_room (Nat.le_of_ble_eq_true rfl)) dX4_copy_20 ⟨(Nat.le_of_ble_eq_true rfl), (Nat.le_of_ble_eq_true rfl)⟩) hS (fun r20 m20 H locs hq9 hP hz9 hS => ?_)
    obtain ⟨he9, hw0, hw1⟩ := hq9
    rw [he9] at hP
    have hP : mw G.1 vwCl B (mu (mu (mu μ md (.inr (4, [.int (nI 1), .ref ab, .ref av, .int (nI st), .ref c1, .ref c2, .ref c3, .ref c4, .ref c5, .ref c6, .ref c7, .ref c8, .ref c9]))) ab (.inl (G.2 0, 3744, .inr (.inl f)))) av (.inl (G.2 2, 26, .inl v))) _ := mw_eq ((mu_c _ _ ((Ne.symm ne0_2))).trans (congrArg (fun z => mu z av (.inl (G.2 2, 26, .inl v))) ((mu_c _ _ ((Ne.symm ne0_1))).trans (congrArg (fun z => mu z ab (.inl (G.2 0, 3744, .inr (.inl f)))) (mu_u _ _ _ _))))) hP
    obtain rfl : r20 = nI 1 := hw1 (by decide)
    refine lv_if_ne (tgt := 32) hx hb dX4_copy_23 (by decide) (fun hc23 => ?_) (fun hc23 => ?_)
    · rw [hQ]
      exact W.vret hx hb hr (fun t99 ht99 hW99 => ⟨⟨mu (mu (mu μ md (.inr (4, [.int (nI 1), .ref ab, .ref av, .int (nI st), .ref c1, .ref c2, .ref c3, .ref c4, .ref c5, .ref c6, .ref c7, .ref c8, .ref c9]))) ab (.inl (G.2 0, 3744, .inr (.inl f)))) av (.inl (G.2 2, 26, .inl v)), rfl, (⟨_, _, _, rfl, ⟨hsy, hvb⟩, Or.inr ⟨rfl, fun h9 => by first | exact yn_f hy2 hc5 h9.1 | exact yn_f hy9 hc12 h9.2⟩⟩), by show mw _ _ _ _ t99.heap; rw [ht99]; exact hP⟩, hS.F ht99⟩) hS.2.2 dX4_copy_32
    · exact absurd hc23 (by decide)
  · refine lv_iload_n hx hb dX4_copy_8 rfl (lv_at hl 2 rfl) ?_
    refine kc_i (va_runS (As := [.int y9]) (rest := [.ref md]) ⟨hx, hb, hml, hown, hts⟩ (c_X4_isSlot l G B (mu (mu (mu μ md (.inr (4, [.int (nI fl), .ref ab, .ref av, .int (nI st), .ref c1, .ref c2, .ref c3, .ref c4, .ref c5, .ref c6, .ref c7, .ref c8, .ref c9]))) ab (.inl (G.2 0, 3744, .inr (.inl f)))) av (.inl (G.2 2, 26, .inl v))) y9) (va_cwS 1 hts gX4_copy_X4_isSlot rfl rfl rfl (by decide +kernel) ⟨Nat.le_of_ble_eq_true rfl, Nat.le_of_ble_eq_true rfl⟩) ⟨KW.blind, fun U9 hU9 hW9 => ⟨rfl, KW.pre hBs hKK hS hP U9 hU9 hW9⟩⟩ rfl rfl hl.1 rfl (lv_room (Nat.le_of_ble_eq_true rfl)) dX4_copy_9 ⟨(Nat.le_of_ble_eq_true rfl), (Nat.le_of_ble_eq_true rfl)⟩) hS (fun r9 m9 H locs hq9 hP hz9 hS => ?_)
    obtain ⟨he9, hy9⟩ := hq9
    rw [he9] at hP
    refine lv_if_eq (tgt := 19) hx hb dX4_copy_12 (by decide) (fun hc12 => ?_) (fun hc12 => ?_)
    · refine lv_iconst (v := nI 1) hx hb dX4_copy_19 (by decide) ?_
      refine kc_i (va_runV (As := [.int (nI 1)]) (rest := []) ⟨hx, hb, hml, hown, hts⟩ (c_X4_refused l G B (mu (mu (mu μ md (.inr (4, [.int (nI fl), .ref ab, .ref av, .int (nI st), .ref c1, .ref c2, .ref c3, .ref c4, .ref c5, .ref c6, .ref c7, .ref c8, .ref c9]))) ab (.inl (G.2 0, 3744, .inr (.inl f)))) av (.inl (G.2 2, 26, .inl v))) md ab av c1 c2 c3 c4 c5 c6 c7 c8 c9 fl st f v 1 ((mu_n ne0_2).trans ((mu_n ne0_1).trans (mu_s _ _ _))) ((mu_n ((mp_ne hab hav (by simp)))).trans (mu_s _ _ _)) (mu_s _ _ _) (by omega)) (cwV 1 hts gX4_copy_X4_refused rfl rfl rfl (by decide +kernel) ⟨Nat.le_of_ble_eq_true rfl, Nat.le_of_ble_eq_true rfl⟩) ⟨KW.blind, hP.recv hK rfl ((mu_n ne0_2).trans ((mu_n ne0_1).trans (mu_s _ _ _))), fun U9 hU9 hW9 => ⟨rfl, KW.pre hBs hKK hS hP U9 hU9 hW9⟩⟩ rfl rfl hl.1 rfl (lv_room (Nat.le_of_ble_eq_true rfl)) dX4_copy_20 ⟨(Nat.le_of_ble_eq_true rfl), (Nat.le_of_ble_eq_true rfl)⟩) hS (fun r20 m20 H locs hq9 hP hz9 hS => ?_)
      obtain ⟨he9, hw0, hw1⟩ := hq9
      rw [he9] at hP
      have hP : mw G.1 vwCl B (mu (mu (mu μ md (.inr (4, [.int (nI 1), .ref ab, .ref av, .int (nI st), .ref c1, .ref c2, .ref c3, .ref c4, .ref c5, .ref c6, .ref c7, .ref c8, .ref c9]))) ab (.inl (G.2 0, 3744, .inr (.inl f)))) av (.inl (G.2 2, 26, .inl v))) _ := mw_eq ((mu_c _ _ ((Ne.symm ne0_2))).trans (congrArg (fun z => mu z av (.inl (G.2 2, 26, .inl v))) ((mu_c _ _ ((Ne.symm ne0_1))).trans (congrArg (fun z => mu z ab (.inl (G.2 0, 3744, .inr (.inl f)))) (mu_u _ _ _ _))))) hP
      obtain rfl : r20 = nI 1 := hw1 (by decide)
      refine lv_if_ne (tgt := 32) hx hb dX4_copy_23 (by decide) (fun hc23 => ?_) (fun hc23 => ?_)
      · rw [hQ]
        exact W.vret hx hb hr (fun t99 ht99 hW99 => ⟨⟨mu (mu (mu μ md (.inr (4, [.int (nI 1), .ref ab, .ref av, .int (nI st), .ref c1, .ref c2, .ref c3, .ref c4, .ref c5, .ref c6, .ref c7, .ref c8, .ref c9]))) ab (.inl (G.2 0, 3744, .inr (.inl f)))) av (.inl (G.2 2, 26, .inl v)), rfl, (⟨_, _, _, rfl, ⟨hsy, hvb⟩, Or.inr ⟨rfl, fun h9 => by first | exact yn_f hy2 hc5 h9.1 | exact yn_f hy9 hc12 h9.2⟩⟩), by show mw _ _ _ _ t99.heap; rw [ht99]; exact hP⟩, hS.F ht99⟩) hS.2.2 dX4_copy_32
      · exact absurd hc23 (by decide)
    · refine lv_iconst (v := nI 0) hx hb dX4_copy_15 (by decide) ?_
      refine lv_goto (tgt := 20) hx hb dX4_copy_16 (by decide) ?_
      refine kc_i (va_runV (As := [.int (nI 0)]) (rest := []) ⟨hx, hb, hml, hown, hts⟩ (c_X4_refused l G B (mu (mu (mu μ md (.inr (4, [.int (nI fl), .ref ab, .ref av, .int (nI st), .ref c1, .ref c2, .ref c3, .ref c4, .ref c5, .ref c6, .ref c7, .ref c8, .ref c9]))) ab (.inl (G.2 0, 3744, .inr (.inl f)))) av (.inl (G.2 2, 26, .inl v))) md ab av c1 c2 c3 c4 c5 c6 c7 c8 c9 fl st f v 0 ((mu_n ne0_2).trans ((mu_n ne0_1).trans (mu_s _ _ _))) ((mu_n ((mp_ne hab hav (by simp)))).trans (mu_s _ _ _)) (mu_s _ _ _) (by omega)) (cwV 1 hts gX4_copy_X4_refused rfl rfl rfl (by decide +kernel) ⟨Nat.le_of_ble_eq_true rfl, Nat.le_of_ble_eq_true rfl⟩) ⟨KW.blind, hP.recv hK rfl ((mu_n ne0_2).trans ((mu_n ne0_1).trans (mu_s _ _ _))), fun U9 hU9 hW9 => ⟨rfl, KW.pre hBs hKK hS hP U9 hU9 hW9⟩⟩ rfl rfl hl.1 rfl (lv_room (Nat.le_of_ble_eq_true rfl)) dX4_copy_20 ⟨(Nat.le_of_ble_eq_true rfl), (Nat.le_of_ble_eq_true rfl)⟩) hS (fun r20 m20 H locs hq9 hP hz9 hS => ?_)
      obtain ⟨he9, hw0, hw1⟩ := hq9
      rw [he9] at hP
      have hP : mw G.1 vwCl B (mu (mu (mu μ md (.inr (4, [.int (nI 0), .ref ab, .ref av, .int (nI st), .ref c1, .ref c2, .ref c3, .ref c4, .ref c5, .ref c6, .ref c7, .ref c8, .ref c9]))) ab (.inl (G.2 0, 3744, .inr (.inl f)))) av (.inl (G.2 2, 26, .inl v))) _ := mw_eq ((mu_c _ _ ((Ne.symm ne0_2))).trans (congrArg (fun z => mu z av (.inl (G.2 2, 26, .inl v))) ((mu_c _ _ ((Ne.symm ne0_1))).trans (congrArg (fun z => mu z ab (.inl (G.2 0, 3744, .inr (.inl f)))) (mu_u _ _ _ _))))) hP
      obtain rfl : r20 = nI 0 := hw0 rfl
      refine lv_if_ne (tgt := 32) hx hb dX4_copy_23 (by decide) (fun hc23 => ?_) (fun hc23 => ?_)
      · exact absurd rfl hc23
      · have hok : okS x9 ∧ okS y9 := ⟨yn_t hy2 hc5, yn_t hy9 hc12⟩
        obtain ⟨nx9, hnx9, enx9⟩ := ok_nat (n := 6) (by decide) hok.1
        subst enx9
        obtain ⟨ny9, hny9, eny9⟩ := ok_nat (n := 6) (by decide) hok.2
        subst eny9
        refine lv_aload_n hx hb dX4_copy_26 rfl (lv_at hl 0 rfl) ?_
        refine lv_iload_n hx hb dX4_copy_27 rfl (lv_at hl 1 rfl) ?_
        refine lv_iload_n hx hb dX4_copy_28 rfl (lv_at hl 2 rfl) ?_
        refine kc_v (va_runV (As := [.int (nI nx9), .int (nI ny9)]) (rest := []) ⟨hx, hb, hml, hown, hts⟩ (c_X4_load l G B (mu (mu (mu μ md (.inr (4, [.int (nI 0), .ref ab, .ref av, .int (nI st), .ref c1, .ref c2, .ref c3, .ref c4, .ref c5, .ref c6, .ref c7, .ref c8, .ref c9]))) ab (.inl (G.2 0, 3744, .inr (.inl f)))) av (.inl (G.2 2, 26, .inl v))) md ab av c1 c2 c3 c4 c5 c6 c7 c8 c9 0 st f v nx9 ny9 ((mu_n ne0_2).trans ((mu_n ne0_1).trans (mu_s _ _ _))) ((mu_n ((mp_ne hab hav (by simp)))).trans (mu_s _ _ _)) (mu_s _ _ _) (by omega) (by omega) (hvb ny9)) (cwV 2 hts gX4_copy_X4_load rfl rfl rfl (by decide +kernel) ⟨Nat.le_of_ble_eq_true rfl, Nat.le_of_ble_eq_true rfl⟩) ⟨KW.blind, hP.recv hK rfl ((mu_n ne0_2).trans ((mu_n ne0_1).trans (mu_s _ _ _))), fun U9 hU9 hW9 => ⟨rfl, KW.pre hBs hKK hS hP U9 hU9 hW9⟩⟩ rfl rfl hl.1 rfl (lv_room (Nat.le_of_ble_eq_true rfl)) dX4_copy_29 ⟨(Nat.le_of_ble_eq_true rfl), (Nat.le_of_ble_eq_true rfl)⟩) hS (fun m29 H locs hq9 hP hz9 hS => ?_)
        obtain ⟨g29, he29, hL29⟩ := hq9
        rw [he29] at hP
        have hP : mw G.1 vwCl B (mu (mu (mu μ md (.inr (4, [.int (nI 0), .ref ab, .ref av, .int (nI st), .ref c1, .ref c2, .ref c3, .ref c4, .ref c5, .ref c6, .ref c7, .ref c8, .ref c9]))) ab (.inl (G.2 0, 3744, .inr (.inl g29)))) av (.inl (G.2 2, 26, .inl (upd v nx9 (v ny9))))) _ := mw_eq ((congrArg (fun z => mu z av (.inl (G.2 2, 26, .inl (upd v nx9 (v ny9))))) ((mu_c _ _ ((mp_ne hav hab (by simp)))).trans (congrArg (fun z => mu z av (.inl (G.2 2, 26, .inl v))) (mu_u _ _ _ _)))).trans (mu_u _ _ _ _)) hP
        rw [hQ]
        exact W.vret hx hb hr (fun t99 ht99 hW99 => ⟨⟨mu (mu (mu μ md (.inr (4, [.int (nI 0), .ref ab, .ref av, .int (nI st), .ref c1, .ref c2, .ref c3, .ref c4, .ref c5, .ref c6, .ref c7, .ref c8, .ref c9]))) ab (.inl (G.2 0, 3744, .inr (.inl g29)))) av (.inl (G.2 2, 26, .inl (upd v nx9 (v ny9)))), rfl, (⟨_, _, _, rfl, ⟨(hsy.ld hL29 (by omega)), (VB.u hvb (hvb ny9))⟩, Or.inl ⟨rfl, hok⟩⟩), by show mw _ _ _ _ t99.heap; rw [ht99]; exact hP⟩, hS.F ht99⟩) hS.2.2 dX4_copy_32

abbrev rn_X4_forget : Room := { frames := 2, cells := 0, slots := 0, locals := 48 }
set_option maxHeartbeats 4000000 in
set_option maxRecDepth 100000 in
theorem m_X4_forget (l : Launch) (G : GG) (B : Nat) (μ : mp) (md ab av c1 c2 c3 c4 c5 c6 c7 c8 c9 fl st : Nat) (f : Nat → Int64) (v : Nat → Int32) (x9 y9 : Int32) (hm : μ md = some (.inr (4, [.int (nI fl), .ref ab, .ref av, .int (nI st), .ref c1, .ref c2, .ref c3, .ref c4, .ref c5, .ref c6, .ref c7, .ref c8, .ref c9]))) (hab : μ ab = some (.inl (G.2 0, 3744, .inr (.inl f)))) (hav : μ av = some (.inl (G.2 2, 26, .inl v))) (hsy : Sym f) (hvb : VB v) : Met l yX4_forget wsX4_forget rn_X4_forget (va_Pc [.ref md, .int x9, .int y9] (KW G B μ)) (va_Qv (fun μ2 => ∃ (fl9 : Nat) (g9 : Nat → Int64) (w9 : Nat → Int32), μ2 = mu (mu (mu μ md (.inr (4, [.int (nI fl9), .ref ab, .ref av, .int (nI st), .ref c1, .ref c2, .ref c3, .ref c4, .ref c5, .ref c6, .ref c7, .ref c8, .ref c9]))) ab (.inl (G.2 0, 3744, .inr (.inl g9)))) av (.inl (G.2 2, 26, .inl w9)) ∧ (Sym g9 ∧ VB w9) ∧ ((fl9 = 0 ∧ (okS x9 ∧ okS y9)) ∨ (fl9 = 1 ∧ ¬ (okS x9 ∧ okS y9)))) (BB G B) (fun q => B ≤ q)) 0 0 (fun q => B ≤ q) := by
  refine Met.ofW (cc := cX4_forget) (maxL := 3) (ret := none) (by decide) rfl ?_
  intro p e s m args below meth c s₁ B9 hml hv
  obtain ⟨hargs, hBs, hP, hKK⟩ := hv
  have hx := B9.exec
  have hb := B9.bytes
  have hr := B9.returns
  have hts := atoms_spec (ws := wsX4_forget) B9.pre
  have hown : s.vm.findClass RX4 = some m.cls := findClass_of_methodNamed B9.named
  have hlocks := B9.notSynchronized
  have hK := hKK.k
  have hS : va_S (fun q => B ≤ q) s.heap s.heap [] := va_S.rf
  obtain ⟨Q, hQ⟩ : ∃ Q, Q = MQ below (va_Qv (fun μ2 => ∃ (fl9 : Nat) (g9 : Nat → Int64) (w9 : Nat → Int32), μ2 = mu (mu (mu μ md (.inr (4, [.int (nI fl9), .ref ab, .ref av, .int (nI st), .ref c1, .ref c2, .ref c3, .ref c4, .ref c5, .ref c6, .ref c7, .ref c8, .ref c9]))) ab (.inl (G.2 0, 3744, .inr (.inl g9)))) av (.inl (G.2 2, 26, .inl w9)) ∧ (Sym g9 ∧ VB w9) ∧ ((fl9 = 0 ∧ (okS x9 ∧ okS y9)) ∨ (fl9 = 1 ∧ ¬ (okS x9 ∧ okS y9)))) (BB G B) (fun q => B ≤ q)) args s 0 0 (fun q => B ≤ q) := ⟨_, rfl⟩
  rw [← hQ]
  have ne0_1 : md ≠ ab := mp_ne hm hab (by simp)
  have ne0_2 : md ≠ av := mp_ne hm hav (by simp)
  have hP : mw G.1 vwCl B (mu (mu (mu μ md (.inr (4, [.int (nI fl), .ref ab, .ref av, .int (nI st), .ref c1, .ref c2, .ref c3, .ref c4, .ref c5, .ref c6, .ref c7, .ref c8, .ref c9]))) ab (.inl (G.2 0, 3744, .inr (.inl f)))) av (.inl (G.2 2, 26, .inl v))) s.heap := mw_eq ((congrArg (fun z => mu z av (.inl (G.2 2, 26, .inl v))) ((congrArg (fun z => mu z ab (.inl (G.2 0, 3744, .inr (.inl f)))) (mu_i hm)).trans (mu_i hab))).trans (mu_i hav)).symm hP
  have hl := lv_entry ([.ref md, .int x9, .int y9]) (n := 3) (Nat.le_of_ble_eq_true rfl)
  have he9 : entryFrame m args 3 = entryFrame m ([.ref md, .int x9, .int y9] : List Value).toArray 3 := by rw [hargs]
  rw [he9, lg_entry_eq]
  generalize (lg_sl ([.ref md, .int x9, .int y9]) ++ List.replicate (3 - (lg_sl ([.ref md, .int x9, .int y9])).length) Slot.unset).toArray = ls at hl ⊢
  have hl : lv_has ls 3 [(0, .ref md), (1, .int x9), (2, .int y9)] := hl
  refine lv_aload_n hx hb dX4_forget_0 rfl (lv_at hl 0 rfl) ?_
  refine lv_iload_n hx hb dX4_forget_1 rfl (lv_at hl 1 rfl) ?_
  refine kc_i (va_runS (As := [.int x9]) (rest := [.ref md]) ⟨hx, hb, hml, hown, hts⟩ (c_X4_isSlot l G B (mu (mu (mu μ md (.inr (4, [.int (nI fl), .ref ab, .ref av, .int (nI st), .ref c1, .ref c2, .ref c3, .ref c4, .ref c5, .ref c6, .ref c7, .ref c8, .ref c9]))) ab (.inl (G.2 0, 3744, .inr (.inl f)))) av (.inl (G.2 2, 26, .inl v))) x9) (va_cwS 1 hts gX4_forget_X4_isSlot rfl rfl rfl (by decide +kernel) ⟨Nat.le_of_ble_eq_true rfl, Nat.le_of_ble_eq_true rfl⟩) ⟨KW.blind, fun U9 hU9 hW9 => ⟨rfl, KW.pre hBs hKK hS hP U9 hU9 hW9⟩⟩ rfl rfl hl.1 rfl (lv_room (Nat.le_of_ble_eq_true rfl)) dX4_forget_2 ⟨(Nat.le_of_ble_eq_true rfl), (Nat.le_of_ble_eq_true rfl)⟩) hS (fun r2 m2 H locs hq9 hP hz9 hS => ?_)
  obtain ⟨he9, hy2⟩ := hq9
  rw [he9] at hP
  refine lv_if_eq (tgt := 21) hx hb dX4_forget_5 (by decide) (fun hc5 => ?_) (fun hc5 => ?_)
  · refine lv_iconst (v := nI 1) hx hb dX4_forget_21 (by decide) ?_
    refine kc_i (va_runV (As := [.int (nI 1)]) (rest := []) ⟨hx, hb, hml, hown, hts⟩ (c_X4_refused l G B (mu (mu (mu μ md (.inr (4, [.int (nI fl), .ref ab, .ref av, .int (nI st), .ref c1, .ref c2, .ref c3, .ref c4, .ref c5, .ref c6, .ref c7, .ref c8, .ref c9]))) ab (.inl (G.2 0, 3744, .inr (.inl f)))) av (.inl (G.2 2, 26, .inl v))) md ab av c1 c2 c3 c4 c5 c6 c7 c8 c9 fl st f v 1 ((mu_n ne0_2).trans ((mu_n ne0_1).trans (mu_s _ _ _))) ((mu_n ((mp_ne hab hav (by simp)))).trans (mu_s _ _ _)) (mu_s _ _ _) (by omega)) (cwV 1 hts gX4_forget_X4_refused rfl rfl rfl (by decide +kernel) ⟨Nat.le_of_ble_eq_true rfl, Nat.le_of_ble_eq_true rfl⟩) ⟨KW.blind, hP.recv hK rfl ((mu_n ne0_2).trans ((mu_n ne0_1).trans (mu_s _ _ _))), fun U9 hU9 hW9 => ⟨rfl, KW.pre hBs hKK hS hP U9 hU9 hW9⟩⟩ rfl rfl hl.1 rfl (lv_room (Nat.le_of_ble_eq_true rfl)) dX4_forget_22 ⟨(Nat.le_of_ble_eq_true rfl), (Nat.le_of_ble_eq_true rfl)⟩) hS (fun r22 m22 H locs hq9 hP hz9 hS => ?_)
    obtain ⟨he9, hw0, hw1⟩ := hq9
    rw [he9] at hP
    have hP : mw G.1 vwCl B (mu (mu (mu μ md (.inr (4, [.int (nI 1), .ref ab, .ref av, .int (nI st), .ref c1, .ref c2, .ref c3, .ref c4, .ref c5, .ref c6, .ref c7, .ref c8, .ref c9]))) ab (.inl (G.2 0, 3744, .inr (.inl f)))) av (.inl (G.2 2, 26, .inl v))) _ := mw_eq ((mu_c _ _ ((Ne.symm ne0_2))).trans (congrArg (fun z => mu z av (.inl (G.2 2, 26, .inl v))) ((mu_c _ _ ((Ne.symm ne0_1))).trans (congrArg (fun z => mu z ab (.inl (G.2 0, 3744, .inr (.inl f)))) (mu_u _ _ _ _))))) hP
    obtain rfl : r22 = nI 1 := hw1 (by decide)
    refine lv_if_ne (tgt := 34) hx hb dX4_forget_25 (by decide) (fun hc25 => ?_) (fun hc25 => ?_)
    · rw [hQ]
      exact W.vret hx hb hr (fun t99 ht99 hW99 => ⟨⟨mu (mu (mu μ md (.inr (4, [.int (nI 1), .ref ab, .ref av, .int (nI st), .ref c1, .ref c2, .ref c3, .ref c4, .ref c5, .ref c6, .ref c7, .ref c8, .ref c9]))) ab (.inl (G.2 0, 3744, .inr (.inl f)))) av (.inl (G.2 2, 26, .inl v)), rfl, (⟨_, _, _, rfl, ⟨hsy, hvb⟩, Or.inr ⟨rfl, fun h9 => by first | exact yn_f hy2 hc5 h9.1 | exact yn_f hy11 hc14 (isI_S.mpr h9.2)⟩⟩), by show mw _ _ _ _ t99.heap; rw [ht99]; exact hP⟩, hS.F ht99⟩) hS.2.2 dX4_forget_34
    · exact absurd hc25 (by decide)
  · refine lv_iload_n hx hb dX4_forget_8 rfl (lv_at hl 2 rfl) ?_
    refine lv_iconst (v := nI 0) hx hb dX4_forget_9 (by decide) ?_
    refine lv_iconst (v := nI 5) hx hb dX4_forget_10 (by decide) ?_
    refine kc_i (va_runS (As := [.int y9, .int (nI 0), .int (nI 5)]) (rest := [.ref md]) ⟨hx, hb, hml, hown, hts⟩ (c_X4_isIn l G B (mu (mu (mu μ md (.inr (4, [.int (nI fl), .ref ab, .ref av, .int (nI st), .ref c1, .ref c2, .ref c3, .ref c4, .ref c5, .ref c6, .ref c7, .ref c8, .ref c9]))) ab (.inl (G.2 0, 3744, .inr (.inl f)))) av (.inl (G.2 2, 26, .inl v))) y9 (nI 0) (nI 5)) (va_cwS 3 hts gX4_forget_X4_isIn rfl rfl rfl (by decide +kernel) ⟨Nat.le_of_ble_eq_true rfl, Nat.le_of_ble_eq_true rfl⟩) ⟨KW.blind, fun U9 hU9 hW9 => ⟨rfl, KW.pre hBs hKK hS hP U9 hU9 hW9⟩⟩ rfl rfl hl.1 rfl (lv_room (Nat.le_of_ble_eq_true rfl)) dX4_forget_11 ⟨(Nat.le_of_ble_eq_true rfl), (Nat.le_of_ble_eq_true rfl)⟩) hS (fun r11 m11 H locs hq9 hP hz9 hS => ?_)
    obtain ⟨he9, hy11⟩ := hq9
    rw [he9] at hP
    refine lv_if_eq (tgt := 21) hx hb dX4_forget_14 (by decide) (fun hc14 => ?_) (fun hc14 => ?_)
    · refine lv_iconst (v := nI 1) hx hb dX4_forget_21 (by decide) ?_
      refine kc_i (va_runV (As := [.int (nI 1)]) (rest := []) ⟨hx, hb, hml, hown, hts⟩ (c_X4_refused l G B (mu (mu (mu μ md (.inr (4, [.int (nI fl), .ref ab, .ref av, .int (nI st), .ref c1, .ref c2, .ref c3, .ref c4, .ref c5, .ref c6, .ref c7, .ref c8, .ref c9]))) ab (.inl (G.2 0, 3744, .inr (.inl f)))) av (.inl (G.2 2, 26, .inl v))) md ab av c1 c2 c3 c4 c5 c6 c7 c8 c9 fl st f v 1 ((mu_n ne0_2).trans ((mu_n ne0_1).trans (mu_s _ _ _))) ((mu_n ((mp_ne hab hav (by simp)))).trans (mu_s _ _ _)) (mu_s _ _ _) (by omega)) (cwV 1 hts gX4_forget_X4_refused rfl rfl rfl (by decide +kernel) ⟨Nat.le_of_ble_eq_true rfl, Nat.le_of_ble_eq_true rfl⟩) ⟨KW.blind, hP.recv hK rfl ((mu_n ne0_2).trans ((mu_n ne0_1).trans (mu_s _ _ _))), fun U9 hU9 hW9 => ⟨rfl, KW.pre hBs hKK hS hP U9 hU9 hW9⟩⟩ rfl rfl hl.1 rfl (lv_room (Nat.le_of_ble_eq_true rfl)) dX4_forget_22 ⟨(Nat.le_of_ble_eq_true rfl), (Nat.le_of_ble_eq_true rfl)⟩) hS (fun r22 m22 H locs hq9 hP hz9 hS => ?_)
      obtain ⟨he9, hw0, hw1⟩ := hq9
      rw [he9] at hP
      have hP : mw G.1 vwCl B (mu (mu (mu μ md (.inr (4, [.int (nI 1), .ref ab, .ref av, .int (nI st), .ref c1, .ref c2, .ref c3, .ref c4, .ref c5, .ref c6, .ref c7, .ref c8, .ref c9]))) ab (.inl (G.2 0, 3744, .inr (.inl f)))) av (.inl (G.2 2, 26, .inl v))) _ := mw_eq ((mu_c _ _ ((Ne.symm ne0_2))).trans (congrArg (fun z => mu z av (.inl (G.2 2, 26, .inl v))) ((mu_c _ _ ((Ne.symm ne0_1))).trans (congrArg (fun z => mu z ab (.inl (G.2 0, 3744, .inr (.inl f)))) (mu_u _ _ _ _))))) hP
      obtain rfl : r22 = nI 1 := hw1 (by decide)
      refine lv_if_ne (tgt := 34) hx hb dX4_forget_25 (by decide) (fun hc25 => ?_) (fun hc25 => ?_)
      · rw [hQ]
        exact W.vret hx hb hr (fun t99 ht99 hW99 => ⟨⟨mu (mu (mu μ md (.inr (4, [.int (nI 1), .ref ab, .ref av, .int (nI st), .ref c1, .ref c2, .ref c3, .ref c4, .ref c5, .ref c6, .ref c7, .ref c8, .ref c9]))) ab (.inl (G.2 0, 3744, .inr (.inl f)))) av (.inl (G.2 2, 26, .inl v)), rfl, (⟨_, _, _, rfl, ⟨hsy, hvb⟩, Or.inr ⟨rfl, fun h9 => by first | exact yn_f hy2 hc5 h9.1 | exact yn_f hy11 hc14 (isI_S.mpr h9.2)⟩⟩), by show mw _ _ _ _ t99.heap; rw [ht99]; exact hP⟩, hS.F ht99⟩) hS.2.2 dX4_forget_34
      · exact absurd hc25 (by decide)
    · refine lv_iconst (v := nI 0) hx hb dX4_forget_17 (by decide) ?_
      refine lv_goto (tgt := 22) hx hb dX4_forget_18 (by decide) ?_
      refine kc_i (va_runV (As := [.int (nI 0)]) (rest := []) ⟨hx, hb, hml, hown, hts⟩ (c_X4_refused l G B (mu (mu (mu μ md (.inr (4, [.int (nI fl), .ref ab, .ref av, .int (nI st), .ref c1, .ref c2, .ref c3, .ref c4, .ref c5, .ref c6, .ref c7, .ref c8, .ref c9]))) ab (.inl (G.2 0, 3744, .inr (.inl f)))) av (.inl (G.2 2, 26, .inl v))) md ab av c1 c2 c3 c4 c5 c6 c7 c8 c9 fl st f v 0 ((mu_n ne0_2).trans ((mu_n ne0_1).trans (mu_s _ _ _))) ((mu_n ((mp_ne hab hav (by simp)))).trans (mu_s _ _ _)) (mu_s _ _ _) (by omega)) (cwV 1 hts gX4_forget_X4_refused rfl rfl rfl (by decide +kernel) ⟨Nat.le_of_ble_eq_true rfl, Nat.le_of_ble_eq_true rfl⟩) ⟨KW.blind, hP.recv hK rfl ((mu_n ne0_2).trans ((mu_n ne0_1).trans (mu_s _ _ _))), fun U9 hU9 hW9 => ⟨rfl, KW.pre hBs hKK hS hP U9 hU9 hW9⟩⟩ rfl rfl hl.1 rfl (lv_room (Nat.le_of_ble_eq_true rfl)) dX4_forget_22 ⟨(Nat.le_of_ble_eq_true rfl), (Nat.le_of_ble_eq_true rfl)⟩) hS (fun r22 m22 H locs hq9 hP hz9 hS => ?_)
      obtain ⟨he9, hw0, hw1⟩ := hq9
      rw [he9] at hP
      have hP : mw G.1 vwCl B (mu (mu (mu μ md (.inr (4, [.int (nI 0), .ref ab, .ref av, .int (nI st), .ref c1, .ref c2, .ref c3, .ref c4, .ref c5, .ref c6, .ref c7, .ref c8, .ref c9]))) ab (.inl (G.2 0, 3744, .inr (.inl f)))) av (.inl (G.2 2, 26, .inl v))) _ := mw_eq ((mu_c _ _ ((Ne.symm ne0_2))).trans (congrArg (fun z => mu z av (.inl (G.2 2, 26, .inl v))) ((mu_c _ _ ((Ne.symm ne0_1))).trans (congrArg (fun z => mu z ab (.inl (G.2 0, 3744, .inr (.inl f)))) (mu_u _ _ _ _))))) hP
      obtain rfl : r22 = nI 0 := hw0 rfl
      refine lv_if_ne (tgt := 34) hx hb dX4_forget_25 (by decide) (fun hc25 => ?_) (fun hc25 => ?_)
      · exact absurd rfl hc25
      · have hok : okS x9 ∧ okS y9 := ⟨yn_t hy2 hc5, isI_S.mp (yn_t hy11 hc14)⟩
        obtain ⟨nx9, hnx9, enx9⟩ := ok_nat (n := 6) (by decide) hok.1
        subst enx9
        obtain ⟨ny9, hny9, eny9⟩ := ok_nat (n := 6) (by decide) hok.2
        subst eny9
        refine lv_aload_n hx hb dX4_forget_28 rfl (lv_at hl 0 rfl) ?_
        refine lv_iload_n hx hb dX4_forget_29 rfl (lv_at hl 1 rfl) ?_
        refine lv_iload_n hx hb dX4_forget_30 rfl (lv_at hl 2 rfl) ?_
        refine kc_v (va_runV (As := [.int (nI nx9), .int (nI ny9)]) (rest := []) ⟨hx, hb, hml, hown, hts⟩ (m_X4_drop l G B (mu (mu (mu μ md (.inr (4, [.int (nI 0), .ref ab, .ref av, .int (nI st), .ref c1, .ref c2, .ref c3, .ref c4, .ref c5, .ref c6, .ref c7, .ref c8, .ref c9]))) ab (.inl (G.2 0, 3744, .inr (.inl f)))) av (.inl (G.2 2, 26, .inl v))) md ab av c1 c2 c3 c4 c5 c6 c7 c8 c9 0 st f v nx9 ny9 ((mu_n ne0_2).trans ((mu_n ne0_1).trans (mu_s _ _ _))) ((mu_n ((mp_ne hab hav (by simp)))).trans (mu_s _ _ _)) (mu_s _ _ _) (by omega) (by omega) (hsy)) (cwV 2 hts gX4_forget_X4_drop rfl rfl rfl (by decide +kernel) ⟨Nat.le_of_ble_eq_true rfl, Nat.le_of_ble_eq_true rfl⟩) ⟨KW.blind, hP.recv hK rfl ((mu_n ne0_2).trans ((mu_n ne0_1).trans (mu_s _ _ _))), fun U9 hU9 hW9 => ⟨rfl, KW.pre hBs hKK hS hP U9 hU9 hW9⟩⟩ rfl rfl hl.1 rfl (lv_room (Nat.le_of_ble_eq_true rfl)) dX4_forget_31 ⟨(Nat.le_of_ble_eq_true rfl), (Nat.le_of_ble_eq_true rfl)⟩) hS (fun m31 H locs hq9 hP hz9 hS => ?_)
        obtain ⟨g31, he31, hA31⟩ := hq9
        rw [he31] at hP
        have hP : mw G.1 vwCl B (mu (mu (mu μ md (.inr (4, [.int (nI 0), .ref ab, .ref av, .int (nI st), .ref c1, .ref c2, .ref c3, .ref c4, .ref c5, .ref c6, .ref c7, .ref c8, .ref c9]))) ab (.inl (G.2 0, 3744, .inr (.inl g31)))) av (.inl (G.2 2, 26, .inl v))) _ := mw_eq ((mu_c _ _ ((mp_ne hav hab (by simp)))).trans (congrArg (fun z => mu z av (.inl (G.2 2, 26, .inl v))) (mu_u _ _ _ _))) hP
        rw [hQ]
        exact W.vret hx hb hr (fun t99 ht99 hW99 => ⟨⟨mu (mu (mu μ md (.inr (4, [.int (nI 0), .ref ab, .ref av, .int (nI st), .ref c1, .ref c2, .ref c3, .ref c4, .ref c5, .ref c6, .ref c7, .ref c8, .ref c9]))) ab (.inl (G.2 0, 3744, .inr (.inl g31)))) av (.inl (G.2 2, 26, .inl v)), rfl, (⟨_, _, _, rfl, ⟨hA31, hvb⟩, Or.inl ⟨rfl, hok⟩⟩), by show mw _ _ _ _ t99.heap; rw [ht99]; exact hP⟩, hS.F ht99⟩) hS.2.2 dX4_forget_34

abbrev rn_X4_join : Room := { frames := 3, cells := 0, slots := 0, locals := 64 }
set_option maxHeartbeats 4000000 in
set_option maxRecDepth 100000 in
theorem m_X4_join (l : Launch) (G : GG) (B : Nat) (μ : mp) (md ab av c1 c2 c3 c4 c5 c6 c7 c8 c9 fl st : Nat) (f : Nat → Int64) (v : Nat → Int32) (x9 y9 z9 : Int32) (hm : μ md = some (.inr (4, [.int (nI fl), .ref ab, .ref av, .int (nI st), .ref c1, .ref c2, .ref c3, .ref c4, .ref c5, .ref c6, .ref c7, .ref c8, .ref c9]))) (hab : μ ab = some (.inl (G.2 0, 3744, .inr (.inl f)))) (hav : μ av = some (.inl (G.2 2, 26, .inl v))) (hsy : Sym f) (hvb : VB v) : Met l yX4_join wsX4_join rn_X4_join (va_Pc [.ref md, .int x9, .int y9, .int z9] (KW G B μ)) (va_Qv (fun μ2 => ∃ (fl9 : Nat) (g9 : Nat → Int64) (w9 : Nat → Int32), μ2 = mu (mu (mu μ md (.inr (4, [.int (nI fl9), .ref ab, .ref av, .int (nI st), .ref c1, .ref c2, .ref c3, .ref c4, .ref c5, .ref c6, .ref c7, .ref c8, .ref c9]))) ab (.inl (G.2 0, 3744, .inr (.inl g9)))) av (.inl (G.2 2, 26, .inl w9)) ∧ (Sym g9 ∧ VB w9) ∧ ((fl9 = 0 ∧ (okS x9 ∧ okS y9 ∧ okS z9)) ∨ (fl9 = 1 ∧ ¬ (okS x9 ∧ okS y9 ∧ okS z9)))) (BB G B) (fun q => B ≤ q)) 0 0 (fun q => B ≤ q) := by
  refine Met.ofW (cc := cX4_join) (maxL := 4) (ret := none) (by decide) rfl ?_
  intro p e s m args below meth c s₁ B9 hml hv
  obtain ⟨hargs, hBs, hP, hKK⟩ := hv
  have hx := B9.exec
  have hb := B9.bytes
  have hr := B9.returns
  have hts := atoms_spec (ws := wsX4_join) B9.pre
  have hown : s.vm.findClass RX4 = some m.cls := findClass_of_methodNamed B9.named
  have hlocks := B9.notSynchronized
  have hK := hKK.k
  have hS : va_S (fun q => B ≤ q) s.heap s.heap [] := va_S.rf
  obtain ⟨Q, hQ⟩ : ∃ Q, Q = MQ below (va_Qv (fun μ2 => ∃ (fl9 : Nat) (g9 : Nat → Int64) (w9 : Nat → Int32), μ2 = mu (mu (mu μ md (.inr (4, [.int (nI fl9), .ref ab, .ref av, .int (nI st), .ref c1, .ref c2, .ref c3, .ref c4, .ref c5, .ref c6, .ref c7, .ref c8, .ref c9]))) ab (.inl (G.2 0, 3744, .inr (.inl g9)))) av (.inl (G.2 2, 26, .inl w9)) ∧ (Sym g9 ∧ VB w9) ∧ ((fl9 = 0 ∧ (okS x9 ∧ okS y9 ∧ okS z9)) ∨ (fl9 = 1 ∧ ¬ (okS x9 ∧ okS y9 ∧ okS z9)))) (BB G B) (fun q => B ≤ q)) args s 0 0 (fun q => B ≤ q) := ⟨_, rfl⟩
  rw [← hQ]
  have ne0_1 : md ≠ ab := mp_ne hm hab (by simp)
  have ne0_2 : md ≠ av := mp_ne hm hav (by simp)
  have hP : mw G.1 vwCl B (mu (mu (mu μ md (.inr (4, [.int (nI fl), .ref ab, .ref av, .int (nI st), .ref c1, .ref c2, .ref c3, .ref c4, .ref c5, .ref c6, .ref c7, .ref c8, .ref c9]))) ab (.inl (G.2 0, 3744, .inr (.inl f)))) av (.inl (G.2 2, 26, .inl v))) s.heap := mw_eq ((congrArg (fun z => mu z av (.inl (G.2 2, 26, .inl v))) ((congrArg (fun z => mu z ab (.inl (G.2 0, 3744, .inr (.inl f)))) (mu_i hm)).trans (mu_i hab))).trans (mu_i hav)).symm hP
  have hl := lv_entry ([.ref md, .int x9, .int y9, .int z9]) (n := 4) (Nat.le_of_ble_eq_true rfl)
  have he9 : entryFrame m args 4 = entryFrame m ([.ref md, .int x9, .int y9, .int z9] : List Value).toArray 4 := by rw [hargs]
  rw [he9, lg_entry_eq]
  generalize (lg_sl ([.ref md, .int x9, .int y9, .int z9]) ++ List.replicate (4 - (lg_sl ([.ref md, .int x9, .int y9, .int z9])).length) Slot.unset).toArray = ls at hl ⊢
  have hl : lv_has ls 4 [(0, .ref md), (1, .int x9), (2, .int y9), (3, .int z9)] := hl
  refine lv_aload_n hx hb dX4_join_0 rfl (lv_at hl 0 rfl) ?_
  refine lv_iload_n hx hb dX4_join_1 rfl (lv_at hl 1 rfl) ?_
  refine lv_iload_n hx hb dX4_join_2 rfl (lv_at hl 2 rfl) ?_
  refine lv_iload_n hx hb dX4_join_3 rfl (lv_at hl 3 rfl) ?_
  refine kc_i (va_runS (As := [.int x9, .int y9, .int z9]) (rest := [.ref md]) ⟨hx, hb, hml, hown, hts⟩ (c_X4_areSlots l G B (mu (mu (mu μ md (.inr (4, [.int (nI fl), .ref ab, .ref av, .int (nI st), .ref c1, .ref c2, .ref c3, .ref c4, .ref c5, .ref c6, .ref c7, .ref c8, .ref c9]))) ab (.inl (G.2 0, 3744, .inr (.inl f)))) av (.inl (G.2 2, 26, .inl v))) x9 y9 z9) (va_cwS 3 hts gX4_join_X4_areSlots rfl rfl rfl (by decide +kernel) ⟨Nat.le_of_ble_eq_true rfl, Nat.le_of_ble_eq_true rfl⟩) ⟨KW.blind, fun U9 hU9 hW9 => ⟨rfl, KW.pre hBs hKK hS hP U9 hU9 hW9⟩⟩ rfl rfl hl.1 rfl (lv_room (Nat.le_of_ble_eq_true rfl)) dX4_join_4 ⟨(Nat.le_of_ble_eq_true rfl), (Nat.le_of_ble_eq_true rfl)⟩) hS (fun r4 m4 H locs hq9 hP hz9 hS => ?_)
  obtain ⟨he9, hy4⟩ := hq9
  rw [he9] at hP
  refine lv_if_eq (tgt := 14) hx hb dX4_join_7 (by decide) (fun hc7 => ?_) (fun hc7 => ?_)
  · refine lv_iconst (v := nI 1) hx hb dX4_join_14 (by decide) ?_
    refine kc_i (va_runV (As := [.int (nI 1)]) (rest := []) ⟨hx, hb, hml, hown, hts⟩ (c_X4_refused l G B (mu (mu (mu μ md (.inr (4, [.int (nI fl), .ref ab, .ref av, .int (nI st), .ref c1, .ref c2, .ref c3, .ref c4, .ref c5, .ref c6, .ref c7, .ref c8, .ref c9]))) ab (.inl (G.2 0, 3744, .inr (.inl f)))) av (.inl (G.2 2, 26, .inl v))) md ab av c1 c2 c3 c4 c5 c6 c7 c8 c9 fl st f v 1 ((mu_n ne0_2).trans ((mu_n ne0_1).trans (mu_s _ _ _))) ((mu_n ((mp_ne hab hav (by simp)))).trans (mu_s _ _ _)) (mu_s _ _ _) (by omega)) (cwV 1 hts gX4_join_X4_refused rfl rfl rfl (by decide +kernel) ⟨Nat.le_of_ble_eq_true rfl, Nat.le_of_ble_eq_true rfl⟩) ⟨KW.blind, hP.recv hK rfl ((mu_n ne0_2).trans ((mu_n ne0_1).trans (mu_s _ _ _))), fun U9 hU9 hW9 => ⟨rfl, KW.pre hBs hKK hS hP U9 hU9 hW9⟩⟩ rfl rfl hl.1 rfl (lv_room (Nat.le_of_ble_eq_true rfl)) dX4_join_15 ⟨(Nat.le_of_ble_eq_true rfl), (Nat.le_of_ble_eq_true rfl)⟩) hS (fun r15 m15 H locs hq9 hP hz9 hS => ?_)
    obtain ⟨he9, hw0, hw1⟩ := hq9
    rw [he9] at hP
    have hP : mw G.1 vwCl B (mu (mu (mu μ md (.inr (4, [.int (nI 1), .ref ab, .ref av, .int (nI st), .ref c1, .ref c2, .ref c3, .ref c4, .ref c5, .ref c6, .ref c7, .ref c8, .ref c9]))) ab (.inl (G.2 0, 3744, .inr (.inl f)))) av (.inl (G.2 2, 26, .inl v))) _ := mw_eq ((mu_c _ _ ((Ne.symm ne0_2))).trans (congrArg (fun z => mu z av (.inl (G.2 2, 26, .inl v))) ((mu_c _ _ ((Ne.symm ne0_1))).trans (congrArg (fun z => mu z ab (.inl (G.2 0, 3744, .inr (.inl f)))) (mu_u _ _ _ _))))) hP
    obtain rfl : r15 = nI 1 := hw1 (by decide)
    refine lv_if_ne (tgt := 34) hx hb dX4_join_18 (by decide) (fun hc18 => ?_) (fun hc18 => ?_)
    · rw [hQ]
      exact W.vret hx hb hr (fun t99 ht99 hW99 => ⟨⟨mu (mu (mu μ md (.inr (4, [.int (nI 1), .ref ab, .ref av, .int (nI st), .ref c1, .ref c2, .ref c3, .ref c4, .ref c5, .ref c6, .ref c7, .ref c8, .ref c9]))) ab (.inl (G.2 0, 3744, .inr (.inl f)))) av (.inl (G.2 2, 26, .inl v)), rfl, (⟨_, _, _, rfl, ⟨hsy, hvb⟩, Or.inr ⟨rfl, fun h9 => by first | exact yn_f hy4 hc7 h9⟩⟩), by show mw _ _ _ _ t99.heap; rw [ht99]; exact hP⟩, hS.F ht99⟩) hS.2.2 dX4_join_34
    · exact absurd hc18 (by decide)
  · refine lv_iconst (v := nI 0) hx hb dX4_join_10 (by decide) ?_
    refine lv_goto (tgt := 15) hx hb dX4_join_11 (by decide) ?_
    refine kc_i (va_runV (As := [.int (nI 0)]) (rest := []) ⟨hx, hb, hml, hown, hts⟩ (c_X4_refused l G B (mu (mu (mu μ md (.inr (4, [.int (nI fl), .ref ab, .ref av, .int (nI st), .ref c1, .ref c2, .ref c3, .ref c4, .ref c5, .ref c6, .ref c7, .ref c8, .ref c9]))) ab (.inl (G.2 0, 3744, .inr (.inl f)))) av (.inl (G.2 2, 26, .inl v))) md ab av c1 c2 c3 c4 c5 c6 c7 c8 c9 fl st f v 0 ((mu_n ne0_2).trans ((mu_n ne0_1).trans (mu_s _ _ _))) ((mu_n ((mp_ne hab hav (by simp)))).trans (mu_s _ _ _)) (mu_s _ _ _) (by omega)) (cwV 1 hts gX4_join_X4_refused rfl rfl rfl (by decide +kernel) ⟨Nat.le_of_ble_eq_true rfl, Nat.le_of_ble_eq_true rfl⟩) ⟨KW.blind, hP.recv hK rfl ((mu_n ne0_2).trans ((mu_n ne0_1).trans (mu_s _ _ _))), fun U9 hU9 hW9 => ⟨rfl, KW.pre hBs hKK hS hP U9 hU9 hW9⟩⟩ rfl rfl hl.1 rfl (lv_room (Nat.le_of_ble_eq_true rfl)) dX4_join_15 ⟨(Nat.le_of_ble_eq_true rfl), (Nat.le_of_ble_eq_true rfl)⟩) hS (fun r15 m15 H locs hq9 hP hz9 hS => ?_)
    obtain ⟨he9, hw0, hw1⟩ := hq9
    rw [he9] at hP
    have hP : mw G.1 vwCl B (mu (mu (mu μ md (.inr (4, [.int (nI 0), .ref ab, .ref av, .int (nI st), .ref c1, .ref c2, .ref c3, .ref c4, .ref c5, .ref c6, .ref c7, .ref c8, .ref c9]))) ab (.inl (G.2 0, 3744, .inr (.inl f)))) av (.inl (G.2 2, 26, .inl v))) _ := mw_eq ((mu_c _ _ ((Ne.symm ne0_2))).trans (congrArg (fun z => mu z av (.inl (G.2 2, 26, .inl v))) ((mu_c _ _ ((Ne.symm ne0_1))).trans (congrArg (fun z => mu z ab (.inl (G.2 0, 3744, .inr (.inl f)))) (mu_u _ _ _ _))))) hP
    obtain rfl : r15 = nI 0 := hw0 rfl
    refine lv_if_ne (tgt := 34) hx hb dX4_join_18 (by decide) (fun hc18 => ?_) (fun hc18 => ?_)
    · exact absurd rfl hc18
    · have hok : okS x9 ∧ okS y9 ∧ okS z9 := yn_t hy4 hc7
      obtain ⟨nx9, hnx9, enx9⟩ := ok_nat (n := 6) (by decide) hok.1
      subst enx9
      obtain ⟨ny9, hny9, eny9⟩ := ok_nat (n := 6) (by decide) hok.2.1
      subst eny9
      obtain ⟨nz9, hnz9, enz9⟩ := ok_nat (n := 6) (by decide) hok.2.2
      subst enz9
      refine lv_aload_n hx hb dX4_join_21 rfl (lv_at hl 0 rfl) ?_
      refine lv_iload_n hx hb dX4_join_22 rfl (lv_at hl 2 rfl) ?_
      refine lv_iload_n hx hb dX4_join_23 rfl (lv_at hl 3 rfl) ?_
      refine kc_v (va_runV (As := [.int (nI ny9), .int (nI nz9)]) (rest := []) ⟨hx, hb, hml, hown, hts⟩ (m_X4_joined l G B (mu (mu (mu μ md (.inr (4, [.int (nI 0), .ref ab, .ref av, .int (nI st), .ref c1, .ref c2, .ref c3, .ref c4, .ref c5, .ref c6, .ref c7, .ref c8, .ref c9]))) ab (.inl (G.2 0, 3744, .inr (.inl f)))) av (.inl (G.2 2, 26, .inl v))) md ab av c1 c2 c3 c4 c5 c6 c7 c8 c9 0 st f v ny9 nz9 ((mu_n ne0_2).trans ((mu_n ne0_1).trans (mu_s _ _ _))) ((mu_n ((mp_ne hab hav (by simp)))).trans (mu_s _ _ _)) (mu_s _ _ _) (by omega) (by omega) (by omega) (hsy) (hvb)) (cwV 2 hts gX4_join_X4_joined rfl rfl rfl (by decide +kernel) ⟨Nat.le_of_ble_eq_true rfl, Nat.le_of_ble_eq_true rfl⟩) ⟨KW.blind, hP.recv hK rfl ((mu_n ne0_2).trans ((mu_n ne0_1).trans (mu_s _ _ _))), fun U9 hU9 hW9 => ⟨rfl, KW.pre hBs hKK hS hP U9 hU9 hW9⟩⟩ rfl rfl hl.1 rfl (lv_room (Nat.le_of_ble_eq_true rfl)) dX4_join_24 ⟨(Nat.le_of_ble_eq_true rfl), (Nat.le_of_ble_eq_true rfl)⟩) hS (fun m24 H locs hq9 hP hz9 hS => ?_)
      obtain ⟨g24, w24, he24, hsy24, hvb24⟩ := hq9
      rw [he24] at hP
      have hP : mw G.1 vwCl B (mu (mu (mu μ md (.inr (4, [.int (nI 0), .ref ab, .ref av, .int (nI st), .ref c1, .ref c2, .ref c3, .ref c4, .ref c5, .ref c6, .ref c7, .ref c8, .ref c9]))) ab (.inl (G.2 0, 3744, .inr (.inl g24)))) av (.inl (G.2 2, 26, .inl w24))) _ := mw_eq ((congrArg (fun z => mu z av (.inl (G.2 2, 26, .inl w24))) ((mu_c _ _ ((mp_ne hav hab (by simp)))).trans (congrArg (fun z => mu z av (.inl (G.2 2, 26, .inl v))) (mu_u _ _ _ _)))).trans (mu_u _ _ _ _)) hP
      refine lv_aload_n hx hb dX4_join_27 rfl (lv_at hl 0 rfl) ?_
      refine lv_iload_n hx hb dX4_join_28 rfl (lv_at hl 1 rfl) ?_
      refine lv_bipush (v := nI 22) hx hb dX4_join_29 (by decide) ?_
      refine kc_v (va_runV (As := [.int (nI nx9), .int (nI 22)]) (rest := []) ⟨hx, hb, hml, hown, hts⟩ (c_X4_load l G B (mu (mu (mu μ md (.inr (4, [.int (nI 0), .ref ab, .ref av, .int (nI st), .ref c1, .ref c2, .ref c3, .ref c4, .ref c5, .ref c6, .ref c7, .ref c8, .ref c9]))) ab (.inl (G.2 0, 3744, .inr (.inl g24)))) av (.inl (G.2 2, 26, .inl w24))) md ab av c1 c2 c3 c4 c5 c6 c7 c8 c9 0 st g24 w24 nx9 22 ((mu_n ne0_2).trans ((mu_n ne0_1).trans (mu_s _ _ _))) ((mu_n ((mp_ne hab hav (by simp)))).trans (mu_s _ _ _)) (mu_s _ _ _) (by omega) (by omega) (hvb24 22)) (cwV 2 hts gX4_join_X4_load rfl rfl rfl (by decide +kernel) ⟨Nat.le_of_ble_eq_true rfl, Nat.le_of_ble_eq_true rfl⟩) ⟨KW.blind, hP.recv hK rfl ((mu_n ne0_2).trans ((mu_n ne0_1).trans (mu_s _ _ _))), fun U9 hU9 hW9 => ⟨rfl, KW.pre hBs hKK hS hP U9 hU9 hW9⟩⟩ rfl rfl hl.1 rfl (lv_room (Nat.le_of_ble_eq_true rfl)) dX4_join_31 ⟨(Nat.le_of_ble_eq_true rfl), (Nat.le_of_ble_eq_true rfl)⟩) hS (fun m31 H locs hq9 hP hz9 hS => ?_)
      obtain ⟨g31, he31, hL31⟩ := hq9
      rw [he31] at hP
      have hP : mw G.1 vwCl B (mu (mu (mu μ md (.inr (4, [.int (nI 0), .ref ab, .ref av, .int (nI st), .ref c1, .ref c2, .ref c3, .ref c4, .ref c5, .ref c6, .ref c7, .ref c8, .ref c9]))) ab (.inl (G.2 0, 3744, .inr (.inl g31)))) av (.inl (G.2 2, 26, .inl (upd w24 nx9 (w24 22))))) _ := mw_eq ((congrArg (fun z => mu z av (.inl (G.2 2, 26, .inl (upd w24 nx9 (w24 22))))) ((mu_c _ _ ((mp_ne hav hab (by simp)))).trans (congrArg (fun z => mu z av (.inl (G.2 2, 26, .inl w24))) (mu_u _ _ _ _)))).trans (mu_u _ _ _ _)) hP
      rw [hQ]
      exact W.vret hx hb hr (fun t99 ht99 hW99 => ⟨⟨mu (mu (mu μ md (.inr (4, [.int (nI 0), .ref ab, .ref av, .int (nI st), .ref c1, .ref c2, .ref c3, .ref c4, .ref c5, .ref c6, .ref c7, .ref c8, .ref c9]))) ab (.inl (G.2 0, 3744, .inr (.inl g31)))) av (.inl (G.2 2, 26, .inl (upd w24 nx9 (w24 22)))), rfl, (⟨_, _, _, rfl, ⟨(hsy24.ld hL31 (by omega)), (VB.u hvb24 (hvb24 22))⟩, Or.inl ⟨rfl, hok⟩⟩), by show mw _ _ _ _ t99.heap; rw [ht99]; exact hP⟩, hS.F ht99⟩) hS.2.2 dX4_join_34

abbrev rn_X4_widen : Room := { frames := 4, cells := 0, slots := 0, locals := 103 }
set_option maxHeartbeats 4000000 in
set_option maxRecDepth 100000 in
theorem m_X4_widen (l : Launch) (G : GG) (B : Nat) (μ : mp) (md ab av c1 c2 c3 c4 c5 c6 c7 c8 c9 fl st : Nat) (f : Nat → Int64) (v : Nat → Int32) (x9 y9 z9 : Int32) (hm : μ md = some (.inr (4, [.int (nI fl), .ref ab, .ref av, .int (nI st), .ref c1, .ref c2, .ref c3, .ref c4, .ref c5, .ref c6, .ref c7, .ref c8, .ref c9]))) (hab : μ ab = some (.inl (G.2 0, 3744, .inr (.inl f)))) (hav : μ av = some (.inl (G.2 2, 26, .inl v))) (hsy : Sym f) (hvb : VB v) : Met l yX4_widen wsX4_widen rn_X4_widen (va_Pc [.ref md, .int x9, .int y9, .int z9] (KW G B μ)) (va_Qv (fun μ2 => ∃ (fl9 : Nat) (g9 : Nat → Int64) (w9 : Nat → Int32), μ2 = mu (mu (mu μ md (.inr (4, [.int (nI fl9), .ref ab, .ref av, .int (nI st), .ref c1, .ref c2, .ref c3, .ref c4, .ref c5, .ref c6, .ref c7, .ref c8, .ref c9]))) ab (.inl (G.2 0, 3744, .inr (.inl g9)))) av (.inl (G.2 2, 26, .inl w9)) ∧ (Sym g9 ∧ VB w9) ∧ ((fl9 = 0 ∧ (okS x9 ∧ okS y9 ∧ okS z9)) ∨ (fl9 = 1 ∧ ¬ (okS x9 ∧ okS y9 ∧ okS z9)))) (BB G B) (fun q => B ≤ q)) 0 0 (fun q => B ≤ q) := by
  refine Met.ofW (cc := cX4_widen) (maxL := 4) (ret := none) (by decide) rfl ?_
  intro p e s m args below meth c s₁ B9 hml hv
  obtain ⟨hargs, hBs, hP, hKK⟩ := hv
  have hx := B9.exec
  have hb := B9.bytes
  have hr := B9.returns
  have hts := atoms_spec (ws := wsX4_widen) B9.pre
  have hown : s.vm.findClass RX4 = some m.cls := findClass_of_methodNamed B9.named
  have hlocks := B9.notSynchronized
  have hK := hKK.k
  have hS : va_S (fun q => B ≤ q) s.heap s.heap [] := va_S.rf
  obtain ⟨Q, hQ⟩ : ∃ Q, Q = MQ below (va_Qv (fun μ2 => ∃ (fl9 : Nat) (g9 : Nat → Int64) (w9 : Nat → Int32), μ2 = mu (mu (mu μ md (.inr (4, [.int (nI fl9), .ref ab, .ref av, .int (nI st), .ref c1, .ref c2, .ref c3, .ref c4, .ref c5, .ref c6, .ref c7, .ref c8, .ref c9]))) ab (.inl (G.2 0, 3744, .inr (.inl g9)))) av (.inl (G.2 2, 26, .inl w9)) ∧ (Sym g9 ∧ VB w9) ∧ ((fl9 = 0 ∧ (okS x9 ∧ okS y9 ∧ okS z9)) ∨ (fl9 = 1 ∧ ¬ (okS x9 ∧ okS y9 ∧ okS z9)))) (BB G B) (fun q => B ≤ q)) args s 0 0 (fun q => B ≤ q) := ⟨_, rfl⟩
  rw [← hQ]
  have ne0_1 : md ≠ ab := mp_ne hm hab (by simp)
  have ne0_2 : md ≠ av := mp_ne hm hav (by simp)
  have hP : mw G.1 vwCl B (mu (mu (mu μ md (.inr (4, [.int (nI fl), .ref ab, .ref av, .int (nI st), .ref c1, .ref c2, .ref c3, .ref c4, .ref c5, .ref c6, .ref c7, .ref c8, .ref c9]))) ab (.inl (G.2 0, 3744, .inr (.inl f)))) av (.inl (G.2 2, 26, .inl v))) s.heap := mw_eq ((congrArg (fun z => mu z av (.inl (G.2 2, 26, .inl v))) ((congrArg (fun z => mu z ab (.inl (G.2 0, 3744, .inr (.inl f)))) (mu_i hm)).trans (mu_i hab))).trans (mu_i hav)).symm hP
  have hl := lv_entry ([.ref md, .int x9, .int y9, .int z9]) (n := 4) (Nat.le_of_ble_eq_true rfl)
  have he9 : entryFrame m args 4 = entryFrame m ([.ref md, .int x9, .int y9, .int z9] : List Value).toArray 4 := by rw [hargs]
  rw [he9, lg_entry_eq]
  generalize (lg_sl ([.ref md, .int x9, .int y9, .int z9]) ++ List.replicate (4 - (lg_sl ([.ref md, .int x9, .int y9, .int z9])).length) Slot.unset).toArray = ls at hl ⊢
  have hl : lv_has ls 4 [(0, .ref md), (1, .int x9), (2, .int y9), (3, .int z9)] := hl
  refine lv_aload_n hx hb dX4_widen_0 rfl (lv_at hl 0 rfl) ?_
  refine lv_iload_n hx hb dX4_widen_1 rfl (lv_at hl 1 rfl) ?_
  refine lv_iload_n hx hb dX4_widen_2 rfl (lv_at hl 2 rfl) ?_
  refine lv_iload_n hx hb dX4_widen_3 rfl (lv_at hl 3 rfl) ?_
  refine kc_i (va_runS (As := [.int x9, .int y9, .int z9]) (rest := [.ref md]) ⟨hx, hb, hml, hown, hts⟩ (c_X4_areSlots l G B (mu (mu (mu μ md (.inr (4, [.int (nI fl), .ref ab, .ref av, .int (nI st), .ref c1, .ref c2, .ref c3, .ref c4, .ref c5, .ref c6, .ref c7, .ref c8, .ref c9]))) ab (.inl (G.2 0, 3744, .inr (.inl f)))) av (.inl (G.2 2, 26, .inl v))) x9 y9 z9) (va_cwS 3 hts gX4_widen_X4_areSlots rfl rfl rfl (by decide +kernel) ⟨Nat.le_of_ble_eq_true rfl, Nat.le_of_ble_eq_true rfl⟩) ⟨KW.blind, fun U9 hU9 hW9 => ⟨rfl, KW.pre hBs hKK hS hP U9 hU9 hW9⟩⟩ rfl rfl hl.1 rfl (lv_room (Nat.le_of_ble_eq_true rfl)) dX4_widen_4 ⟨(Nat.le_of_ble_eq_true rfl), (Nat.le_of_ble_eq_true rfl)⟩) hS (fun r4 m4 H locs hq9 hP hz9 hS => ?_)
  obtain ⟨he9, hy4⟩ := hq9
  rw [he9] at hP
  refine lv_if_eq (tgt := 14) hx hb dX4_widen_7 (by decide) (fun hc7 => ?_) (fun hc7 => ?_)
  · refine lv_iconst (v := nI 1) hx hb dX4_widen_14 (by decide) ?_
    refine kc_i (va_runV (As := [.int (nI 1)]) (rest := []) ⟨hx, hb, hml, hown, hts⟩ (c_X4_refused l G B (mu (mu (mu μ md (.inr (4, [.int (nI fl), .ref ab, .ref av, .int (nI st), .ref c1, .ref c2, .ref c3, .ref c4, .ref c5, .ref c6, .ref c7, .ref c8, .ref c9]))) ab (.inl (G.2 0, 3744, .inr (.inl f)))) av (.inl (G.2 2, 26, .inl v))) md ab av c1 c2 c3 c4 c5 c6 c7 c8 c9 fl st f v 1 ((mu_n ne0_2).trans ((mu_n ne0_1).trans (mu_s _ _ _))) ((mu_n ((mp_ne hab hav (by simp)))).trans (mu_s _ _ _)) (mu_s _ _ _) (by omega)) (cwV 1 hts gX4_widen_X4_refused rfl rfl rfl (by decide +kernel) ⟨Nat.le_of_ble_eq_true rfl, Nat.le_of_ble_eq_true rfl⟩) ⟨KW.blind, hP.recv hK rfl ((mu_n ne0_2).trans ((mu_n ne0_1).trans (mu_s _ _ _))), fun U9 hU9 hW9 => ⟨rfl, KW.pre hBs hKK hS hP U9 hU9 hW9⟩⟩ rfl rfl hl.1 rfl (lv_room (Nat.le_of_ble_eq_true rfl)) dX4_widen_15 ⟨(Nat.le_of_ble_eq_true rfl), (Nat.le_of_ble_eq_true rfl)⟩) hS (fun r15 m15 H locs hq9 hP hz9 hS => ?_)
    obtain ⟨he9, hw0, hw1⟩ := hq9
    rw [he9] at hP
    have hP : mw G.1 vwCl B (mu (mu (mu μ md (.inr (4, [.int (nI 1), .ref ab, .ref av, .int (nI st), .ref c1, .ref c2, .ref c3, .ref c4, .ref c5, .ref c6, .ref c7, .ref c8, .ref c9]))) ab (.inl (G.2 0, 3744, .inr (.inl f)))) av (.inl (G.2 2, 26, .inl v))) _ := mw_eq ((mu_c _ _ ((Ne.symm ne0_2))).trans (congrArg (fun z => mu z av (.inl (G.2 2, 26, .inl v))) ((mu_c _ _ ((Ne.symm ne0_1))).trans (congrArg (fun z => mu z ab (.inl (G.2 0, 3744, .inr (.inl f)))) (mu_u _ _ _ _))))) hP
    obtain rfl : r15 = nI 1 := hw1 (by decide)
    refine lv_if_ne (tgt := 34) hx hb dX4_widen_18 (by decide) (fun hc18 => ?_) (fun hc18 => ?_)
    · rw [hQ]
      exact W.vret hx hb hr (fun t99 ht99 hW99 => ⟨⟨mu (mu (mu μ md (.inr (4, [.int (nI 1), .ref ab, .ref av, .int (nI st), .ref c1, .ref c2, .ref c3, .ref c4, .ref c5, .ref c6, .ref c7, .ref c8, .ref c9]))) ab (.inl (G.2 0, 3744, .inr (.inl f)))) av (.inl (G.2 2, 26, .inl v)), rfl, (⟨_, _, _, rfl, ⟨hsy, hvb⟩, Or.inr ⟨rfl, fun h9 => by first | exact yn_f hy4 hc7 h9⟩⟩), by show mw _ _ _ _ t99.heap; rw [ht99]; exact hP⟩, hS.F ht99⟩) hS.2.2 dX4_widen_34
    · exact absurd hc18 (by decide)
  · refine lv_iconst (v := nI 0) hx hb dX4_widen_10 (by decide) ?_
    refine lv_goto (tgt := 15) hx hb dX4_widen_11 (by decide) ?_
    refine kc_i (va_runV (As := [.int (nI 0)]) (rest := []) ⟨hx, hb, hml, hown, hts⟩ (c_X4_refused l G B (mu (mu (mu μ md (.inr (4, [.int (nI fl), .ref ab, .ref av, .int (nI st), .ref c1, .ref c2, .ref c3, .ref c4, .ref c5, .ref c6, .ref c7, .ref c8, .ref c9]))) ab (.inl (G.2 0, 3744, .inr (.inl f)))) av (.inl (G.2 2, 26, .inl v))) md ab av c1 c2 c3 c4 c5 c6 c7 c8 c9 fl st f v 0 ((mu_n ne0_2).trans ((mu_n ne0_1).trans (mu_s _ _ _))) ((mu_n ((mp_ne hab hav (by simp)))).trans (mu_s _ _ _)) (mu_s _ _ _) (by omega)) (cwV 1 hts gX4_widen_X4_refused rfl rfl rfl (by decide +kernel) ⟨Nat.le_of_ble_eq_true rfl, Nat.le_of_ble_eq_true rfl⟩) ⟨KW.blind, hP.recv hK rfl ((mu_n ne0_2).trans ((mu_n ne0_1).trans (mu_s _ _ _))), fun U9 hU9 hW9 => ⟨rfl, KW.pre hBs hKK hS hP U9 hU9 hW9⟩⟩ rfl rfl hl.1 rfl (lv_room (Nat.le_of_ble_eq_true rfl)) dX4_widen_15 ⟨(Nat.le_of_ble_eq_true rfl), (Nat.le_of_ble_eq_true rfl)⟩) hS (fun r15 m15 H locs hq9 hP hz9 hS => ?_)
    obtain ⟨he9, hw0, hw1⟩ := hq9
    rw [he9] at hP
    have hP : mw G.1 vwCl B (mu (mu (mu μ md (.inr (4, [.int (nI 0), .ref ab, .ref av, .int (nI st), .ref c1, .ref c2, .ref c3, .ref c4, .ref c5, .ref c6, .ref c7, .ref c8, .ref c9]))) ab (.inl (G.2 0, 3744, .inr (.inl f)))) av (.inl (G.2 2, 26, .inl v))) _ := mw_eq ((mu_c _ _ ((Ne.symm ne0_2))).trans (congrArg (fun z => mu z av (.inl (G.2 2, 26, .inl v))) ((mu_c _ _ ((Ne.symm ne0_1))).trans (congrArg (fun z => mu z ab (.inl (G.2 0, 3744, .inr (.inl f)))) (mu_u _ _ _ _))))) hP
    obtain rfl : r15 = nI 0 := hw0 rfl
    refine lv_if_ne (tgt := 34) hx hb dX4_widen_18 (by decide) (fun hc18 => ?_) (fun hc18 => ?_)
    · exact absurd rfl hc18
    · have hok : okS x9 ∧ okS y9 ∧ okS z9 := yn_t hy4 hc7
      obtain ⟨nx9, hnx9, enx9⟩ := ok_nat (n := 6) (by decide) hok.1
      subst enx9
      obtain ⟨ny9, hny9, eny9⟩ := ok_nat (n := 6) (by decide) hok.2.1
      subst eny9
      obtain ⟨nz9, hnz9, enz9⟩ := ok_nat (n := 6) (by decide) hok.2.2
      subst enz9
      refine lv_aload_n hx hb dX4_widen_21 rfl (lv_at hl 0 rfl) ?_
      refine lv_iload_n hx hb dX4_widen_22 rfl (lv_at hl 2 rfl) ?_
      refine lv_iload_n hx hb dX4_widen_23 rfl (lv_at hl 3 rfl) ?_
      refine kc_v (va_runV (As := [.int (nI ny9), .int (nI nz9)]) (rest := []) ⟨hx, hb, hml, hown, hts⟩ (m_X4_widened l G B (mu (mu (mu μ md (.inr (4, [.int (nI 0), .ref ab, .ref av, .int (nI st), .ref c1, .ref c2, .ref c3, .ref c4, .ref c5, .ref c6, .ref c7, .ref c8, .ref c9]))) ab (.inl (G.2 0, 3744, .inr (.inl f)))) av (.inl (G.2 2, 26, .inl v))) md ab av c1 c2 c3 c4 c5 c6 c7 c8 c9 0 st f v ny9 nz9 ((mu_n ne0_2).trans ((mu_n ne0_1).trans (mu_s _ _ _))) ((mu_n ((mp_ne hab hav (by simp)))).trans (mu_s _ _ _)) (mu_s _ _ _) (by omega) (by omega) (by omega) (by omega) (hsy) (hvb)) (cwV 2 hts gX4_widen_X4_widened rfl rfl rfl (by decide +kernel) ⟨Nat.le_of_ble_eq_true rfl, Nat.le_of_ble_eq_true rfl⟩) ⟨KW.blind, hP.recv hK rfl ((mu_n ne0_2).trans ((mu_n ne0_1).trans (mu_s _ _ _))), fun U9 hU9 hW9 => ⟨rfl, KW.pre hBs hKK hS hP U9 hU9 hW9⟩⟩ rfl rfl hl.1 rfl (lv_room (Nat.le_of_ble_eq_true rfl)) dX4_widen_24 ⟨(Nat.le_of_ble_eq_true rfl), (Nat.le_of_ble_eq_true rfl)⟩) hS (fun m24 H locs hq9 hP hz9 hS => ?_)
      obtain ⟨g24, w24, he24, hsy24, hvb24⟩ := hq9
      rw [he24] at hP
      have hP : mw G.1 vwCl B (mu (mu (mu μ md (.inr (4, [.int (nI 0), .ref ab, .ref av, .int (nI st), .ref c1, .ref c2, .ref c3, .ref c4, .ref c5, .ref c6, .ref c7, .ref c8, .ref c9]))) ab (.inl (G.2 0, 3744, .inr (.inl g24)))) av (.inl (G.2 2, 26, .inl w24))) _ := mw_eq ((congrArg (fun z => mu z av (.inl (G.2 2, 26, .inl w24))) ((mu_c _ _ ((mp_ne hav hab (by simp)))).trans (congrArg (fun z => mu z av (.inl (G.2 2, 26, .inl v))) (mu_u _ _ _ _)))).trans (mu_u _ _ _ _)) hP
      refine lv_aload_n hx hb dX4_widen_27 rfl (lv_at hl 0 rfl) ?_
      refine lv_iload_n hx hb dX4_widen_28 rfl (lv_at hl 1 rfl) ?_
      refine lv_bipush (v := nI 23) hx hb dX4_widen_29 (by decide) ?_
      refine kc_v (va_runV (As := [.int (nI nx9), .int (nI 23)]) (rest := []) ⟨hx, hb, hml, hown, hts⟩ (c_X4_load l G B (mu (mu (mu μ md (.inr (4, [.int (nI 0), .ref ab, .ref av, .int (nI st), .ref c1, .ref c2, .ref c3, .ref c4, .ref c5, .ref c6, .ref c7, .ref c8, .ref c9]))) ab (.inl (G.2 0, 3744, .inr (.inl g24)))) av (.inl (G.2 2, 26, .inl w24))) md ab av c1 c2 c3 c4 c5 c6 c7 c8 c9 0 st g24 w24 nx9 23 ((mu_n ne0_2).trans ((mu_n ne0_1).trans (mu_s _ _ _))) ((mu_n ((mp_ne hab hav (by simp)))).trans (mu_s _ _ _)) (mu_s _ _ _) (by omega) (by omega) (hvb24 23)) (cwV 2 hts gX4_widen_X4_load rfl rfl rfl (by decide +kernel) ⟨Nat.le_of_ble_eq_true rfl, Nat.le_of_ble_eq_true rfl⟩) ⟨KW.blind, hP.recv hK rfl ((mu_n ne0_2).trans ((mu_n ne0_1).trans (mu_s _ _ _))), fun U9 hU9 hW9 => ⟨rfl, KW.pre hBs hKK hS hP U9 hU9 hW9⟩⟩ rfl rfl hl.1 rfl (lv_room (Nat.le_of_ble_eq_true rfl)) dX4_widen_31 ⟨(Nat.le_of_ble_eq_true rfl), (Nat.le_of_ble_eq_true rfl)⟩) hS (fun m31 H locs hq9 hP hz9 hS => ?_)
      obtain ⟨g31, he31, hL31⟩ := hq9
      rw [he31] at hP
      have hP : mw G.1 vwCl B (mu (mu (mu μ md (.inr (4, [.int (nI 0), .ref ab, .ref av, .int (nI st), .ref c1, .ref c2, .ref c3, .ref c4, .ref c5, .ref c6, .ref c7, .ref c8, .ref c9]))) ab (.inl (G.2 0, 3744, .inr (.inl g31)))) av (.inl (G.2 2, 26, .inl (upd w24 nx9 (w24 23))))) _ := mw_eq ((congrArg (fun z => mu z av (.inl (G.2 2, 26, .inl (upd w24 nx9 (w24 23))))) ((mu_c _ _ ((mp_ne hav hab (by simp)))).trans (congrArg (fun z => mu z av (.inl (G.2 2, 26, .inl w24))) (mu_u _ _ _ _)))).trans (mu_u _ _ _ _)) hP
      rw [hQ]
      exact W.vret hx hb hr (fun t99 ht99 hW99 => ⟨⟨mu (mu (mu μ md (.inr (4, [.int (nI 0), .ref ab, .ref av, .int (nI st), .ref c1, .ref c2, .ref c3, .ref c4, .ref c5, .ref c6, .ref c7, .ref c8, .ref c9]))) ab (.inl (G.2 0, 3744, .inr (.inl g31)))) av (.inl (G.2 2, 26, .inl (upd w24 nx9 (w24 23)))), rfl, (⟨_, _, _, rfl, ⟨(hsy24.ld hL31 (by omega)), (VB.u hvb24 (hvb24 23))⟩, Or.inl ⟨rfl, hok⟩⟩), by show mw _ _ _ _ t99.heap; rw [ht99]; exact hP⟩, hS.F ht99⟩) hS.2.2 dX4_widen_34

abbrev rn_X4_isEmpty : Room := { frames := 2, cells := 0, slots := 0, locals := 42 }
set_option maxHeartbeats 4000000 in
set_option maxRecDepth 100000 in
theorem m_X4_isEmpty (l : Launch) (G : GG) (B : Nat) (μ : mp) (md ab av c1 c2 c3 c4 c5 c6 c7 c8 c9 fl st : Nat) (f : Nat → Int64) (v : Nat → Int32) (x9 : Int32) (hm : μ md = some (.inr (4, [.int (nI fl), .ref ab, .ref av, .int (nI st), .ref c1, .ref c2, .ref c3, .ref c4, .ref c5, .ref c6, .ref c7, .ref c8, .ref c9]))) (hab : μ ab = some (.inl (G.2 0, 3744, .inr (.inl f)))) (hav : μ av = some (.inl (G.2 2, 26, .inl v))) (hsy : Sym f) (hvb : VB v) : Met l yX4_isEmpty wsX4_isEmpty rn_X4_isEmpty (va_Pc [.ref md, .int x9] (KW G B μ)) (va_Qi (fun r μ2 => ∃ (fl9 : Nat) (g9 : Nat → Int64) (w9 : Nat → Int32), μ2 = mu (mu (mu μ md (.inr (4, [.int (nI fl9), .ref ab, .ref av, .int (nI st), .ref c1, .ref c2, .ref c3, .ref c4, .ref c5, .ref c6, .ref c7, .ref c8, .ref c9]))) ab (.inl (G.2 0, 3744, .inr (.inl g9)))) av (.inl (G.2 2, 26, .inl w9)) ∧ (Sym g9 ∧ VB w9)) (BB G B) (fun q => B ≤ q)) 0 0 (fun q => B ≤ q) := by
  refine Met.ofW (cc := cX4_isEmpty) (maxL := 2) (ret := (some .boolean)) (by decide) rfl ?_
  intro p e s m args below meth c s₁ B9 hml hv
  obtain ⟨hargs, hBs, hP, hKK⟩ := hv
  have hx := B9.exec
  have hb := B9.bytes
  have hr := B9.returns
  have hts := atoms_spec (ws := wsX4_isEmpty) B9.pre
  have hown : s.vm.findClass RX4 = some m.cls := findClass_of_methodNamed B9.named
  have hlocks := B9.notSynchronized
  have hK := hKK.k
  have hS : va_S (fun q => B ≤ q) s.heap s.heap [] := va_S.rf
  obtain ⟨Q, hQ⟩ : ∃ Q, Q = MQ below (va_Qi (fun r μ2 => ∃ (fl9 : Nat) (g9 : Nat → Int64) (w9 : Nat → Int32), μ2 = mu (mu (mu μ md (.inr (4, [.int (nI fl9), .ref ab, .ref av, .int (nI st), .ref c1, .ref c2, .ref c3, .ref c4, .ref c5, .ref c6, .ref c7, .ref c8, .ref c9]))) ab (.inl (G.2 0, 3744, .inr (.inl g9)))) av (.inl (G.2 2, 26, .inl w9)) ∧ (Sym g9 ∧ VB w9)) (BB G B) (fun q => B ≤ q)) args s 0 0 (fun q => B ≤ q) := ⟨_, rfl⟩
  rw [← hQ]
  have ne0_1 : md ≠ ab := mp_ne hm hab (by simp)
  have ne0_2 : md ≠ av := mp_ne hm hav (by simp)
  have in_X4_isEmpty_X4 : ∀ w ∈ wsX40, w ∈ wsX4_isEmpty := by decide +kernel
  have hP : mw G.1 vwCl B (mu (mu (mu μ md (.inr (4, [.int (nI fl), .ref ab, .ref av, .int (nI st), .ref c1, .ref c2, .ref c3, .ref c4, .ref c5, .ref c6, .ref c7, .ref c8, .ref c9]))) ab (.inl (G.2 0, 3744, .inr (.inl f)))) av (.inl (G.2 2, 26, .inl v))) s.heap := mw_eq ((congrArg (fun z => mu z av (.inl (G.2 2, 26, .inl v))) ((congrArg (fun z => mu z ab (.inl (G.2 0, 3744, .inr (.inl f)))) (mu_i hm)).trans (mu_i hab))).trans (mu_i hav)).symm hP
  have hl := lv_entry ([.ref md, .int x9]) (n := 2) (Nat.le_of_ble_eq_true rfl)
  have he9 : entryFrame m args 2 = entryFrame m ([.ref md, .int x9] : List Value).toArray 2 := by rw [hargs]
  rw [he9, lg_entry_eq]
  generalize (lg_sl ([.ref md, .int x9]) ++ List.replicate (2 - (lg_sl ([.ref md, .int x9])).length) Slot.unset).toArray = ls at hl ⊢
  have hl : lv_has ls 2 [(0, .ref md), (1, .int x9)] := hl
  refine lv_aload_n hx hb dX4_isEmpty_0 rfl (lv_at hl 0 rfl) ?_
  refine lv_iload_n hx hb dX4_isEmpty_1 rfl (lv_at hl 1 rfl) ?_
  refine kc_i (va_runS (As := [.int x9]) (rest := [.ref md]) ⟨hx, hb, hml, hown, hts⟩ (c_X4_isSlot l G B (mu (mu (mu μ md (.inr (4, [.int (nI fl), .ref ab, .ref av, .int (nI st), .ref c1, .ref c2, .ref c3, .ref c4, .ref c5, .ref c6, .ref c7, .ref c8, .ref c9]))) ab (.inl (G.2 0, 3744, .inr (.inl f)))) av (.inl (G.2 2, 26, .inl v))) x9) (va_cwS 1 hts gX4_isEmpty_X4_isSlot rfl rfl rfl (by decide +kernel) ⟨Nat.le_of_ble_eq_true rfl, Nat.le_of_ble_eq_true rfl⟩) ⟨KW.blind, fun U9 hU9 hW9 => ⟨rfl, KW.pre hBs hKK hS hP U9 hU9 hW9⟩⟩ rfl rfl hl.1 rfl (lv_room (Nat.le_of_ble_eq_true rfl)) dX4_isEmpty_2 ⟨(Nat.le_of_ble_eq_true rfl), (Nat.le_of_ble_eq_true rfl)⟩) hS (fun r2 m2 H locs hq9 hP hz9 hS => ?_)
  obtain ⟨he9, hy2⟩ := hq9
  rw [he9] at hP
  refine lv_if_eq (tgt := 12) hx hb dX4_isEmpty_5 (by decide) (fun hc5 => ?_) (fun hc5 => ?_)
  · refine lv_iconst (v := nI 1) hx hb dX4_isEmpty_12 (by decide) ?_
    refine kc_i (va_runV (As := [.int (nI 1)]) (rest := []) ⟨hx, hb, hml, hown, hts⟩ (c_X4_refused l G B (mu (mu (mu μ md (.inr (4, [.int (nI fl), .ref ab, .ref av, .int (nI st), .ref c1, .ref c2, .ref c3, .ref c4, .ref c5, .ref c6, .ref c7, .ref c8, .ref c9]))) ab (.inl (G.2 0, 3744, .inr (.inl f)))) av (.inl (G.2 2, 26, .inl v))) md ab av c1 c2 c3 c4 c5 c6 c7 c8 c9 fl st f v 1 ((mu_n ne0_2).trans ((mu_n ne0_1).trans (mu_s _ _ _))) ((mu_n ((mp_ne hab hav (by simp)))).trans (mu_s _ _ _)) (mu_s _ _ _) (by omega)) (cwV 1 hts gX4_isEmpty_X4_refused rfl rfl rfl (by decide +kernel) ⟨Nat.le_of_ble_eq_true rfl, Nat.le_of_ble_eq_true rfl⟩) ⟨KW.blind, hP.recv hK rfl ((mu_n ne0_2).trans ((mu_n ne0_1).trans (mu_s _ _ _))), fun U9 hU9 hW9 => ⟨rfl, KW.pre hBs hKK hS hP U9 hU9 hW9⟩⟩ rfl rfl hl.1 rfl (lv_room (Nat.le_of_ble_eq_true rfl)) dX4_isEmpty_13 ⟨(Nat.le_of_ble_eq_true rfl), (Nat.le_of_ble_eq_true rfl)⟩) hS (fun r13 m13 H locs hq9 hP hz9 hS => ?_)
    obtain ⟨he9, hw0, hw1⟩ := hq9
    rw [he9] at hP
    have hP : mw G.1 vwCl B (mu (mu (mu μ md (.inr (4, [.int (nI 1), .ref ab, .ref av, .int (nI st), .ref c1, .ref c2, .ref c3, .ref c4, .ref c5, .ref c6, .ref c7, .ref c8, .ref c9]))) ab (.inl (G.2 0, 3744, .inr (.inl f)))) av (.inl (G.2 2, 26, .inl v))) _ := mw_eq ((mu_c _ _ ((Ne.symm ne0_2))).trans (congrArg (fun z => mu z av (.inl (G.2 2, 26, .inl v))) ((mu_c _ _ ((Ne.symm ne0_1))).trans (congrArg (fun z => mu z ab (.inl (G.2 0, 3744, .inr (.inl f)))) (mu_u _ _ _ _))))) hP
    obtain rfl : r13 = nI 1 := hw1 (by decide)
    refine lv_if_ne (tgt := 32) hx hb dX4_isEmpty_16 (by decide) (fun hc16 => ?_) (fun hc16 => ?_)
    · refine lv_iconst (v := nI 0) hx hb dX4_isEmpty_32 (by decide) ?_
      rw [hQ]
      exact W.zret (v := nI 0) (ty := .boolean) hx hb hr (by first | rfl | decide) (fun t99 ht99 hW99 => ⟨⟨nI 0, mu (mu (mu μ md (.inr (4, [.int (nI 1), .ref ab, .ref av, .int (nI st), .ref c1, .ref c2, .ref c3, .ref c4, .ref c5, .ref c6, .ref c7, .ref c8, .ref c9]))) ab (.inl (G.2 0, 3744, .inr (.inl f)))) av (.inl (G.2 2, 26, .inl v)), rfl, (⟨_, _, _, rfl, ⟨hsy, hvb⟩⟩), by show mw _ _ _ _ t99.heap; rw [ht99]; exact hP⟩, hS.F ht99⟩) hS.2.2 dX4_isEmpty_33
    · exact absurd hc16 (by decide)
  · refine lv_iconst (v := nI 0) hx hb dX4_isEmpty_8 (by decide) ?_
    refine lv_goto (tgt := 13) hx hb dX4_isEmpty_9 (by decide) ?_
    refine kc_i (va_runV (As := [.int (nI 0)]) (rest := []) ⟨hx, hb, hml, hown, hts⟩ (c_X4_refused l G B (mu (mu (mu μ md (.inr (4, [.int (nI fl), .ref ab, .ref av, .int (nI st), .ref c1, .ref c2, .ref c3, .ref c4, .ref c5, .ref c6, .ref c7, .ref c8, .ref c9]))) ab (.inl (G.2 0, 3744, .inr (.inl f)))) av (.inl (G.2 2, 26, .inl v))) md ab av c1 c2 c3 c4 c5 c6 c7 c8 c9 fl st f v 0 ((mu_n ne0_2).trans ((mu_n ne0_1).trans (mu_s _ _ _))) ((mu_n ((mp_ne hab hav (by simp)))).trans (mu_s _ _ _)) (mu_s _ _ _) (by omega)) (cwV 1 hts gX4_isEmpty_X4_refused rfl rfl rfl (by decide +kernel) ⟨Nat.le_of_ble_eq_true rfl, Nat.le_of_ble_eq_true rfl⟩) ⟨KW.blind, hP.recv hK rfl ((mu_n ne0_2).trans ((mu_n ne0_1).trans (mu_s _ _ _))), fun U9 hU9 hW9 => ⟨rfl, KW.pre hBs hKK hS hP U9 hU9 hW9⟩⟩ rfl rfl hl.1 rfl (lv_room (Nat.le_of_ble_eq_true rfl)) dX4_isEmpty_13 ⟨(Nat.le_of_ble_eq_true rfl), (Nat.le_of_ble_eq_true rfl)⟩) hS (fun r13 m13 H locs hq9 hP hz9 hS => ?_)
    obtain ⟨he9, hw0, hw1⟩ := hq9
    rw [he9] at hP
    have hP : mw G.1 vwCl B (mu (mu (mu μ md (.inr (4, [.int (nI 0), .ref ab, .ref av, .int (nI st), .ref c1, .ref c2, .ref c3, .ref c4, .ref c5, .ref c6, .ref c7, .ref c8, .ref c9]))) ab (.inl (G.2 0, 3744, .inr (.inl f)))) av (.inl (G.2 2, 26, .inl v))) _ := mw_eq ((mu_c _ _ ((Ne.symm ne0_2))).trans (congrArg (fun z => mu z av (.inl (G.2 2, 26, .inl v))) ((mu_c _ _ ((Ne.symm ne0_1))).trans (congrArg (fun z => mu z ab (.inl (G.2 0, 3744, .inr (.inl f)))) (mu_u _ _ _ _))))) hP
    obtain rfl : r13 = nI 0 := hw0 rfl
    refine lv_if_ne (tgt := 32) hx hb dX4_isEmpty_16 (by decide) (fun hc16 => ?_) (fun hc16 => ?_)
    · exact absurd rfl hc16
    · have hok : okS x9 := yn_t hy2 hc5
      obtain ⟨nx9, hnx9, enx9⟩ := ok_nat (n := 6) (by decide) hok
      subst enx9
      refine lv_aload_n hx hb dX4_isEmpty_19 rfl (lv_at hl 0 rfl) ?_
      refine mw_get (C := RX4) (T := TX4) (N := 13) hx hb hts in_X4_isEmpty_X4 hown hK hP ((mu_n ne0_2).trans ((mu_n ne0_1).trans (mu_s _ _ _))) rfl 2 (by decide) (hts (.fieldLink RX4 13 "OctagonDeskModel" "isVoid" "[Z") (by decide +kernel)) (fun _ h9 => h9) rfl dX4_isEmpty_20 ?_
      refine lv_iload_n hx hb dX4_isEmpty_23 rfl (lv_at hl 1 rfl) ?_
      refine mw_zald hx hb hK hP 2 (mu_s _ _ _) rfl (by omega) (by omega) dX4_isEmpty_24 ?_
      refine lv_if_eq (tgt := 32) hx hb dX4_isEmpty_25 (by decide) (fun hc25 => ?_) (fun hc25 => ?_)
      · refine lv_iconst (v := nI 0) hx hb dX4_isEmpty_32 (by decide) ?_
        rw [hQ]
        exact W.zret (v := nI 0) (ty := .boolean) hx hb hr (by first | rfl | decide) (fun t99 ht99 hW99 => ⟨⟨nI 0, mu (mu (mu μ md (.inr (4, [.int (nI 0), .ref ab, .ref av, .int (nI st), .ref c1, .ref c2, .ref c3, .ref c4, .ref c5, .ref c6, .ref c7, .ref c8, .ref c9]))) ab (.inl (G.2 0, 3744, .inr (.inl f)))) av (.inl (G.2 2, 26, .inl v)), rfl, (⟨_, _, _, rfl, ⟨hsy, hvb⟩⟩), by show mw _ _ _ _ t99.heap; rw [ht99]; exact hP⟩, hS.F ht99⟩) hS.2.2 dX4_isEmpty_33
      · refine lv_iconst (v := nI 1) hx hb dX4_isEmpty_28 (by decide) ?_
        refine lv_goto (tgt := 33) hx hb dX4_isEmpty_29 (by decide) ?_
        rw [hQ]
        exact W.zret (v := nI 1) (ty := .boolean) hx hb hr (by first | rfl | decide) (fun t99 ht99 hW99 => ⟨⟨nI 1, mu (mu (mu μ md (.inr (4, [.int (nI 0), .ref ab, .ref av, .int (nI st), .ref c1, .ref c2, .ref c3, .ref c4, .ref c5, .ref c6, .ref c7, .ref c8, .ref c9]))) ab (.inl (G.2 0, 3744, .inr (.inl f)))) av (.inl (G.2 2, 26, .inl v)), rfl, (⟨_, _, _, rfl, ⟨hsy, hvb⟩⟩), by show mw _ _ _ _ t99.heap; rw [ht99]; exact hP⟩, hS.F ht99⟩) hS.2.2 dX4_isEmpty_33

abbrev rn_X4_take : Room := { frames := 2, cells := 0, slots := 0, locals := 42 }
set_option maxHeartbeats 4000000 in
set_option maxRecDepth 100000 in
theorem m_X4_take (l : Launch) (G : GG) (B : Nat) (μ : mp) (md ab av c1 c2 c3 c4 c5 c6 c7 c8 c9 fl st : Nat) (f : Nat → Int64) (v : Nat → Int32) (x9 y9 : Int32) (hm : μ md = some (.inr (4, [.int (nI fl), .ref ab, .ref av, .int (nI st), .ref c1, .ref c2, .ref c3, .ref c4, .ref c5, .ref c6, .ref c7, .ref c8, .ref c9]))) (hab : μ ab = some (.inl (G.2 0, 3744, .inr (.inl f)))) (hav : μ av = some (.inl (G.2 2, 26, .inl v))) (hsy : Sym f) (hvb : VB v) : Met l yX4_take wsX4_take rn_X4_take (va_Pc [.ref md, .int x9, .int y9] (KW G B μ)) (va_Qi (fun r μ2 => ∃ (fl9 : Nat) (g9 : Nat → Int64) (w9 : Nat → Int32), μ2 = mu (mu (mu μ md (.inr (4, [.int (nI fl9), .ref ab, .ref av, .int (nI st), .ref c1, .ref c2, .ref c3, .ref c4, .ref c5, .ref c6, .ref c7, .ref c8, .ref c9]))) ab (.inl (G.2 0, 3744, .inr (.inl g9)))) av (.inl (G.2 2, 26, .inl w9)) ∧ (Sym g9 ∧ VB w9)) (BB G B) (fun q => B ≤ q)) 0 0 (fun q => B ≤ q) := by
  refine Met.ofW (cc := cX4_take) (maxL := 3) (ret := (some .boolean)) (by decide) rfl ?_
  intro p e s m args below meth c s₁ B9 hml hv
  obtain ⟨hargs, hBs, hP, hKK⟩ := hv
  have hx := B9.exec
  have hb := B9.bytes
  have hr := B9.returns
  have hts := atoms_spec (ws := wsX4_take) B9.pre
  have hown : s.vm.findClass RX4 = some m.cls := findClass_of_methodNamed B9.named
  have hlocks := B9.notSynchronized
  have hK := hKK.k
  have hS : va_S (fun q => B ≤ q) s.heap s.heap [] := va_S.rf
  obtain ⟨Q, hQ⟩ : ∃ Q, Q = MQ below (va_Qi (fun r μ2 => ∃ (fl9 : Nat) (g9 : Nat → Int64) (w9 : Nat → Int32), μ2 = mu (mu (mu μ md (.inr (4, [.int (nI fl9), .ref ab, .ref av, .int (nI st), .ref c1, .ref c2, .ref c3, .ref c4, .ref c5, .ref c6, .ref c7, .ref c8, .ref c9]))) ab (.inl (G.2 0, 3744, .inr (.inl g9)))) av (.inl (G.2 2, 26, .inl w9)) ∧ (Sym g9 ∧ VB w9)) (BB G B) (fun q => B ≤ q)) args s 0 0 (fun q => B ≤ q) := ⟨_, rfl⟩
  rw [← hQ]
  have ne0_1 : md ≠ ab := mp_ne hm hab (by simp)
  have ne0_2 : md ≠ av := mp_ne hm hav (by simp)
  have in_X4_take_X4 : ∀ w ∈ wsX40, w ∈ wsX4_take := by decide +kernel
  have hP : mw G.1 vwCl B (mu (mu (mu μ md (.inr (4, [.int (nI fl), .ref ab, .ref av, .int (nI st), .ref c1, .ref c2, .ref c3, .ref c4, .ref c5, .ref c6, .ref c7, .ref c8, .ref c9]))) ab (.inl (G.2 0, 3744, .inr (.inl f)))) av (.inl (G.2 2, 26, .inl v))) s.heap := mw_eq ((congrArg (fun z => mu z av (.inl (G.2 2, 26, .inl v))) ((congrArg (fun z => mu z ab (.inl (G.2 0, 3744, .inr (.inl f)))) (mu_i hm)).trans (mu_i hab))).trans (mu_i hav)).symm hP
  have hl := lv_entry ([.ref md, .int x9, .int y9]) (n := 3) (Nat.le_of_ble_eq_true rfl)
  have he9 : entryFrame m args 3 = entryFrame m ([.ref md, .int x9, .int y9] : List Value).toArray 3 := by rw [hargs]
  rw [he9, lg_entry_eq]
  generalize (lg_sl ([.ref md, .int x9, .int y9]) ++ List.replicate (3 - (lg_sl ([.ref md, .int x9, .int y9])).length) Slot.unset).toArray = ls at hl ⊢
  have hl : lv_has ls 3 [(0, .ref md), (1, .int x9), (2, .int y9)] := hl
  refine lv_aload_n hx hb dX4_take_0 rfl (lv_at hl 0 rfl) ?_
  refine lv_iload_n hx hb dX4_take_1 rfl (lv_at hl 1 rfl) ?_
  refine kc_i (va_runS (As := [.int x9]) (rest := [.ref md]) ⟨hx, hb, hml, hown, hts⟩ (c_X4_isSlot l G B (mu (mu (mu μ md (.inr (4, [.int (nI fl), .ref ab, .ref av, .int (nI st), .ref c1, .ref c2, .ref c3, .ref c4, .ref c5, .ref c6, .ref c7, .ref c8, .ref c9]))) ab (.inl (G.2 0, 3744, .inr (.inl f)))) av (.inl (G.2 2, 26, .inl v))) x9) (va_cwS 1 hts gX4_take_X4_isSlot rfl rfl rfl (by decide +kernel) ⟨Nat.le_of_ble_eq_true rfl, Nat.le_of_ble_eq_true rfl⟩) ⟨KW.blind, fun U9 hU9 hW9 => ⟨rfl, KW.pre hBs hKK hS hP U9 hU9 hW9⟩⟩ rfl rfl hl.1 rfl (lv_room (Nat.le_of_ble_eq_true rfl)) dX4_take_2 ⟨(Nat.le_of_ble_eq_true rfl), (Nat.le_of_ble_eq_true rfl)⟩) hS (fun r2 m2 H locs hq9 hP hz9 hS => ?_)
  obtain ⟨he9, hy2⟩ := hq9
  rw [he9] at hP
  refine lv_if_eq (tgt := 22) hx hb dX4_take_5 (by decide) (fun hc5 => ?_) (fun hc5 => ?_)
  · refine lv_iconst (v := nI 1) hx hb dX4_take_22 (by decide) ?_
    refine kc_i (va_runV (As := [.int (nI 1)]) (rest := []) ⟨hx, hb, hml, hown, hts⟩ (c_X4_refused l G B (mu (mu (mu μ md (.inr (4, [.int (nI fl), .ref ab, .ref av, .int (nI st), .ref c1, .ref c2, .ref c3, .ref c4, .ref c5, .ref c6, .ref c7, .ref c8, .ref c9]))) ab (.inl (G.2 0, 3744, .inr (.inl f)))) av (.inl (G.2 2, 26, .inl v))) md ab av c1 c2 c3 c4 c5 c6 c7 c8 c9 fl st f v 1 ((mu_n ne0_2).trans ((mu_n ne0_1).trans (mu_s _ _ _))) ((mu_n ((mp_ne hab hav (by simp)))).trans (mu_s _ _ _)) (mu_s _ _ _) (by omega)) (cwV 1 hts gX4_take_X4_refused rfl rfl rfl (by decide +kernel) ⟨Nat.le_of_ble_eq_true rfl, Nat.le_of_ble_eq_true rfl⟩) ⟨KW.blind, hP.recv hK rfl ((mu_n ne0_2).trans ((mu_n ne0_1).trans (mu_s _ _ _))), fun U9 hU9 hW9 => ⟨rfl, KW.pre hBs hKK hS hP U9 hU9 hW9⟩⟩ rfl rfl hl.1 rfl (lv_room (Nat.le_of_ble_eq_true rfl)) dX4_take_23 ⟨(Nat.le_of_ble_eq_true rfl), (Nat.le_of_ble_eq_true rfl)⟩) hS (fun r23 m23 H locs hq9 hP hz9 hS => ?_)
    obtain ⟨he9, hw0, hw1⟩ := hq9
    rw [he9] at hP
    have hP : mw G.1 vwCl B (mu (mu (mu μ md (.inr (4, [.int (nI 1), .ref ab, .ref av, .int (nI st), .ref c1, .ref c2, .ref c3, .ref c4, .ref c5, .ref c6, .ref c7, .ref c8, .ref c9]))) ab (.inl (G.2 0, 3744, .inr (.inl f)))) av (.inl (G.2 2, 26, .inl v))) _ := mw_eq ((mu_c _ _ ((Ne.symm ne0_2))).trans (congrArg (fun z => mu z av (.inl (G.2 2, 26, .inl v))) ((mu_c _ _ ((Ne.symm ne0_1))).trans (congrArg (fun z => mu z ab (.inl (G.2 0, 3744, .inr (.inl f)))) (mu_u _ _ _ _))))) hP
    obtain rfl : r23 = nI 1 := hw1 (by decide)
    refine lv_if_eq (tgt := 31) hx hb dX4_take_26 (by decide) (fun hc26 => ?_) (fun hc26 => ?_)
    · exact absurd hc26 (by decide)
    · refine lv_iconst (v := nI 0) hx hb dX4_take_29 (by decide) ?_
      rw [hQ]
      exact W.zret (v := nI 0) (ty := .boolean) hx hb hr (by first | rfl | decide) (fun t99 ht99 hW99 => ⟨⟨nI 0, mu (mu (mu μ md (.inr (4, [.int (nI 1), .ref ab, .ref av, .int (nI st), .ref c1, .ref c2, .ref c3, .ref c4, .ref c5, .ref c6, .ref c7, .ref c8, .ref c9]))) ab (.inl (G.2 0, 3744, .inr (.inl f)))) av (.inl (G.2 2, 26, .inl v)), rfl, (⟨_, _, _, rfl, ⟨hsy, hvb⟩⟩), by show mw _ _ _ _ t99.heap; rw [ht99]; exact hP⟩, hS.F ht99⟩) hS.2.2 dX4_take_30
  · refine lv_iload_n hx hb dX4_take_8 rfl (lv_at hl 2 rfl) ?_
    refine lv_iconst (v := nI 0) hx hb dX4_take_9 (by decide) ?_
    refine lv_bipush (v := nI 7) hx hb dX4_take_10 (by decide) ?_
    refine kc_i (va_runS (As := [.int y9, .int (nI 0), .int (nI 7)]) (rest := [.ref md]) ⟨hx, hb, hml, hown, hts⟩ (c_X4_isIn l G B (mu (mu (mu μ md (.inr (4, [.int (nI fl), .ref ab, .ref av, .int (nI st), .ref c1, .ref c2, .ref c3, .ref c4, .ref c5, .ref c6, .ref c7, .ref c8, .ref c9]))) ab (.inl (G.2 0, 3744, .inr (.inl f)))) av (.inl (G.2 2, 26, .inl v))) y9 (nI 0) (nI 7)) (va_cwS 3 hts gX4_take_X4_isIn rfl rfl rfl (by decide +kernel) ⟨Nat.le_of_ble_eq_true rfl, Nat.le_of_ble_eq_true rfl⟩) ⟨KW.blind, fun U9 hU9 hW9 => ⟨rfl, KW.pre hBs hKK hS hP U9 hU9 hW9⟩⟩ rfl rfl hl.1 rfl (lv_room (Nat.le_of_ble_eq_true rfl)) dX4_take_12 ⟨(Nat.le_of_ble_eq_true rfl), (Nat.le_of_ble_eq_true rfl)⟩) hS (fun r12 m12 H locs hq9 hP hz9 hS => ?_)
    obtain ⟨he9, hy12⟩ := hq9
    rw [he9] at hP
    refine lv_if_eq (tgt := 22) hx hb dX4_take_15 (by decide) (fun hc15 => ?_) (fun hc15 => ?_)
    · refine lv_iconst (v := nI 1) hx hb dX4_take_22 (by decide) ?_
      refine kc_i (va_runV (As := [.int (nI 1)]) (rest := []) ⟨hx, hb, hml, hown, hts⟩ (c_X4_refused l G B (mu (mu (mu μ md (.inr (4, [.int (nI fl), .ref ab, .ref av, .int (nI st), .ref c1, .ref c2, .ref c3, .ref c4, .ref c5, .ref c6, .ref c7, .ref c8, .ref c9]))) ab (.inl (G.2 0, 3744, .inr (.inl f)))) av (.inl (G.2 2, 26, .inl v))) md ab av c1 c2 c3 c4 c5 c6 c7 c8 c9 fl st f v 1 ((mu_n ne0_2).trans ((mu_n ne0_1).trans (mu_s _ _ _))) ((mu_n ((mp_ne hab hav (by simp)))).trans (mu_s _ _ _)) (mu_s _ _ _) (by omega)) (cwV 1 hts gX4_take_X4_refused rfl rfl rfl (by decide +kernel) ⟨Nat.le_of_ble_eq_true rfl, Nat.le_of_ble_eq_true rfl⟩) ⟨KW.blind, hP.recv hK rfl ((mu_n ne0_2).trans ((mu_n ne0_1).trans (mu_s _ _ _))), fun U9 hU9 hW9 => ⟨rfl, KW.pre hBs hKK hS hP U9 hU9 hW9⟩⟩ rfl rfl hl.1 rfl (lv_room (Nat.le_of_ble_eq_true rfl)) dX4_take_23 ⟨(Nat.le_of_ble_eq_true rfl), (Nat.le_of_ble_eq_true rfl)⟩) hS (fun r23 m23 H locs hq9 hP hz9 hS => ?_)
      obtain ⟨he9, hw0, hw1⟩ := hq9
      rw [he9] at hP
      have hP : mw G.1 vwCl B (mu (mu (mu μ md (.inr (4, [.int (nI 1), .ref ab, .ref av, .int (nI st), .ref c1, .ref c2, .ref c3, .ref c4, .ref c5, .ref c6, .ref c7, .ref c8, .ref c9]))) ab (.inl (G.2 0, 3744, .inr (.inl f)))) av (.inl (G.2 2, 26, .inl v))) _ := mw_eq ((mu_c _ _ ((Ne.symm ne0_2))).trans (congrArg (fun z => mu z av (.inl (G.2 2, 26, .inl v))) ((mu_c _ _ ((Ne.symm ne0_1))).trans (congrArg (fun z => mu z ab (.inl (G.2 0, 3744, .inr (.inl f)))) (mu_u _ _ _ _))))) hP
      obtain rfl : r23 = nI 1 := hw1 (by decide)
      refine lv_if_eq (tgt := 31) hx hb dX4_take_26 (by decide) (fun hc26 => ?_) (fun hc26 => ?_)
      · exact absurd hc26 (by decide)
      · refine lv_iconst (v := nI 0) hx hb dX4_take_29 (by decide) ?_
        rw [hQ]
        exact W.zret (v := nI 0) (ty := .boolean) hx hb hr (by first | rfl | decide) (fun t99 ht99 hW99 => ⟨⟨nI 0, mu (mu (mu μ md (.inr (4, [.int (nI 1), .ref ab, .ref av, .int (nI st), .ref c1, .ref c2, .ref c3, .ref c4, .ref c5, .ref c6, .ref c7, .ref c8, .ref c9]))) ab (.inl (G.2 0, 3744, .inr (.inl f)))) av (.inl (G.2 2, 26, .inl v)), rfl, (⟨_, _, _, rfl, ⟨hsy, hvb⟩⟩), by show mw _ _ _ _ t99.heap; rw [ht99]; exact hP⟩, hS.F ht99⟩) hS.2.2 dX4_take_30
    · refine lv_iconst (v := nI 0) hx hb dX4_take_18 (by decide) ?_
      refine lv_goto (tgt := 23) hx hb dX4_take_19 (by decide) ?_
      refine kc_i (va_runV (As := [.int (nI 0)]) (rest := []) ⟨hx, hb, hml, hown, hts⟩ (c_X4_refused l G B (mu (mu (mu μ md (.inr (4, [.int (nI fl), .ref ab, .ref av, .int (nI st), .ref c1, .ref c2, .ref c3, .ref c4, .ref c5, .ref c6, .ref c7, .ref c8, .ref c9]))) ab (.inl (G.2 0, 3744, .inr (.inl f)))) av (.inl (G.2 2, 26, .inl v))) md ab av c1 c2 c3 c4 c5 c6 c7 c8 c9 fl st f v 0 ((mu_n ne0_2).trans ((mu_n ne0_1).trans (mu_s _ _ _))) ((mu_n ((mp_ne hab hav (by simp)))).trans (mu_s _ _ _)) (mu_s _ _ _) (by omega)) (cwV 1 hts gX4_take_X4_refused rfl rfl rfl (by decide +kernel) ⟨Nat.le_of_ble_eq_true rfl, Nat.le_of_ble_eq_true rfl⟩) ⟨KW.blind, hP.recv hK rfl ((mu_n ne0_2).trans ((mu_n ne0_1).trans (mu_s _ _ _))), fun U9 hU9 hW9 => ⟨rfl, KW.pre hBs hKK hS hP U9 hU9 hW9⟩⟩ rfl rfl hl.1 rfl (lv_room (Nat.le_of_ble_eq_true rfl)) dX4_take_23 ⟨(Nat.le_of_ble_eq_true rfl), (Nat.le_of_ble_eq_true rfl)⟩) hS (fun r23 m23 H locs hq9 hP hz9 hS => ?_)
      obtain ⟨he9, hw0, hw1⟩ := hq9
      rw [he9] at hP
      have hP : mw G.1 vwCl B (mu (mu (mu μ md (.inr (4, [.int (nI 0), .ref ab, .ref av, .int (nI st), .ref c1, .ref c2, .ref c3, .ref c4, .ref c5, .ref c6, .ref c7, .ref c8, .ref c9]))) ab (.inl (G.2 0, 3744, .inr (.inl f)))) av (.inl (G.2 2, 26, .inl v))) _ := mw_eq ((mu_c _ _ ((Ne.symm ne0_2))).trans (congrArg (fun z => mu z av (.inl (G.2 2, 26, .inl v))) ((mu_c _ _ ((Ne.symm ne0_1))).trans (congrArg (fun z => mu z ab (.inl (G.2 0, 3744, .inr (.inl f)))) (mu_u _ _ _ _))))) hP
      obtain rfl : r23 = nI 0 := hw0 rfl
      refine lv_if_eq (tgt := 31) hx hb dX4_take_26 (by decide) (fun hc26 => ?_) (fun hc26 => ?_)
      · have hok : okS x9 ∧ okJ y9 := ⟨yn_t hy2 hc5, isI_J.mp (yn_t hy12 hc15)⟩
        obtain ⟨nx9, hnx9, enx9⟩ := ok_nat (n := 6) (by decide) hok.1
        subst enx9
        obtain ⟨ny9, hny9, eny9⟩ := ok_nat (n := 8) (by decide) hok.2
        subst eny9
        refine lv_aload_n hx hb dX4_take_31 rfl (lv_at hl 0 rfl) ?_
        refine lv_iload_n hx hb dX4_take_32 rfl (lv_at hl 1 rfl) ?_
        refine lv_bipush (v := nI 6) hx hb dX4_take_33 (by decide) ?_
        refine lv_iload_n hx hb dX4_take_35 rfl (lv_at hl 2 rfl) ?_
        refine nv_iadd hx hb dX4_take_36 ?_
        refine kc_v (va_runV (As := [.int (nI nx9), .int (nI (6 + ny9))]) (rest := []) ⟨hx, hb, hml, hown, hts⟩ (c_X4_load l G B (mu (mu (mu μ md (.inr (4, [.int (nI 0), .ref ab, .ref av, .int (nI st), .ref c1, .ref c2, .ref c3, .ref c4, .ref c5, .ref c6, .ref c7, .ref c8, .ref c9]))) ab (.inl (G.2 0, 3744, .inr (.inl f)))) av (.inl (G.2 2, 26, .inl v))) md ab av c1 c2 c3 c4 c5 c6 c7 c8 c9 0 st f v nx9 (6 + ny9) ((mu_n ne0_2).trans ((mu_n ne0_1).trans (mu_s _ _ _))) ((mu_n ((mp_ne hab hav (by simp)))).trans (mu_s _ _ _)) (mu_s _ _ _) (by omega) (by omega) (hvb (6 + ny9))) (cwV 2 hts gX4_take_X4_load rfl rfl rfl (by decide +kernel) ⟨Nat.le_of_ble_eq_true rfl, Nat.le_of_ble_eq_true rfl⟩) ⟨KW.blind, hP.recv hK rfl ((mu_n ne0_2).trans ((mu_n ne0_1).trans (mu_s _ _ _))), fun U9 hU9 hW9 => ⟨rfl, KW.pre hBs hKK hS hP U9 hU9 hW9⟩⟩ rfl rfl hl.1 rfl (lv_room (Nat.le_of_ble_eq_true rfl)) dX4_take_37 ⟨(Nat.le_of_ble_eq_true rfl), (Nat.le_of_ble_eq_true rfl)⟩) hS (fun m37 H locs hq9 hP hz9 hS => ?_)
        obtain ⟨g37, he37, hL37⟩ := hq9
        rw [he37] at hP
        have hP : mw G.1 vwCl B (mu (mu (mu μ md (.inr (4, [.int (nI 0), .ref ab, .ref av, .int (nI st), .ref c1, .ref c2, .ref c3, .ref c4, .ref c5, .ref c6, .ref c7, .ref c8, .ref c9]))) ab (.inl (G.2 0, 3744, .inr (.inl g37)))) av (.inl (G.2 2, 26, .inl (upd v nx9 (v (6 + ny9)))))) _ := mw_eq ((congrArg (fun z => mu z av (.inl (G.2 2, 26, .inl (upd v nx9 (v (6 + ny9)))))) ((mu_c _ _ ((mp_ne hav hab (by simp)))).trans (congrArg (fun z => mu z av (.inl (G.2 2, 26, .inl v))) (mu_u _ _ _ _)))).trans (mu_u _ _ _ _)) hP
        refine lv_aload_n hx hb dX4_take_40 rfl (lv_at hl 0 rfl) ?_
        refine mw_get (C := RX4) (T := TX4) (N := 13) hx hb hts in_X4_take_X4 hown hK hP ((mu_n ne0_2).trans ((mu_n ne0_1).trans (mu_s _ _ _))) rfl 2 (by decide) (hts (.fieldLink RX4 13 "OctagonDeskModel" "isVoid" "[Z") (by decide +kernel)) (fun _ h9 => h9) rfl dX4_take_41 ?_
        refine lv_iload_n hx hb dX4_take_44 rfl (lv_at hl 1 rfl) ?_
        refine mw_zald hx hb hK hP 2 (mu_s _ _ _) rfl (by omega) (by omega) dX4_take_45 ?_
        refine lv_if_ne (tgt := 53) hx hb dX4_take_46 (by decide) (fun hc46 => ?_) (fun hc46 => ?_)
        · refine lv_iconst (v := nI 0) hx hb dX4_take_53 (by decide) ?_
          rw [hQ]
          exact W.zret (v := nI 0) (ty := .boolean) hx hb hr (by first | rfl | decide) (fun t99 ht99 hW99 => ⟨⟨nI 0, mu (mu (mu μ md (.inr (4, [.int (nI 0), .ref ab, .ref av, .int (nI st), .ref c1, .ref c2, .ref c3, .ref c4, .ref c5, .ref c6, .ref c7, .ref c8, .ref c9]))) ab (.inl (G.2 0, 3744, .inr (.inl g37)))) av (.inl (G.2 2, 26, .inl (upd v nx9 (v (6 + ny9))))), rfl, (⟨_, _, _, rfl, ⟨(hsy.ld hL37 (by omega)), (VB.u hvb (hvb (6 + ny9)))⟩⟩), by show mw _ _ _ _ t99.heap; rw [ht99]; exact hP⟩, hS.F ht99⟩) hS.2.2 dX4_take_54
        · refine lv_iconst (v := nI 1) hx hb dX4_take_49 (by decide) ?_
          refine lv_goto (tgt := 54) hx hb dX4_take_50 (by decide) ?_
          rw [hQ]
          exact W.zret (v := nI 1) (ty := .boolean) hx hb hr (by first | rfl | decide) (fun t99 ht99 hW99 => ⟨⟨nI 1, mu (mu (mu μ md (.inr (4, [.int (nI 0), .ref ab, .ref av, .int (nI st), .ref c1, .ref c2, .ref c3, .ref c4, .ref c5, .ref c6, .ref c7, .ref c8, .ref c9]))) ab (.inl (G.2 0, 3744, .inr (.inl g37)))) av (.inl (G.2 2, 26, .inl (upd v nx9 (v (6 + ny9))))), rfl, (⟨_, _, _, rfl, ⟨(hsy.ld hL37 (by omega)), (VB.u hvb (hvb (6 + ny9)))⟩⟩), by show mw _ _ _ _ t99.heap; rw [ht99]; exact hP⟩, hS.F ht99⟩) hS.2.2 dX4_take_54
      · exact absurd rfl hc26

abbrev rn_X4_most : Room := { frames := 2, cells := 0, slots := 0, locals := 42 }
set_option maxHeartbeats 4000000 in
set_option maxRecDepth 100000 in
theorem m_X4_most (l : Launch) (G : GG) (B : Nat) (μ : mp) (md ab av c1 c2 c3 c4 c5 c6 c7 c8 c9 fl st : Nat) (f : Nat → Int64) (v : Nat → Int32) (x9 y9 z9 : Int32) (hm : μ md = some (.inr (4, [.int (nI fl), .ref ab, .ref av, .int (nI st), .ref c1, .ref c2, .ref c3, .ref c4, .ref c5, .ref c6, .ref c7, .ref c8, .ref c9]))) (hab : μ ab = some (.inl (G.2 0, 3744, .inr (.inl f)))) (hav : μ av = some (.inl (G.2 2, 26, .inl v))) (hsy : Sym f) (hvb : VB v) : Met l yX4_most wsX4_most rn_X4_most (va_Pc [.ref md, .int x9, .int y9, .int z9] (KW G B μ)) (va_Ql (fun r μ2 => ∃ (fl9 : Nat) (g9 : Nat → Int64) (w9 : Nat → Int32), μ2 = mu (mu (mu μ md (.inr (4, [.int (nI fl9), .ref ab, .ref av, .int (nI st), .ref c1, .ref c2, .ref c3, .ref c4, .ref c5, .ref c6, .ref c7, .ref c8, .ref c9]))) ab (.inl (G.2 0, 3744, .inr (.inl g9)))) av (.inl (G.2 2, 26, .inl w9)) ∧ (Sym g9 ∧ VB w9)) (BB G B) (fun q => B ≤ q)) 0 0 (fun q => B ≤ q) := by
  refine Met.ofW (cc := cX4_most) (maxL := 5) (ret := (some .long)) (by decide) rfl ?_
  intro p e s m args below meth c s₁ B9 hml hv
  obtain ⟨hargs, hBs, hP, hKK⟩ := hv
  have hx := B9.exec
  have hb := B9.bytes
  have hr := B9.returns
  have hts := atoms_spec (ws := wsX4_most) B9.pre
  have hown : s.vm.findClass RX4 = some m.cls := findClass_of_methodNamed B9.named
  have hlocks := B9.notSynchronized
  have hK := hKK.k
  have hS : va_S (fun q => B ≤ q) s.heap s.heap [] := va_S.rf
  obtain ⟨Q, hQ⟩ : ∃ Q, Q = MQ below (va_Ql (fun r μ2 => ∃ (fl9 : Nat) (g9 : Nat → Int64) (w9 : Nat → Int32), μ2 = mu (mu (mu μ md (.inr (4, [.int (nI fl9), .ref ab, .ref av, .int (nI st), .ref c1, .ref c2, .ref c3, .ref c4, .ref c5, .ref c6, .ref c7, .ref c8, .ref c9]))) ab (.inl (G.2 0, 3744, .inr (.inl g9)))) av (.inl (G.2 2, 26, .inl w9)) ∧ (Sym g9 ∧ VB w9)) (BB G B) (fun q => B ≤ q)) args s 0 0 (fun q => B ≤ q) := ⟨_, rfl⟩
  rw [← hQ]
  have ne0_1 : md ≠ ab := mp_ne hm hab (by simp)
  have ne0_2 : md ≠ av := mp_ne hm hav (by simp)
  have in_X4_most_X4 : ∀ w ∈ wsX40, w ∈ wsX4_most := by decide +kernel
  have hP : mw G.1 vwCl B (mu (mu (mu μ md (.inr (4, [.int (nI fl), .ref ab, .ref av, .int (nI st), .ref c1, .ref c2, .ref c3, .ref c4, .ref c5, .ref c6, .ref c7, .ref c8, .ref c9]))) ab (.inl (G.2 0, 3744, .inr (.inl f)))) av (.inl (G.2 2, 26, .inl v))) s.heap := mw_eq ((congrArg (fun z => mu z av (.inl (G.2 2, 26, .inl v))) ((congrArg (fun z => mu z ab (.inl (G.2 0, 3744, .inr (.inl f)))) (mu_i hm)).trans (mu_i hab))).trans (mu_i hav)).symm hP
  have hl := lv_entry ([.ref md, .int x9, .int y9, .int z9]) (n := 5) (Nat.le_of_ble_eq_true rfl)
  have he9 : entryFrame m args 5 = entryFrame m ([.ref md, .int x9, .int y9, .int z9] : List Value).toArray 5 := by rw [hargs]
  rw [he9, lg_entry_eq]
  generalize (lg_sl ([.ref md, .int x9, .int y9, .int z9]) ++ List.replicate (5 - (lg_sl ([.ref md, .int x9, .int y9, .int z9])).length) Slot.unset).toArray = ls at hl ⊢
  have hl : lv_has ls 5 [(0, .ref md), (1, .int x9), (2, .int y9), (3, .int z9)] := hl
  refine lv_iload_n hx hb dX4_most_0 rfl (lv_at hl 1 rfl) ?_
  refine kc_i (va_runS (As := [.int x9]) (rest := []) ⟨hx, hb, hml, hown, hts⟩ (c_X4_isSlot l G B (mu (mu (mu μ md (.inr (4, [.int (nI fl), .ref ab, .ref av, .int (nI st), .ref c1, .ref c2, .ref c3, .ref c4, .ref c5, .ref c6, .ref c7, .ref c8, .ref c9]))) ab (.inl (G.2 0, 3744, .inr (.inl f)))) av (.inl (G.2 2, 26, .inl v))) x9) (va_cwS 1 hts gX4_most_X4_isSlot rfl rfl rfl (by decide +kernel) ⟨Nat.le_of_ble_eq_true rfl, Nat.le_of_ble_eq_true rfl⟩) ⟨KW.blind, fun U9 hU9 hW9 => ⟨rfl, KW.pre hBs hKK hS hP U9 hU9 hW9⟩⟩ rfl rfl hl.1 rfl (lv_room (Nat.le_of_ble_eq_true rfl)) dX4_most_1 ⟨(Nat.le_of_ble_eq_true rfl), (Nat.le_of_ble_eq_true rfl)⟩) hS (fun r1 m1 H locs hq9 hP hz9 hS => ?_)
  obtain ⟨he9, hy1⟩ := hq9
  rw [he9] at hP
  refine lv_if_eq (tgt := 33) hx hb dX4_most_4 (by decide) (fun hc4 => ?_) (fun hc4 => ?_)
  · refine lv_iconst (v := nI 0) hx hb dX4_most_33 (by decide) ?_
    refine lv_istore (lv' := [(4, .int (nI 0)), (0, .ref md), (1, .int x9), (2, .int y9), (3, .int z9)]) hx hb dX4_most_34 hl (by decide) rfl (fun ls hl => ?_)
    refine lv_aload_n hx hb dX4_most_36 rfl (lv_at hl 1 rfl) ?_
    refine lv_iload hx hb dX4_most_37 (lv_at hl 0 rfl) ?_
    refine lv_if_ne (tgt := 46) hx hb dX4_most_39 (by decide) (fun hc39 => ?_) (fun hc39 => ?_)
    · exact absurd rfl hc39
    · refine lv_iconst (v := nI 1) hx hb dX4_most_42 (by decide) ?_
      refine lv_goto (tgt := 60) hx hb dX4_most_43 (by decide) ?_
      refine kc_i (va_runV (As := [.int (nI 1)]) (rest := []) ⟨hx, hb, hml, hown, hts⟩ (c_X4_refused l G B (mu (mu (mu μ md (.inr (4, [.int (nI fl), .ref ab, .ref av, .int (nI st), .ref c1, .ref c2, .ref c3, .ref c4, .ref c5, .ref c6, .ref c7, .ref c8, .ref c9]))) ab (.inl (G.2 0, 3744, .inr (.inl f)))) av (.inl (G.2 2, 26, .inl v))) md ab av c1 c2 c3 c4 c5 c6 c7 c8 c9 fl st f v 1 ((mu_n ne0_2).trans ((mu_n ne0_1).trans (mu_s _ _ _))) ((mu_n ((mp_ne hab hav (by simp)))).trans (mu_s _ _ _)) (mu_s _ _ _) (by omega)) (cwV 1 hts gX4_most_X4_refused rfl rfl rfl (by decide +kernel) ⟨Nat.le_of_ble_eq_true rfl, Nat.le_of_ble_eq_true rfl⟩) ⟨KW.blind, hP.recv hK rfl ((mu_n ne0_2).trans ((mu_n ne0_1).trans (mu_s _ _ _))), fun U9 hU9 hW9 => ⟨rfl, KW.pre hBs hKK hS hP U9 hU9 hW9⟩⟩ rfl rfl hl.1 rfl (lv_room (Nat.le_of_ble_eq_true rfl)) dX4_most_60 ⟨(Nat.le_of_ble_eq_true rfl), (Nat.le_of_ble_eq_true rfl)⟩) hS (fun r60 m60 H locs hq9 hP hz9 hS => ?_)
      obtain ⟨he9, hw0, hw1⟩ := hq9
      rw [he9] at hP
      have hP : mw G.1 vwCl B (mu (mu (mu μ md (.inr (4, [.int (nI 1), .ref ab, .ref av, .int (nI st), .ref c1, .ref c2, .ref c3, .ref c4, .ref c5, .ref c6, .ref c7, .ref c8, .ref c9]))) ab (.inl (G.2 0, 3744, .inr (.inl f)))) av (.inl (G.2 2, 26, .inl v))) _ := mw_eq ((mu_c _ _ ((Ne.symm ne0_2))).trans (congrArg (fun z => mu z av (.inl (G.2 2, 26, .inl v))) ((mu_c _ _ ((Ne.symm ne0_1))).trans (congrArg (fun z => mu z ab (.inl (G.2 0, 3744, .inr (.inl f)))) (mu_u _ _ _ _))))) hP
      obtain rfl : r60 = nI 1 := hw1 (by decide)
      refine lv_if_eq (tgt := 70) hx hb dX4_most_63 (by decide) (fun hc63 => ?_) (fun hc63 => ?_)
      · exact absurd hc63 (by decide)
      · refine lv_lconst (v := 0) hx hb dX4_most_66 (by decide) ?_
        refine lv_goto (tgt := 77) hx hb dX4_most_67 (by decide) ?_
        rw [hQ]
        exact W.lret (v := 0) hx hb hr (fun t99 ht99 hW99 => ⟨⟨0, mu (mu (mu μ md (.inr (4, [.int (nI 1), .ref ab, .ref av, .int (nI st), .ref c1, .ref c2, .ref c3, .ref c4, .ref c5, .ref c6, .ref c7, .ref c8, .ref c9]))) ab (.inl (G.2 0, 3744, .inr (.inl f)))) av (.inl (G.2 2, 26, .inl v)), rfl, (⟨_, _, _, rfl, ⟨hsy, hvb⟩⟩), by show mw _ _ _ _ t99.heap; rw [ht99]; exact hP⟩, hS.F ht99⟩) hS.2.2 dX4_most_77
  · refine lv_iload_n hx hb dX4_most_7 rfl (lv_at hl 2 rfl) ?_
    refine kc_i (va_runS (As := [.int y9]) (rest := []) ⟨hx, hb, hml, hown, hts⟩ (c_X4_isTerm l G B (mu (mu (mu μ md (.inr (4, [.int (nI fl), .ref ab, .ref av, .int (nI st), .ref c1, .ref c2, .ref c3, .ref c4, .ref c5, .ref c6, .ref c7, .ref c8, .ref c9]))) ab (.inl (G.2 0, 3744, .inr (.inl f)))) av (.inl (G.2 2, 26, .inl v))) y9) (va_cwS 1 hts gX4_most_X4_isTerm rfl rfl rfl (by decide +kernel) ⟨Nat.le_of_ble_eq_true rfl, Nat.le_of_ble_eq_true rfl⟩) ⟨KW.blind, fun U9 hU9 hW9 => ⟨rfl, KW.pre hBs hKK hS hP U9 hU9 hW9⟩⟩ rfl rfl hl.1 rfl (lv_room (Nat.le_of_ble_eq_true rfl)) dX4_most_8 ⟨(Nat.le_of_ble_eq_true rfl), (Nat.le_of_ble_eq_true rfl)⟩) hS (fun r8 m8 H locs hq9 hP hz9 hS => ?_)
    obtain ⟨he9, hy8⟩ := hq9
    rw [he9] at hP
    refine lv_if_eq (tgt := 33) hx hb dX4_most_11 (by decide) (fun hc11 => ?_) (fun hc11 => ?_)
    · refine lv_iconst (v := nI 0) hx hb dX4_most_33 (by decide) ?_
      refine lv_istore (lv' := [(4, .int (nI 0)), (0, .ref md), (1, .int x9), (2, .int y9), (3, .int z9)]) hx hb dX4_most_34 hl (by decide) rfl (fun ls hl => ?_)
      refine lv_aload_n hx hb dX4_most_36 rfl (lv_at hl 1 rfl) ?_
      refine lv_iload hx hb dX4_most_37 (lv_at hl 0 rfl) ?_
      refine lv_if_ne (tgt := 46) hx hb dX4_most_39 (by decide) (fun hc39 => ?_) (fun hc39 => ?_)
      · exact absurd rfl hc39
      · refine lv_iconst (v := nI 1) hx hb dX4_most_42 (by decide) ?_
        refine lv_goto (tgt := 60) hx hb dX4_most_43 (by decide) ?_
        refine kc_i (va_runV (As := [.int (nI 1)]) (rest := []) ⟨hx, hb, hml, hown, hts⟩ (c_X4_refused l G B (mu (mu (mu μ md (.inr (4, [.int (nI fl), .ref ab, .ref av, .int (nI st), .ref c1, .ref c2, .ref c3, .ref c4, .ref c5, .ref c6, .ref c7, .ref c8, .ref c9]))) ab (.inl (G.2 0, 3744, .inr (.inl f)))) av (.inl (G.2 2, 26, .inl v))) md ab av c1 c2 c3 c4 c5 c6 c7 c8 c9 fl st f v 1 ((mu_n ne0_2).trans ((mu_n ne0_1).trans (mu_s _ _ _))) ((mu_n ((mp_ne hab hav (by simp)))).trans (mu_s _ _ _)) (mu_s _ _ _) (by omega)) (cwV 1 hts gX4_most_X4_refused rfl rfl rfl (by decide +kernel) ⟨Nat.le_of_ble_eq_true rfl, Nat.le_of_ble_eq_true rfl⟩) ⟨KW.blind, hP.recv hK rfl ((mu_n ne0_2).trans ((mu_n ne0_1).trans (mu_s _ _ _))), fun U9 hU9 hW9 => ⟨rfl, KW.pre hBs hKK hS hP U9 hU9 hW9⟩⟩ rfl rfl hl.1 rfl (lv_room (Nat.le_of_ble_eq_true rfl)) dX4_most_60 ⟨(Nat.le_of_ble_eq_true rfl), (Nat.le_of_ble_eq_true rfl)⟩) hS (fun r60 m60 H locs hq9 hP hz9 hS => ?_)
        obtain ⟨he9, hw0, hw1⟩ := hq9
        rw [he9] at hP
        have hP : mw G.1 vwCl B (mu (mu (mu μ md (.inr (4, [.int (nI 1), .ref ab, .ref av, .int (nI st), .ref c1, .ref c2, .ref c3, .ref c4, .ref c5, .ref c6, .ref c7, .ref c8, .ref c9]))) ab (.inl (G.2 0, 3744, .inr (.inl f)))) av (.inl (G.2 2, 26, .inl v))) _ := mw_eq ((mu_c _ _ ((Ne.symm ne0_2))).trans (congrArg (fun z => mu z av (.inl (G.2 2, 26, .inl v))) ((mu_c _ _ ((Ne.symm ne0_1))).trans (congrArg (fun z => mu z ab (.inl (G.2 0, 3744, .inr (.inl f)))) (mu_u _ _ _ _))))) hP
        obtain rfl : r60 = nI 1 := hw1 (by decide)
        refine lv_if_eq (tgt := 70) hx hb dX4_most_63 (by decide) (fun hc63 => ?_) (fun hc63 => ?_)
        · exact absurd hc63 (by decide)
        · refine lv_lconst (v := 0) hx hb dX4_most_66 (by decide) ?_
          refine lv_goto (tgt := 77) hx hb dX4_most_67 (by decide) ?_
          rw [hQ]
          exact W.lret (v := 0) hx hb hr (fun t99 ht99 hW99 => ⟨⟨0, mu (mu (mu μ md (.inr (4, [.int (nI 1), .ref ab, .ref av, .int (nI st), .ref c1, .ref c2, .ref c3, .ref c4, .ref c5, .ref c6, .ref c7, .ref c8, .ref c9]))) ab (.inl (G.2 0, 3744, .inr (.inl f)))) av (.inl (G.2 2, 26, .inl v)), rfl, (⟨_, _, _, rfl, ⟨hsy, hvb⟩⟩), by show mw _ _ _ _ t99.heap; rw [ht99]; exact hP⟩, hS.F ht99⟩) hS.2.2 dX4_most_77
    · refine lv_iload_n hx hb dX4_most_14 rfl (lv_at hl 3 rfl) ?_
      refine kc_i (va_runS (As := [.int z9]) (rest := []) ⟨hx, hb, hml, hown, hts⟩ (c_X4_isTerm l G B (mu (mu (mu μ md (.inr (4, [.int (nI fl), .ref ab, .ref av, .int (nI st), .ref c1, .ref c2, .ref c3, .ref c4, .ref c5, .ref c6, .ref c7, .ref c8, .ref c9]))) ab (.inl (G.2 0, 3744, .inr (.inl f)))) av (.inl (G.2 2, 26, .inl v))) z9) (va_cwS 1 hts gX4_most_X4_isTerm rfl rfl rfl (by decide +kernel) ⟨Nat.le_of_ble_eq_true rfl, Nat.le_of_ble_eq_true rfl⟩) ⟨KW.blind, fun U9 hU9 hW9 => ⟨rfl, KW.pre hBs hKK hS hP U9 hU9 hW9⟩⟩ rfl rfl hl.1 rfl (lv_room (Nat.le_of_ble_eq_true rfl)) dX4_most_15 ⟨(Nat.le_of_ble_eq_true rfl), (Nat.le_of_ble_eq_true rfl)⟩) hS (fun r15 m15 H locs hq9 hP hz9 hS => ?_)
      obtain ⟨he9, hy15⟩ := hq9
      rw [he9] at hP
      refine lv_if_eq (tgt := 33) hx hb dX4_most_18 (by decide) (fun hc18 => ?_) (fun hc18 => ?_)
      · refine lv_iconst (v := nI 0) hx hb dX4_most_33 (by decide) ?_
        refine lv_istore (lv' := [(4, .int (nI 0)), (0, .ref md), (1, .int x9), (2, .int y9), (3, .int z9)]) hx hb dX4_most_34 hl (by decide) rfl (fun ls hl => ?_)
        refine lv_aload_n hx hb dX4_most_36 rfl (lv_at hl 1 rfl) ?_
        refine lv_iload hx hb dX4_most_37 (lv_at hl 0 rfl) ?_
        refine lv_if_ne (tgt := 46) hx hb dX4_most_39 (by decide) (fun hc39 => ?_) (fun hc39 => ?_)
        · exact absurd rfl hc39
        · refine lv_iconst (v := nI 1) hx hb dX4_most_42 (by decide) ?_
          refine lv_goto (tgt := 60) hx hb dX4_most_43 (by decide) ?_
          refine kc_i (va_runV (As := [.int (nI 1)]) (rest := []) ⟨hx, hb, hml, hown, hts⟩ (c_X4_refused l G B (mu (mu (mu μ md (.inr (4, [.int (nI fl), .ref ab, .ref av, .int (nI st), .ref c1, .ref c2, .ref c3, .ref c4, .ref c5, .ref c6, .ref c7, .ref c8, .ref c9]))) ab (.inl (G.2 0, 3744, .inr (.inl f)))) av (.inl (G.2 2, 26, .inl v))) md ab av c1 c2 c3 c4 c5 c6 c7 c8 c9 fl st f v 1 ((mu_n ne0_2).trans ((mu_n ne0_1).trans (mu_s _ _ _))) ((mu_n ((mp_ne hab hav (by simp)))).trans (mu_s _ _ _)) (mu_s _ _ _) (by omega)) (cwV 1 hts gX4_most_X4_refused rfl rfl rfl (by decide +kernel) ⟨Nat.le_of_ble_eq_true rfl, Nat.le_of_ble_eq_true rfl⟩) ⟨KW.blind, hP.recv hK rfl ((mu_n ne0_2).trans ((mu_n ne0_1).trans (mu_s _ _ _))), fun U9 hU9 hW9 => ⟨rfl, KW.pre hBs hKK hS hP U9 hU9 hW9⟩⟩ rfl rfl hl.1 rfl (lv_room (Nat.le_of_ble_eq_true rfl)) dX4_most_60 ⟨(Nat.le_of_ble_eq_true rfl), (Nat.le_of_ble_eq_true rfl)⟩) hS (fun r60 m60 H locs hq9 hP hz9 hS => ?_)
          obtain ⟨he9, hw0, hw1⟩ := hq9
          rw [he9] at hP
          have hP : mw G.1 vwCl B (mu (mu (mu μ md (.inr (4, [.int (nI 1), .ref ab, .ref av, .int (nI st), .ref c1, .ref c2, .ref c3, .ref c4, .ref c5, .ref c6, .ref c7, .ref c8, .ref c9]))) ab (.inl (G.2 0, 3744, .inr (.inl f)))) av (.inl (G.2 2, 26, .inl v))) _ := mw_eq ((mu_c _ _ ((Ne.symm ne0_2))).trans (congrArg (fun z => mu z av (.inl (G.2 2, 26, .inl v))) ((mu_c _ _ ((Ne.symm ne0_1))).trans (congrArg (fun z => mu z ab (.inl (G.2 0, 3744, .inr (.inl f)))) (mu_u _ _ _ _))))) hP
          obtain rfl : r60 = nI 1 := hw1 (by decide)
          refine lv_if_eq (tgt := 70) hx hb dX4_most_63 (by decide) (fun hc63 => ?_) (fun hc63 => ?_)
          · exact absurd hc63 (by decide)
          · refine lv_lconst (v := 0) hx hb dX4_most_66 (by decide) ?_
            refine lv_goto (tgt := 77) hx hb dX4_most_67 (by decide) ?_
            rw [hQ]
            exact W.lret (v := 0) hx hb hr (fun t99 ht99 hW99 => ⟨⟨0, mu (mu (mu μ md (.inr (4, [.int (nI 1), .ref ab, .ref av, .int (nI st), .ref c1, .ref c2, .ref c3, .ref c4, .ref c5, .ref c6, .ref c7, .ref c8, .ref c9]))) ab (.inl (G.2 0, 3744, .inr (.inl f)))) av (.inl (G.2 2, 26, .inl v)), rfl, (⟨_, _, _, rfl, ⟨hsy, hvb⟩⟩), by show mw _ _ _ _ t99.heap; rw [ht99]; exact hP⟩, hS.F ht99⟩) hS.2.2 dX4_most_77
      · have hy9a := yn_t hy8 hc11
        have hz9a := yn_t hy15 hc18
        obtain ⟨ny9, hny9, eny9⟩ := ok_nat (n := 12) (by decide) hy9a
        subst eny9
        obtain ⟨nz9, hnz9, enz9⟩ := ok_nat (n := 12) (by decide) hz9a
        subst enz9
        refine lv_iload_n hx hb dX4_most_21 rfl (lv_at hl 2 rfl) ?_
        refine lv_iload_n hx hb dX4_most_22 rfl (lv_at hl 3 rfl) ?_
        refine kc_i (va_runS (As := [.int (nI nz9)]) (rest := [.int (nI ny9)]) ⟨hx, hb, hml, hown, hts⟩ (c_X4_minus l G B (mu (mu (mu μ md (.inr (4, [.int (nI fl), .ref ab, .ref av, .int (nI st), .ref c1, .ref c2, .ref c3, .ref c4, .ref c5, .ref c6, .ref c7, .ref c8, .ref c9]))) ab (.inl (G.2 0, 3744, .inr (.inl f)))) av (.inl (G.2 2, 26, .inl v))) nz9 (by omega)) (va_cwS 1 hts gX4_most_X4_minus rfl rfl rfl (by decide +kernel) ⟨Nat.le_of_ble_eq_true rfl, Nat.le_of_ble_eq_true rfl⟩) ⟨KW.blind, fun U9 hU9 hW9 => ⟨rfl, KW.pre hBs hKK hS hP U9 hU9 hW9⟩⟩ rfl rfl hl.1 rfl (lv_room (Nat.le_of_ble_eq_true rfl)) dX4_most_23 ⟨(Nat.le_of_ble_eq_true rfl), (Nat.le_of_ble_eq_true rfl)⟩) hS (fun r23 m23 H locs hq9 hP hz9 hS => ?_)
        obtain ⟨he9, rfl⟩ := hq9
        rw [he9] at hP
        have hne23 := ne_lt (p := nz9) (by omega)
        refine nv_icmp_eq (tgt := 33) hx hb (by omega) (by omega) dX4_most_26 (by decide) (fun hc26 => ?_) (fun hc26 => ?_)
        · refine lv_iconst (v := nI 0) hx hb dX4_most_33 (by decide) ?_
          refine lv_istore (lv' := [(4, .int (nI 0)), (0, .ref md), (1, .int x9), (2, .int (nI ny9)), (3, .int (nI nz9))]) hx hb dX4_most_34 hl (by decide) rfl (fun ls hl => ?_)
          refine lv_aload_n hx hb dX4_most_36 rfl (lv_at hl 1 rfl) ?_
          refine lv_iload hx hb dX4_most_37 (lv_at hl 0 rfl) ?_
          refine lv_if_ne (tgt := 46) hx hb dX4_most_39 (by decide) (fun hc39 => ?_) (fun hc39 => ?_)
          · exact absurd rfl hc39
          · refine lv_iconst (v := nI 1) hx hb dX4_most_42 (by decide) ?_
            refine lv_goto (tgt := 60) hx hb dX4_most_43 (by decide) ?_
            refine kc_i (va_runV (As := [.int (nI 1)]) (rest := []) ⟨hx, hb, hml, hown, hts⟩ (c_X4_refused l G B (mu (mu (mu μ md (.inr (4, [.int (nI fl), .ref ab, .ref av, .int (nI st), .ref c1, .ref c2, .ref c3, .ref c4, .ref c5, .ref c6, .ref c7, .ref c8, .ref c9]))) ab (.inl (G.2 0, 3744, .inr (.inl f)))) av (.inl (G.2 2, 26, .inl v))) md ab av c1 c2 c3 c4 c5 c6 c7 c8 c9 fl st f v 1 ((mu_n ne0_2).trans ((mu_n ne0_1).trans (mu_s _ _ _))) ((mu_n ((mp_ne hab hav (by simp)))).trans (mu_s _ _ _)) (mu_s _ _ _) (by omega)) (cwV 1 hts gX4_most_X4_refused rfl rfl rfl (by decide +kernel) ⟨Nat.le_of_ble_eq_true rfl, Nat.le_of_ble_eq_true rfl⟩) ⟨KW.blind, hP.recv hK rfl ((mu_n ne0_2).trans ((mu_n ne0_1).trans (mu_s _ _ _))), fun U9 hU9 hW9 => ⟨rfl, KW.pre hBs hKK hS hP U9 hU9 hW9⟩⟩ rfl rfl hl.1 rfl (lv_room (Nat.le_of_ble_eq_true rfl)) dX4_most_60 ⟨(Nat.le_of_ble_eq_true rfl), (Nat.le_of_ble_eq_true rfl)⟩) hS (fun r60 m60 H locs hq9 hP hz9 hS => ?_)
            obtain ⟨he9, hw0, hw1⟩ := hq9
            rw [he9] at hP
            have hP : mw G.1 vwCl B (mu (mu (mu μ md (.inr (4, [.int (nI 1), .ref ab, .ref av, .int (nI st), .ref c1, .ref c2, .ref c3, .ref c4, .ref c5, .ref c6, .ref c7, .ref c8, .ref c9]))) ab (.inl (G.2 0, 3744, .inr (.inl f)))) av (.inl (G.2 2, 26, .inl v))) _ := mw_eq ((mu_c _ _ ((Ne.symm ne0_2))).trans (congrArg (fun z => mu z av (.inl (G.2 2, 26, .inl v))) ((mu_c _ _ ((Ne.symm ne0_1))).trans (congrArg (fun z => mu z ab (.inl (G.2 0, 3744, .inr (.inl f)))) (mu_u _ _ _ _))))) hP
            obtain rfl : r60 = nI 1 := hw1 (by decide)
            refine lv_if_eq (tgt := 70) hx hb dX4_most_63 (by decide) (fun hc63 => ?_) (fun hc63 => ?_)
            · exact absurd hc63 (by decide)
            · refine lv_lconst (v := 0) hx hb dX4_most_66 (by decide) ?_
              refine lv_goto (tgt := 77) hx hb dX4_most_67 (by decide) ?_
              rw [hQ]
              exact W.lret (v := 0) hx hb hr (fun t99 ht99 hW99 => ⟨⟨0, mu (mu (mu μ md (.inr (4, [.int (nI 1), .ref ab, .ref av, .int (nI st), .ref c1, .ref c2, .ref c3, .ref c4, .ref c5, .ref c6, .ref c7, .ref c8, .ref c9]))) ab (.inl (G.2 0, 3744, .inr (.inl f)))) av (.inl (G.2 2, 26, .inl v)), rfl, (⟨_, _, _, rfl, ⟨hsy, hvb⟩⟩), by show mw _ _ _ _ t99.heap; rw [ht99]; exact hP⟩, hS.F ht99⟩) hS.2.2 dX4_most_77
        · refine lv_iconst (v := nI 1) hx hb dX4_most_29 (by decide) ?_
          refine lv_goto (tgt := 34) hx hb dX4_most_30 (by decide) ?_
          refine lv_istore (lv' := [(4, .int (nI 1)), (0, .ref md), (1, .int x9), (2, .int (nI ny9)), (3, .int (nI nz9))]) hx hb dX4_most_34 hl (by decide) rfl (fun ls hl => ?_)
          refine lv_aload_n hx hb dX4_most_36 rfl (lv_at hl 1 rfl) ?_
          refine lv_iload hx hb dX4_most_37 (lv_at hl 0 rfl) ?_
          refine lv_if_ne (tgt := 46) hx hb dX4_most_39 (by decide) (fun hc39 => ?_) (fun hc39 => ?_)
          · have hs9 := yn_t hy1 hc4
            obtain ⟨nx9, hnx9, enx9⟩ := ok_nat (n := 6) (by decide) hs9
            subst enx9
            refine lv_aload_n hx hb dX4_most_46 rfl (lv_at hl 1 rfl) ?_
            refine mw_get (C := RX4) (T := TX4) (N := 13) hx hb hts in_X4_most_X4 hown hK hP ((mu_n ne0_2).trans ((mu_n ne0_1).trans (mu_s _ _ _))) rfl 2 (by decide) (hts (.fieldLink RX4 13 "OctagonDeskModel" "isVoid" "[Z") (by decide +kernel)) (fun _ h9 => h9) rfl dX4_most_47 ?_
            refine lv_iload_n hx hb dX4_most_50 rfl (lv_at hl 2 rfl) ?_
            refine mw_zald hx hb hK hP 2 (mu_s _ _ _) rfl (by omega) (by omega) dX4_most_51 ?_
            refine lv_if_eq (tgt := 59) hx hb dX4_most_52 (by decide) (fun hc52 => ?_) (fun hc52 => ?_)
            · refine lv_iconst (v := nI 0) hx hb dX4_most_59 (by decide) ?_
              refine kc_i (va_runV (As := [.int (nI 0)]) (rest := []) ⟨hx, hb, hml, hown, hts⟩ (c_X4_refused l G B (mu (mu (mu μ md (.inr (4, [.int (nI fl), .ref ab, .ref av, .int (nI st), .ref c1, .ref c2, .ref c3, .ref c4, .ref c5, .ref c6, .ref c7, .ref c8, .ref c9]))) ab (.inl (G.2 0, 3744, .inr (.inl f)))) av (.inl (G.2 2, 26, .inl v))) md ab av c1 c2 c3 c4 c5 c6 c7 c8 c9 fl st f v 0 ((mu_n ne0_2).trans ((mu_n ne0_1).trans (mu_s _ _ _))) ((mu_n ((mp_ne hab hav (by simp)))).trans (mu_s _ _ _)) (mu_s _ _ _) (by omega)) (cwV 1 hts gX4_most_X4_refused rfl rfl rfl (by decide +kernel) ⟨Nat.le_of_ble_eq_true rfl, Nat.le_of_ble_eq_true rfl⟩) ⟨KW.blind, hP.recv hK rfl ((mu_n ne0_2).trans ((mu_n ne0_1).trans (mu_s _ _ _))), fun U9 hU9 hW9 => ⟨rfl, KW.pre hBs hKK hS hP U9 hU9 hW9⟩⟩ rfl rfl hl.1 rfl (lv_room (Nat.le_of_ble_eq_true rfl)) dX4_most_60 ⟨(Nat.le_of_ble_eq_true rfl), (Nat.le_of_ble_eq_true rfl)⟩) hS (fun r60 m60 H locs hq9 hP hz9 hS => ?_)
              obtain ⟨he9, hw0, hw1⟩ := hq9
              rw [he9] at hP
              have hP : mw G.1 vwCl B (mu (mu (mu μ md (.inr (4, [.int (nI 0), .ref ab, .ref av, .int (nI st), .ref c1, .ref c2, .ref c3, .ref c4, .ref c5, .ref c6, .ref c7, .ref c8, .ref c9]))) ab (.inl (G.2 0, 3744, .inr (.inl f)))) av (.inl (G.2 2, 26, .inl v))) _ := mw_eq ((mu_c _ _ ((Ne.symm ne0_2))).trans (congrArg (fun z => mu z av (.inl (G.2 2, 26, .inl v))) ((mu_c _ _ ((Ne.symm ne0_1))).trans (congrArg (fun z => mu z ab (.inl (G.2 0, 3744, .inr (.inl f)))) (mu_u _ _ _ _))))) hP
              obtain rfl : r60 = nI 0 := hw0 rfl
              refine lv_if_eq (tgt := 70) hx hb dX4_most_63 (by decide) (fun hc63 => ?_) (fun hc63 => ?_)
              · refine lv_aload_n hx hb dX4_most_70 rfl (lv_at hl 1 rfl) ?_
                refine lv_iload_n hx hb dX4_most_71 rfl (lv_at hl 2 rfl) ?_
                refine lv_iload_n hx hb dX4_most_72 rfl (lv_at hl 3 rfl) ?_
                refine lv_iload_n hx hb dX4_most_73 rfl (lv_at hl 4 rfl) ?_
                refine kc_l (va_runV (As := [.int (nI nx9), .int (nI ny9), .int (nI nz9)]) (rest := []) ⟨hx, hb, hml, hown, hts⟩ (c_X4_get l G B (mu (mu (mu μ md (.inr (4, [.int (nI 0), .ref ab, .ref av, .int (nI st), .ref c1, .ref c2, .ref c3, .ref c4, .ref c5, .ref c6, .ref c7, .ref c8, .ref c9]))) ab (.inl (G.2 0, 3744, .inr (.inl f)))) av (.inl (G.2 2, 26, .inl v))) md ab av c1 c2 c3 c4 c5 c6 c7 c8 c9 0 st f v nx9 ny9 nz9 ((mu_n ne0_2).trans ((mu_n ne0_1).trans (mu_s _ _ _))) ((mu_n ((mp_ne hab hav (by simp)))).trans (mu_s _ _ _)) (mu_s _ _ _) (by omega) (by omega) (by omega)) (cwV 3 hts gX4_most_X4_get rfl rfl rfl (by decide +kernel) ⟨Nat.le_of_ble_eq_true rfl, Nat.le_of_ble_eq_true rfl⟩) ⟨KW.blind, hP.recv hK rfl ((mu_n ne0_2).trans ((mu_n ne0_1).trans (mu_s _ _ _))), fun U9 hU9 hW9 => ⟨rfl, KW.pre hBs hKK hS hP U9 hU9 hW9⟩⟩ rfl rfl hl.1 rfl (lv_room (Nat.le_of_ble_eq_true rfl)) dX4_most_74 ⟨(Nat.le_of_ble_eq_true rfl), (Nat.le_of_ble_eq_true rfl)⟩) hS (fun r74 m74 H locs hq9 hP hz9 hS => ?_)
                obtain ⟨he9, hr74⟩ := hq9
                rw [he9] at hP
                rw [hQ]
                exact W.lret (v := r74) hx hb hr (fun t99 ht99 hW99 => ⟨⟨r74, mu (mu (mu μ md (.inr (4, [.int (nI 0), .ref ab, .ref av, .int (nI st), .ref c1, .ref c2, .ref c3, .ref c4, .ref c5, .ref c6, .ref c7, .ref c8, .ref c9]))) ab (.inl (G.2 0, 3744, .inr (.inl f)))) av (.inl (G.2 2, 26, .inl v)), rfl, (⟨_, _, _, rfl, ⟨hsy, hvb⟩⟩), by show mw _ _ _ _ t99.heap; rw [ht99]; exact hP⟩, hS.F ht99⟩) hS.2.2 dX4_most_77
              · exact absurd rfl hc63
            · refine lv_iconst (v := nI 2) hx hb dX4_most_55 (by decide) ?_
              refine lv_goto (tgt := 60) hx hb dX4_most_56 (by decide) ?_
              refine kc_i (va_runV (As := [.int (nI 2)]) (rest := []) ⟨hx, hb, hml, hown, hts⟩ (c_X4_refused l G B (mu (mu (mu μ md (.inr (4, [.int (nI fl), .ref ab, .ref av, .int (nI st), .ref c1, .ref c2, .ref c3, .ref c4, .ref c5, .ref c6, .ref c7, .ref c8, .ref c9]))) ab (.inl (G.2 0, 3744, .inr (.inl f)))) av (.inl (G.2 2, 26, .inl v))) md ab av c1 c2 c3 c4 c5 c6 c7 c8 c9 fl st f v 2 ((mu_n ne0_2).trans ((mu_n ne0_1).trans (mu_s _ _ _))) ((mu_n ((mp_ne hab hav (by simp)))).trans (mu_s _ _ _)) (mu_s _ _ _) (by omega)) (cwV 1 hts gX4_most_X4_refused rfl rfl rfl (by decide +kernel) ⟨Nat.le_of_ble_eq_true rfl, Nat.le_of_ble_eq_true rfl⟩) ⟨KW.blind, hP.recv hK rfl ((mu_n ne0_2).trans ((mu_n ne0_1).trans (mu_s _ _ _))), fun U9 hU9 hW9 => ⟨rfl, KW.pre hBs hKK hS hP U9 hU9 hW9⟩⟩ rfl rfl hl.1 rfl (lv_room (Nat.le_of_ble_eq_true rfl)) dX4_most_60 ⟨(Nat.le_of_ble_eq_true rfl), (Nat.le_of_ble_eq_true rfl)⟩) hS (fun r60 m60 H locs hq9 hP hz9 hS => ?_)
              obtain ⟨he9, hw0, hw1⟩ := hq9
              rw [he9] at hP
              have hP : mw G.1 vwCl B (mu (mu (mu μ md (.inr (4, [.int (nI 2), .ref ab, .ref av, .int (nI st), .ref c1, .ref c2, .ref c3, .ref c4, .ref c5, .ref c6, .ref c7, .ref c8, .ref c9]))) ab (.inl (G.2 0, 3744, .inr (.inl f)))) av (.inl (G.2 2, 26, .inl v))) _ := mw_eq ((mu_c _ _ ((Ne.symm ne0_2))).trans (congrArg (fun z => mu z av (.inl (G.2 2, 26, .inl v))) ((mu_c _ _ ((Ne.symm ne0_1))).trans (congrArg (fun z => mu z ab (.inl (G.2 0, 3744, .inr (.inl f)))) (mu_u _ _ _ _))))) hP
              obtain rfl : r60 = nI 1 := hw1 (by decide)
              refine lv_if_eq (tgt := 70) hx hb dX4_most_63 (by decide) (fun hc63 => ?_) (fun hc63 => ?_)
              · exact absurd hc63 (by decide)
              · refine lv_lconst (v := 0) hx hb dX4_most_66 (by decide) ?_
                refine lv_goto (tgt := 77) hx hb dX4_most_67 (by decide) ?_
                rw [hQ]
                exact W.lret (v := 0) hx hb hr (fun t99 ht99 hW99 => ⟨⟨0, mu (mu (mu μ md (.inr (4, [.int (nI 2), .ref ab, .ref av, .int (nI st), .ref c1, .ref c2, .ref c3, .ref c4, .ref c5, .ref c6, .ref c7, .ref c8, .ref c9]))) ab (.inl (G.2 0, 3744, .inr (.inl f)))) av (.inl (G.2 2, 26, .inl v)), rfl, (⟨_, _, _, rfl, ⟨hsy, hvb⟩⟩), by show mw _ _ _ _ t99.heap; rw [ht99]; exact hP⟩, hS.F ht99⟩) hS.2.2 dX4_most_77
          · exact absurd hc39 (by decide)

abbrev rn_X4_isWithin : Room := { frames := 0, cells := 0, slots := 0, locals := 0 }
set_option maxHeartbeats 4000000 in
set_option maxRecDepth 100000 in
theorem m_X4_isWithin (l : Launch) (G : GG) (B : Nat) (μ : mp) (md ab av c1 c2 c3 c4 c5 c6 c7 c8 c9 fl st : Nat) (f : Nat → Int64) (v : Nat → Int32) (a9 b9 : Nat) (hm : μ md = some (.inr (4, [.int (nI fl), .ref ab, .ref av, .int (nI st), .ref c1, .ref c2, .ref c3, .ref c4, .ref c5, .ref c6, .ref c7, .ref c8, .ref c9]))) (hab : μ ab = some (.inl (G.2 0, 3744, .inr (.inl f)))) (hav : μ av = some (.inl (G.2 2, 26, .inl v))) (ha9 : a9 < 26) (hb9 : b9 < 26) (hvb : VB v) : Met l yX4_isWithin wsX4_isWithin rn_X4_isWithin (va_Pc [.ref md, .int (nI a9), .int (nI b9)] (KW G B μ)) (va_Qi (fun r μ2 => μ2 = μ ∧ (r = 0 ∨ r = 1)) (BB G B) (fun q => B ≤ q)) 0 0 (fun q => B ≤ q) := by
  refine Met.ofW (cc := cX4_isWithin) (maxL := 5) (ret := (some .boolean)) (by decide) rfl ?_
  intro p e s m args below meth c s₁ B9 hml hv
  obtain ⟨hargs, hBs, hP, hKK⟩ := hv
  have hx := B9.exec
  have hb := B9.bytes
  have hr := B9.returns
  have hts := atoms_spec (ws := wsX4_isWithin) B9.pre
  have hown : s.vm.findClass RX4 = some m.cls := findClass_of_methodNamed B9.named
  have hlocks := B9.notSynchronized
  have hK := hKK.k
  have hS : va_S (fun q => B ≤ q) s.heap s.heap [] := va_S.rf
  obtain ⟨Q, hQ⟩ : ∃ Q, Q = MQ below (va_Qi (fun r μ2 => μ2 = μ ∧ (r = 0 ∨ r = 1)) (BB G B) (fun q => B ≤ q)) args s 0 0 (fun q => B ≤ q) := ⟨_, rfl⟩
  rw [← hQ]
  have ne0_1 : md ≠ ab := mp_ne hm hab (by simp)
  have ne0_2 : md ≠ av := mp_ne hm hav (by simp)
  have in_X4_isWithin_X4 : ∀ w ∈ wsX40, w ∈ wsX4_isWithin := by decide +kernel
  have L30 : ∀ (N30 : Nat) (k1 : Nat) (t1 : Nat) (hN30 : 144 - k1 < N30) (hk1 : k1 ≤ 144) (ht1 : t1 ≤ 1), ∀ (H : Heap) (locs : List Loc), mw G.1 vwCl B (μ) H → va_S (fun q => B ≤ q) s.heap H locs → ∀ ls : Array Slot, lv_has ls 5 [(0, .ref md), (1, .int (nI a9)), (2, .int (nI b9)), (3, .int (nI t1)), (4, .int (nI k1))] → W p l e rn_X4_isWithin s m args below meth c H locs 0 0 Q (F0 m 30 ls []) := by
    intro N30
    induction N30 with
    | zero => intro k1 t1 hN30; exact absurd hN30 (Nat.not_lt_zero _)
    | succ N30 ih30 =>
      intro k1 t1 hN30 hk1 ht1 H locs hP hS ls hl
      refine lv_iload hx hb dX4_isWithin_30 (lv_at hl 4 rfl) ?_
      refine lv_sipush (v := nI 144) hx hb dX4_isWithin_32 (by decide) ?_
      refine nv_icmp_ge (tgt := 84) hx hb (by omega) (by omega) dX4_isWithin_35 (by decide) (fun hc35 => ?_) (fun hc35 => ?_)
      · refine lv_iload_n hx hb dX4_isWithin_84 rfl (lv_at hl 3 rfl) ?_
        rw [hQ]
        exact W.zret (v := nI t1) (ty := .boolean) hx hb hr (zb_n (by omega)) (fun t99 ht99 hW99 => ⟨⟨nI t1, μ, rfl, (⟨rfl, tb_01 ht1⟩), by show mw _ _ _ _ t99.heap; rw [ht99]; exact hP⟩, hS.F ht99⟩) hS.2.2 dX4_isWithin_85
      · refine lv_iload_n hx hb dX4_isWithin_38 rfl (lv_at hl 3 rfl) ?_
        refine lv_if_eq (tgt := 76) hx hb dX4_isWithin_39 (by decide) (fun hc39 => ?_) (fun hc39 => ?_)
        · refine lv_iconst (v := nI 0) hx hb dX4_isWithin_76 (by decide) ?_
          refine lv_istore_n (lv' := [(3, .int (nI 0)), (0, .ref md), (1, .int (nI a9)), (2, .int (nI b9)), (4, .int (nI k1))]) hx hb dX4_isWithin_77 rfl hl (by decide) rfl (fun ls hl => ?_)
          refine lv_iinc (v := nI (k1 + 1)) (lv' := [(4, .int (nI (k1 + 1))), (3, .int (nI 0)), (0, .ref md), (1, .int (nI a9)), (2, .int (nI b9))]) hx hb dX4_isWithin_78 hl (k := 4) rfl (nI_add _ _) (by decide) rfl (fun ls hl => ?_)
          refine lv_goto (tgt := 30) hx hb dX4_isWithin_81 (by decide) ?_
          exact ih30 (k1 + 1) 0 (by omega) (by omega) (by omega) _ _ hP hS ls (lv_sub hl [2, 3, 4, 1, 0] rfl)
        · refine lv_aload_n hx hb dX4_isWithin_42 rfl (lv_at hl 0 rfl) ?_
          refine mw_get (C := RX4) (T := TX4) (N := 13) hx hb hts in_X4_isWithin_X4 hown hK hP (hm) rfl 1 (by decide) (hts (.fieldLink RX4 7 "OctagonDeskModel" "bound" "[J") (by decide +kernel)) (fun _ h9 => h9) rfl dX4_isWithin_43 ?_
          refine lv_sipush (v := nI 144) hx hb dX4_isWithin_46 (by decide) ?_
          refine lv_iload_n hx hb dX4_isWithin_49 rfl (lv_at hl 1 rfl) ?_
          refine nv_imul hx hb dX4_isWithin_50 ?_
          refine lv_iload hx hb dX4_isWithin_51 (lv_at hl 4 rfl) ?_
          refine nv_iadd hx hb dX4_isWithin_53 ?_
          refine mw_lald hx hb hK hP 0 (hab) rfl (by omega) (by omega) dX4_isWithin_54 ?_
          refine lv_aload_n hx hb dX4_isWithin_55 rfl (lv_at hl 0 rfl) ?_
          refine mw_get (C := RX4) (T := TX4) (N := 13) hx hb hts in_X4_isWithin_X4 hown hK hP (hm) rfl 1 (by decide) (hts (.fieldLink RX4 7 "OctagonDeskModel" "bound" "[J") (by decide +kernel)) (fun _ h9 => h9) rfl dX4_isWithin_56 ?_
          refine lv_sipush (v := nI 144) hx hb dX4_isWithin_59 (by decide) ?_
          refine lv_iload_n hx hb dX4_isWithin_62 rfl (lv_at hl 2 rfl) ?_
          refine nv_imul hx hb dX4_isWithin_63 ?_
          refine lv_iload hx hb dX4_isWithin_64 (lv_at hl 4 rfl) ?_
          refine nv_iadd hx hb dX4_isWithin_66 ?_
          refine mw_lald hx hb hK hP 0 (hab) rfl (by omega) (by omega) dX4_isWithin_67 ?_
          refine nl_if_gt (tgt := 76) hx hb dX4_isWithin_68 dX4_isWithin_69 (by decide) (fun hc68 => ?_) (fun hc68 => ?_)
          · refine lv_iconst (v := nI 0) hx hb dX4_isWithin_76 (by decide) ?_
            refine lv_istore_n (lv' := [(3, .int (nI 0)), (0, .ref md), (1, .int (nI a9)), (2, .int (nI b9)), (4, .int (nI k1))]) hx hb dX4_isWithin_77 rfl hl (by decide) rfl (fun ls hl => ?_)
            refine lv_iinc (v := nI (k1 + 1)) (lv' := [(4, .int (nI (k1 + 1))), (3, .int (nI 0)), (0, .ref md), (1, .int (nI a9)), (2, .int (nI b9))]) hx hb dX4_isWithin_78 hl (k := 4) rfl (nI_add _ _) (by decide) rfl (fun ls hl => ?_)
            refine lv_goto (tgt := 30) hx hb dX4_isWithin_81 (by decide) ?_
            exact ih30 (k1 + 1) 0 (by omega) (by omega) (by omega) _ _ hP hS ls (lv_sub hl [2, 3, 4, 1, 0] rfl)
          · refine lv_iconst (v := nI 1) hx hb dX4_isWithin_72 (by decide) ?_
            refine lv_goto (tgt := 77) hx hb dX4_isWithin_73 (by decide) ?_
            refine lv_istore_n (lv' := [(3, .int (nI 1)), (0, .ref md), (1, .int (nI a9)), (2, .int (nI b9)), (4, .int (nI k1))]) hx hb dX4_isWithin_77 rfl hl (by decide) rfl (fun ls hl => ?_)
            refine lv_iinc (v := nI (k1 + 1)) (lv' := [(4, .int (nI (k1 + 1))), (3, .int (nI 1)), (0, .ref md), (1, .int (nI a9)), (2, .int (nI b9))]) hx hb dX4_isWithin_78 hl (k := 4) rfl (nI_add _ _) (by decide) rfl (fun ls hl => ?_)
            refine lv_goto (tgt := 30) hx hb dX4_isWithin_81 (by decide) ?_
            exact ih30 (k1 + 1) 1 (by omega) (by omega) (by omega) _ _ hP hS ls (lv_sub hl [2, 3, 4, 1, 0] rfl)
  have hl := lv_entry ([.ref md, .int (nI a9), .int (nI b9)]) (n := 5) (Nat.le_of_ble_eq_true rfl)
  have he9 : entryFrame m args 5 = entryFrame m ([.ref md, .int (nI a9), .int (nI b9)] : List Value).toArray 5 := by rw [hargs]
  rw [he9, lg_entry_eq]
  generalize (lg_sl ([.ref md, .int (nI a9), .int (nI b9)]) ++ List.replicate (5 - (lg_sl ([.ref md, .int (nI a9), .int (nI b9)])).length) Slot.unset).toArray = ls at hl ⊢
  have hl : lv_has ls 5 [(0, .ref md), (1, .int (nI a9)), (2, .int (nI b9))] := hl
  refine lv_aload_n hx hb dX4_isWithin_0 rfl (lv_at hl 0 rfl) ?_
  refine mw_get (C := RX4) (T := TX4) (N := 13) hx hb hts in_X4_isWithin_X4 hown hK hP (hm) rfl 2 (by decide) (hts (.fieldLink RX4 13 "OctagonDeskModel" "isVoid" "[Z") (by decide +kernel)) (fun _ h9 => h9) rfl dX4_isWithin_1 ?_
  refine lv_iload_n hx hb dX4_isWithin_4 rfl (lv_at hl 1 rfl) ?_
  refine mw_zald hx hb hK hP 2 (hav) rfl (by omega) (by omega) dX4_isWithin_5 ?_
  refine lv_if_ne (tgt := 18) hx hb dX4_isWithin_6 (by decide) (fun hc6 => ?_) (fun hc6 => ?_)
  · refine lv_aload_n hx hb dX4_isWithin_18 rfl (lv_at hl 0 rfl) ?_
    refine mw_get (C := RX4) (T := TX4) (N := 13) hx hb hts in_X4_isWithin_X4 hown hK hP (hm) rfl 2 (by decide) (hts (.fieldLink RX4 13 "OctagonDeskModel" "isVoid" "[Z") (by decide +kernel)) (fun _ h9 => h9) rfl dX4_isWithin_19 ?_
    refine lv_iload_n hx hb dX4_isWithin_22 rfl (lv_at hl 1 rfl) ?_
    refine mw_zald hx hb hK hP 2 (hav) rfl (by omega) (by omega) dX4_isWithin_23 ?_
    rw [hQ]
    exact W.zret (v := v a9) (ty := .boolean) hx hb hr (zb_r (hvb a9)) (fun t99 ht99 hW99 => ⟨⟨v a9, μ, rfl, (⟨rfl, hvb a9⟩), by show mw _ _ _ _ t99.heap; rw [ht99]; exact hP⟩, hS.F ht99⟩) hS.2.2 dX4_isWithin_24
  · refine lv_aload_n hx hb dX4_isWithin_9 rfl (lv_at hl 0 rfl) ?_
    refine mw_get (C := RX4) (T := TX4) (N := 13) hx hb hts in_X4_isWithin_X4 hown hK hP (hm) rfl 2 (by decide) (hts (.fieldLink RX4 13 "OctagonDeskModel" "isVoid" "[Z") (by decide +kernel)) (fun _ h9 => h9) rfl dX4_isWithin_10 ?_
    refine lv_iload_n hx hb dX4_isWithin_13 rfl (lv_at hl 2 rfl) ?_
    refine mw_zald hx hb hK hP 2 (hav) rfl (by omega) (by omega) dX4_isWithin_14 ?_
    refine lv_if_eq (tgt := 25) hx hb dX4_isWithin_15 (by decide) (fun hc15 => ?_) (fun hc15 => ?_)
    · refine lv_iconst (v := nI 1) hx hb dX4_isWithin_25 (by decide) ?_
      refine lv_istore_n (lv' := [(3, .int (nI 1)), (0, .ref md), (1, .int (nI a9)), (2, .int (nI b9))]) hx hb dX4_isWithin_26 rfl hl (by decide) rfl (fun ls hl => ?_)
      refine lv_iconst (v := nI 0) hx hb dX4_isWithin_27 (by decide) ?_
      refine lv_istore (lv' := [(4, .int (nI 0)), (3, .int (nI 1)), (0, .ref md), (1, .int (nI a9)), (2, .int (nI b9))]) hx hb dX4_isWithin_28 hl (by decide) rfl (fun ls hl => ?_)
      exact L30 _ 0 1 (Nat.lt_succ_self _) (by omega) (by omega) _ _ hP hS ls (lv_sub hl [2, 3, 4, 1, 0] rfl)
    · refine lv_aload_n hx hb dX4_isWithin_18 rfl (lv_at hl 0 rfl) ?_
      refine mw_get (C := RX4) (T := TX4) (N := 13) hx hb hts in_X4_isWithin_X4 hown hK hP (hm) rfl 2 (by decide) (hts (.fieldLink RX4 13 "OctagonDeskModel" "isVoid" "[Z") (by decide +kernel)) (fun _ h9 => h9) rfl dX4_isWithin_19 ?_
      refine lv_iload_n hx hb dX4_isWithin_22 rfl (lv_at hl 1 rfl) ?_
      refine mw_zald hx hb hK hP 2 (hav) rfl (by omega) (by omega) dX4_isWithin_23 ?_
      rw [hQ]
      exact W.zret (v := v a9) (ty := .boolean) hx hb hr (zb_r (hvb a9)) (fun t99 ht99 hW99 => ⟨⟨v a9, μ, rfl, (⟨rfl, hvb a9⟩), by show mw _ _ _ _ t99.heap; rw [ht99]; exact hP⟩, hS.F ht99⟩) hS.2.2 dX4_isWithin_24

abbrev rn_X4_inside : Room := { frames := 2, cells := 0, slots := 0, locals := 42 }
set_option maxHeartbeats 4000000 in
set_option maxRecDepth 100000 in
theorem m_X4_inside (l : Launch) (G : GG) (B : Nat) (μ : mp) (md ab av c1 c2 c3 c4 c5 c6 c7 c8 c9 fl st : Nat) (f : Nat → Int64) (v : Nat → Int32) (x9 y9 : Int32) (hm : μ md = some (.inr (4, [.int (nI fl), .ref ab, .ref av, .int (nI st), .ref c1, .ref c2, .ref c3, .ref c4, .ref c5, .ref c6, .ref c7, .ref c8, .ref c9]))) (hab : μ ab = some (.inl (G.2 0, 3744, .inr (.inl f)))) (hav : μ av = some (.inl (G.2 2, 26, .inl v))) (hsy : Sym f) (hvb : VB v) : Met l yX4_inside wsX4_inside rn_X4_inside (va_Pc [.ref md, .int x9, .int y9] (KW G B μ)) (va_Qi (fun r μ2 => ∃ (fl9 : Nat) (g9 : Nat → Int64) (w9 : Nat → Int32), μ2 = mu (mu (mu μ md (.inr (4, [.int (nI fl9), .ref ab, .ref av, .int (nI st), .ref c1, .ref c2, .ref c3, .ref c4, .ref c5, .ref c6, .ref c7, .ref c8, .ref c9]))) ab (.inl (G.2 0, 3744, .inr (.inl g9)))) av (.inl (G.2 2, 26, .inl w9)) ∧ (Sym g9 ∧ VB w9)) (BB G B) (fun q => B ≤ q)) 0 0 (fun q => B ≤ q) := by
  refine Met.ofW (cc := cX4_inside) (maxL := 3) (ret := (some .boolean)) (by decide) rfl ?_
  intro p e s m args below meth c s₁ B9 hml hv
  obtain ⟨hargs, hBs, hP, hKK⟩ := hv
  have hx := B9.exec
  have hb := B9.bytes
  have hr := B9.returns
  have hts := atoms_spec (ws := wsX4_inside) B9.pre
  have hown : s.vm.findClass RX4 = some m.cls := findClass_of_methodNamed B9.named
  have hlocks := B9.notSynchronized
  have hK := hKK.k
  have hS : va_S (fun q => B ≤ q) s.heap s.heap [] := va_S.rf
  obtain ⟨Q, hQ⟩ : ∃ Q, Q = MQ below (va_Qi (fun r μ2 => ∃ (fl9 : Nat) (g9 : Nat → Int64) (w9 : Nat → Int32), μ2 = mu (mu (mu μ md (.inr (4, [.int (nI fl9), .ref ab, .ref av, .int (nI st), .ref c1, .ref c2, .ref c3, .ref c4, .ref c5, .ref c6, .ref c7, .ref c8, .ref c9]))) ab (.inl (G.2 0, 3744, .inr (.inl g9)))) av (.inl (G.2 2, 26, .inl w9)) ∧ (Sym g9 ∧ VB w9)) (BB G B) (fun q => B ≤ q)) args s 0 0 (fun q => B ≤ q) := ⟨_, rfl⟩
  rw [← hQ]
  have ne0_1 : md ≠ ab := mp_ne hm hab (by simp)
  have ne0_2 : md ≠ av := mp_ne hm hav (by simp)
  have hP : mw G.1 vwCl B (mu (mu (mu μ md (.inr (4, [.int (nI fl), .ref ab, .ref av, .int (nI st), .ref c1, .ref c2, .ref c3, .ref c4, .ref c5, .ref c6, .ref c7, .ref c8, .ref c9]))) ab (.inl (G.2 0, 3744, .inr (.inl f)))) av (.inl (G.2 2, 26, .inl v))) s.heap := mw_eq ((congrArg (fun z => mu z av (.inl (G.2 2, 26, .inl v))) ((congrArg (fun z => mu z ab (.inl (G.2 0, 3744, .inr (.inl f)))) (mu_i hm)).trans (mu_i hab))).trans (mu_i hav)).symm hP
  have hl := lv_entry ([.ref md, .int x9, .int y9]) (n := 3) (Nat.le_of_ble_eq_true rfl)
  have he9 : entryFrame m args 3 = entryFrame m ([.ref md, .int x9, .int y9] : List Value).toArray 3 := by rw [hargs]
  rw [he9, lg_entry_eq]
  generalize (lg_sl ([.ref md, .int x9, .int y9]) ++ List.replicate (3 - (lg_sl ([.ref md, .int x9, .int y9])).length) Slot.unset).toArray = ls at hl ⊢
  have hl : lv_has ls 3 [(0, .ref md), (1, .int x9), (2, .int y9)] := hl
  refine lv_aload_n hx hb dX4_inside_0 rfl (lv_at hl 0 rfl) ?_
  refine lv_iload_n hx hb dX4_inside_1 rfl (lv_at hl 1 rfl) ?_
  refine kc_i (va_runS (As := [.int x9]) (rest := [.ref md]) ⟨hx, hb, hml, hown, hts⟩ (c_X4_isSlot l G B (mu (mu (mu μ md (.inr (4, [.int (nI fl), .ref ab, .ref av, .int (nI st), .ref c1, .ref c2, .ref c3, .ref c4, .ref c5, .ref c6, .ref c7, .ref c8, .ref c9]))) ab (.inl (G.2 0, 3744, .inr (.inl f)))) av (.inl (G.2 2, 26, .inl v))) x9) (va_cwS 1 hts gX4_inside_X4_isSlot rfl rfl rfl (by decide +kernel) ⟨Nat.le_of_ble_eq_true rfl, Nat.le_of_ble_eq_true rfl⟩) ⟨KW.blind, fun U9 hU9 hW9 => ⟨rfl, KW.pre hBs hKK hS hP U9 hU9 hW9⟩⟩ rfl rfl hl.1 rfl (lv_room (Nat.le_of_ble_eq_true rfl)) dX4_inside_2 ⟨(Nat.le_of_ble_eq_true rfl), (Nat.le_of_ble_eq_true rfl)⟩) hS (fun r2 m2 H locs hq9 hP hz9 hS => ?_)
  obtain ⟨he9, hy2⟩ := hq9
  rw [he9] at hP
  refine lv_if_eq (tgt := 19) hx hb dX4_inside_5 (by decide) (fun hc5 => ?_) (fun hc5 => ?_)
  · refine lv_iconst (v := nI 1) hx hb dX4_inside_19 (by decide) ?_
    refine kc_i (va_runV (As := [.int (nI 1)]) (rest := []) ⟨hx, hb, hml, hown, hts⟩ (c_X4_refused l G B (mu (mu (mu μ md (.inr (4, [.int (nI fl), .ref ab, .ref av, .int (nI st), .ref c1, .ref c2, .ref c3, .ref c4, .ref c5, .ref c6, .ref c7, .ref c8, .ref c9]))) ab (.inl (G.2 0, 3744, .inr (.inl f)))) av (.inl (G.2 2, 26, .inl v))) md ab av c1 c2 c3 c4 c5 c6 c7 c8 c9 fl st f v 1 ((mu_n ne0_2).trans ((mu_n ne0_1).trans (mu_s _ _ _))) ((mu_n ((mp_ne hab hav (by simp)))).trans (mu_s _ _ _)) (mu_s _ _ _) (by omega)) (cwV 1 hts gX4_inside_X4_refused rfl rfl rfl (by decide +kernel) ⟨Nat.le_of_ble_eq_true rfl, Nat.le_of_ble_eq_true rfl⟩) ⟨KW.blind, hP.recv hK rfl ((mu_n ne0_2).trans ((mu_n ne0_1).trans (mu_s _ _ _))), fun U9 hU9 hW9 => ⟨rfl, KW.pre hBs hKK hS hP U9 hU9 hW9⟩⟩ rfl rfl hl.1 rfl (lv_room (Nat.le_of_ble_eq_true rfl)) dX4_inside_20 ⟨(Nat.le_of_ble_eq_true rfl), (Nat.le_of_ble_eq_true rfl)⟩) hS (fun r20 m20 H locs hq9 hP hz9 hS => ?_)
    obtain ⟨he9, hw0, hw1⟩ := hq9
    rw [he9] at hP
    have hP : mw G.1 vwCl B (mu (mu (mu μ md (.inr (4, [.int (nI 1), .ref ab, .ref av, .int (nI st), .ref c1, .ref c2, .ref c3, .ref c4, .ref c5, .ref c6, .ref c7, .ref c8, .ref c9]))) ab (.inl (G.2 0, 3744, .inr (.inl f)))) av (.inl (G.2 2, 26, .inl v))) _ := mw_eq ((mu_c _ _ ((Ne.symm ne0_2))).trans (congrArg (fun z => mu z av (.inl (G.2 2, 26, .inl v))) ((mu_c _ _ ((Ne.symm ne0_1))).trans (congrArg (fun z => mu z ab (.inl (G.2 0, 3744, .inr (.inl f)))) (mu_u _ _ _ _))))) hP
    obtain rfl : r20 = nI 1 := hw1 (by decide)
    refine lv_if_ne (tgt := 39) hx hb dX4_inside_23 (by decide) (fun hc23 => ?_) (fun hc23 => ?_)
    · refine lv_iconst (v := nI 0) hx hb dX4_inside_39 (by decide) ?_
      rw [hQ]
      exact W.zret (v := nI 0) (ty := .boolean) hx hb hr (by first | rfl | decide) (fun t99 ht99 hW99 => ⟨⟨nI 0, mu (mu (mu μ md (.inr (4, [.int (nI 1), .ref ab, .ref av, .int (nI st), .ref c1, .ref c2, .ref c3, .ref c4, .ref c5, .ref c6, .ref c7, .ref c8, .ref c9]))) ab (.inl (G.2 0, 3744, .inr (.inl f)))) av (.inl (G.2 2, 26, .inl v)), rfl, (⟨_, _, _, rfl, ⟨hsy, hvb⟩⟩), by show mw _ _ _ _ t99.heap; rw [ht99]; exact hP⟩, hS.F ht99⟩) hS.2.2 dX4_inside_40
    · exact absurd hc23 (by decide)
  · refine lv_iload_n hx hb dX4_inside_8 rfl (lv_at hl 2 rfl) ?_
    refine kc_i (va_runS (As := [.int y9]) (rest := [.ref md]) ⟨hx, hb, hml, hown, hts⟩ (c_X4_isSlot l G B (mu (mu (mu μ md (.inr (4, [.int (nI fl), .ref ab, .ref av, .int (nI st), .ref c1, .ref c2, .ref c3, .ref c4, .ref c5, .ref c6, .ref c7, .ref c8, .ref c9]))) ab (.inl (G.2 0, 3744, .inr (.inl f)))) av (.inl (G.2 2, 26, .inl v))) y9) (va_cwS 1 hts gX4_inside_X4_isSlot rfl rfl rfl (by decide +kernel) ⟨Nat.le_of_ble_eq_true rfl, Nat.le_of_ble_eq_true rfl⟩) ⟨KW.blind, fun U9 hU9 hW9 => ⟨rfl, KW.pre hBs hKK hS hP U9 hU9 hW9⟩⟩ rfl rfl hl.1 rfl (lv_room (Nat.le_of_ble_eq_true rfl)) dX4_inside_9 ⟨(Nat.le_of_ble_eq_true rfl), (Nat.le_of_ble_eq_true rfl)⟩) hS (fun r9 m9 H locs hq9 hP hz9 hS => ?_)
    obtain ⟨he9, hy9⟩ := hq9
    rw [he9] at hP
    refine lv_if_eq (tgt := 19) hx hb dX4_inside_12 (by decide) (fun hc12 => ?_) (fun hc12 => ?_)
    · refine lv_iconst (v := nI 1) hx hb dX4_inside_19 (by decide) ?_
      refine kc_i (va_runV (As := [.int (nI 1)]) (rest := []) ⟨hx, hb, hml, hown, hts⟩ (c_X4_refused l G B (mu (mu (mu μ md (.inr (4, [.int (nI fl), .ref ab, .ref av, .int (nI st), .ref c1, .ref c2, .ref c3, .ref c4, .ref c5, .ref c6, .ref c7, .ref c8, .ref c9]))) ab (.inl (G.2 0, 3744, .inr (.inl f)))) av (.inl (G.2 2, 26, .inl v))) md ab av c1 c2 c3 c4 c5 c6 c7 c8 c9 fl st f v 1 ((mu_n ne0_2).trans ((mu_n ne0_1).trans (mu_s _ _ _))) ((mu_n ((mp_ne hab hav (by simp)))).trans (mu_s _ _ _)) (mu_s _ _ _) (by omega)) (cwV 1 hts gX4_inside_X4_refused rfl rfl rfl (by decide +kernel) ⟨Nat.le_of_ble_eq_true rfl, Nat.le_of_ble_eq_true rfl⟩) ⟨KW.blind, hP.recv hK rfl ((mu_n ne0_2).trans ((mu_n ne0_1).trans (mu_s _ _ _))), fun U9 hU9 hW9 => ⟨rfl, KW.pre hBs hKK hS hP U9 hU9 hW9⟩⟩ rfl rfl hl.1 rfl (lv_room (Nat.le_of_ble_eq_true rfl)) dX4_inside_20 ⟨(Nat.le_of_ble_eq_true rfl), (Nat.le_of_ble_eq_true rfl)⟩) hS (fun r20 m20 H locs hq9 hP hz9 hS => ?_)
      obtain ⟨he9, hw0, hw1⟩ := hq9
      rw [he9] at hP
      have hP : mw G.1 vwCl B (mu (mu (mu μ md (.inr (4, [.int (nI 1), .ref ab, .ref av, .int (nI st), .ref c1, .ref c2, .ref c3, .ref c4, .ref c5, .ref c6, .ref c7, .ref c8, .ref c9]))) ab (.inl (G.2 0, 3744, .inr (.inl f)))) av (.inl (G.2 2, 26, .inl v))) _ := mw_eq ((mu_c _ _ ((Ne.symm ne0_2))).trans (congrArg (fun z => mu z av (.inl (G.2 2, 26, .inl v))) ((mu_c _ _ ((Ne.symm ne0_1))).trans (congrArg (fun z => mu z ab (.inl (G.2 0, 3744, .inr (.inl f)))) (mu_u _ _ _ _))))) hP
      obtain rfl : r20 = nI 1 := hw1 (by decide)
      refine lv_if_ne (tgt := 39) hx hb dX4_inside_23 (by decide) (fun hc23 => ?_) (fun hc23 => ?_)
      · refine lv_iconst (v := nI 0) hx hb dX4_inside_39 (by decide) ?_
        rw [hQ]
        exact W.zret (v := nI 0) (ty := .boolean) hx hb hr (by first | rfl | decide) (fun t99 ht99 hW99 => ⟨⟨nI 0, mu (mu (mu μ md (.inr (4, [.int (nI 1), .ref ab, .ref av, .int (nI st), .ref c1, .ref c2, .ref c3, .ref c4, .ref c5, .ref c6, .ref c7, .ref c8, .ref c9]))) ab (.inl (G.2 0, 3744, .inr (.inl f)))) av (.inl (G.2 2, 26, .inl v)), rfl, (⟨_, _, _, rfl, ⟨hsy, hvb⟩⟩), by show mw _ _ _ _ t99.heap; rw [ht99]; exact hP⟩, hS.F ht99⟩) hS.2.2 dX4_inside_40
      · exact absurd hc23 (by decide)
    · refine lv_iconst (v := nI 0) hx hb dX4_inside_15 (by decide) ?_
      refine lv_goto (tgt := 20) hx hb dX4_inside_16 (by decide) ?_
      refine kc_i (va_runV (As := [.int (nI 0)]) (rest := []) ⟨hx, hb, hml, hown, hts⟩ (c_X4_refused l G B (mu (mu (mu μ md (.inr (4, [.int (nI fl), .ref ab, .ref av, .int (nI st), .ref c1, .ref c2, .ref c3, .ref c4, .ref c5, .ref c6, .ref c7, .ref c8, .ref c9]))) ab (.inl (G.2 0, 3744, .inr (.inl f)))) av (.inl (G.2 2, 26, .inl v))) md ab av c1 c2 c3 c4 c5 c6 c7 c8 c9 fl st f v 0 ((mu_n ne0_2).trans ((mu_n ne0_1).trans (mu_s _ _ _))) ((mu_n ((mp_ne hab hav (by simp)))).trans (mu_s _ _ _)) (mu_s _ _ _) (by omega)) (cwV 1 hts gX4_inside_X4_refused rfl rfl rfl (by decide +kernel) ⟨Nat.le_of_ble_eq_true rfl, Nat.le_of_ble_eq_true rfl⟩) ⟨KW.blind, hP.recv hK rfl ((mu_n ne0_2).trans ((mu_n ne0_1).trans (mu_s _ _ _))), fun U9 hU9 hW9 => ⟨rfl, KW.pre hBs hKK hS hP U9 hU9 hW9⟩⟩ rfl rfl hl.1 rfl (lv_room (Nat.le_of_ble_eq_true rfl)) dX4_inside_20 ⟨(Nat.le_of_ble_eq_true rfl), (Nat.le_of_ble_eq_true rfl)⟩) hS (fun r20 m20 H locs hq9 hP hz9 hS => ?_)
      obtain ⟨he9, hw0, hw1⟩ := hq9
      rw [he9] at hP
      have hP : mw G.1 vwCl B (mu (mu (mu μ md (.inr (4, [.int (nI 0), .ref ab, .ref av, .int (nI st), .ref c1, .ref c2, .ref c3, .ref c4, .ref c5, .ref c6, .ref c7, .ref c8, .ref c9]))) ab (.inl (G.2 0, 3744, .inr (.inl f)))) av (.inl (G.2 2, 26, .inl v))) _ := mw_eq ((mu_c _ _ ((Ne.symm ne0_2))).trans (congrArg (fun z => mu z av (.inl (G.2 2, 26, .inl v))) ((mu_c _ _ ((Ne.symm ne0_1))).trans (congrArg (fun z => mu z ab (.inl (G.2 0, 3744, .inr (.inl f)))) (mu_u _ _ _ _))))) hP
      obtain rfl : r20 = nI 0 := hw0 rfl
      refine lv_if_ne (tgt := 39) hx hb dX4_inside_23 (by decide) (fun hc23 => ?_) (fun hc23 => ?_)
      · exact absurd rfl hc23
      · have hok : okS x9 ∧ okS y9 := ⟨yn_t hy2 hc5, yn_t hy9 hc12⟩
        obtain ⟨nx9, hnx9, enx9⟩ := ok_nat (n := 6) (by decide) hok.1
        subst enx9
        obtain ⟨ny9, hny9, eny9⟩ := ok_nat (n := 6) (by decide) hok.2
        subst eny9
        refine lv_aload_n hx hb dX4_inside_26 rfl (lv_at hl 0 rfl) ?_
        refine lv_iload_n hx hb dX4_inside_27 rfl (lv_at hl 1 rfl) ?_
        refine lv_iload_n hx hb dX4_inside_28 rfl (lv_at hl 2 rfl) ?_
        refine kc_i (va_runV (As := [.int (nI nx9), .int (nI ny9)]) (rest := []) ⟨hx, hb, hml, hown, hts⟩ (m_X4_isWithin l G B (mu (mu (mu μ md (.inr (4, [.int (nI 0), .ref ab, .ref av, .int (nI st), .ref c1, .ref c2, .ref c3, .ref c4, .ref c5, .ref c6, .ref c7, .ref c8, .ref c9]))) ab (.inl (G.2 0, 3744, .inr (.inl f)))) av (.inl (G.2 2, 26, .inl v))) md ab av c1 c2 c3 c4 c5 c6 c7 c8 c9 0 st f v nx9 ny9 ((mu_n ne0_2).trans ((mu_n ne0_1).trans (mu_s _ _ _))) ((mu_n ((mp_ne hab hav (by simp)))).trans (mu_s _ _ _)) (mu_s _ _ _) (by omega) (by omega) (hvb)) (cwV 2 hts gX4_inside_X4_isWithin rfl rfl rfl (by decide +kernel) ⟨Nat.le_of_ble_eq_true rfl, Nat.le_of_ble_eq_true rfl⟩) ⟨KW.blind, hP.recv hK rfl ((mu_n ne0_2).trans ((mu_n ne0_1).trans (mu_s _ _ _))), fun U9 hU9 hW9 => ⟨rfl, KW.pre hBs hKK hS hP U9 hU9 hW9⟩⟩ rfl rfl hl.1 rfl (lv_room (Nat.le_of_ble_eq_true rfl)) dX4_inside_29 ⟨(Nat.le_of_ble_eq_true rfl), (Nat.le_of_ble_eq_true rfl)⟩) hS (fun r29 m29 H locs hq9 hP hz9 hS => ?_)
        obtain ⟨he9, hbr29⟩ := hq9
        rw [he9] at hP
        refine lv_if_eq (tgt := 39) hx hb dX4_inside_32 (by decide) (fun hc32 => ?_) (fun hc32 => ?_)
        · refine lv_iconst (v := nI 0) hx hb dX4_inside_39 (by decide) ?_
          rw [hQ]
          exact W.zret (v := nI 0) (ty := .boolean) hx hb hr (by first | rfl | decide) (fun t99 ht99 hW99 => ⟨⟨nI 0, mu (mu (mu μ md (.inr (4, [.int (nI 0), .ref ab, .ref av, .int (nI st), .ref c1, .ref c2, .ref c3, .ref c4, .ref c5, .ref c6, .ref c7, .ref c8, .ref c9]))) ab (.inl (G.2 0, 3744, .inr (.inl f)))) av (.inl (G.2 2, 26, .inl v)), rfl, (⟨_, _, _, rfl, ⟨hsy, hvb⟩⟩), by show mw _ _ _ _ t99.heap; rw [ht99]; exact hP⟩, hS.F ht99⟩) hS.2.2 dX4_inside_40
        · refine lv_iconst (v := nI 1) hx hb dX4_inside_35 (by decide) ?_
          refine lv_goto (tgt := 40) hx hb dX4_inside_36 (by decide) ?_
          rw [hQ]
          exact W.zret (v := nI 1) (ty := .boolean) hx hb hr (by first | rfl | decide) (fun t99 ht99 hW99 => ⟨⟨nI 1, mu (mu (mu μ md (.inr (4, [.int (nI 0), .ref ab, .ref av, .int (nI st), .ref c1, .ref c2, .ref c3, .ref c4, .ref c5, .ref c6, .ref c7, .ref c8, .ref c9]))) ab (.inl (G.2 0, 3744, .inr (.inl f)))) av (.inl (G.2 2, 26, .inl v)), rfl, (⟨_, _, _, rfl, ⟨hsy, hvb⟩⟩), by show mw _ _ _ _ t99.heap; rw [ht99]; exact hP⟩, hS.F ht99⟩) hS.2.2 dX4_inside_40

abbrev rn_X4_bounds : Room := { frames := 2, cells := 0, slots := 0, locals := 42 }
set_option maxHeartbeats 4000000 in
set_option maxRecDepth 100000 in
theorem m_X4_bounds (l : Launch) (G : GG) (B : Nat) (μ : mp) (md ab av c1 c2 c3 c4 c5 c6 c7 c8 c9 fl st : Nat) (f : Nat → Int64) (v : Nat → Int32) (x9 : Int32) (hm : μ md = some (.inr (4, [.int (nI fl), .ref ab, .ref av, .int (nI st), .ref c1, .ref c2, .ref c3, .ref c4, .ref c5, .ref c6, .ref c7, .ref c8, .ref c9]))) (hab : μ ab = some (.inl (G.2 0, 3744, .inr (.inl f)))) (hav : μ av = some (.inl (G.2 2, 26, .inl v))) (hsy : Sym f) (hvb : VB v) : Met l yX4_bounds wsX4_bounds rn_X4_bounds (va_Pc [.ref md, .int x9] (KW G B μ)) (va_Qi (fun r μ2 => ∃ (fl9 : Nat) (g9 : Nat → Int64) (w9 : Nat → Int32), μ2 = mu (mu (mu μ md (.inr (4, [.int (nI fl9), .ref ab, .ref av, .int (nI st), .ref c1, .ref c2, .ref c3, .ref c4, .ref c5, .ref c6, .ref c7, .ref c8, .ref c9]))) ab (.inl (G.2 0, 3744, .inr (.inl g9)))) av (.inl (G.2 2, 26, .inl w9)) ∧ (Sym g9 ∧ VB w9)) (BB G B) (fun q => B ≤ q)) 0 0 (fun q => B ≤ q) := by
  refine Met.ofW (cc := cX4_bounds) (maxL := 5) (ret := (some .int)) (by decide) rfl ?_
  intro p e s m args below meth c s₁ B9 hml hv
  obtain ⟨hargs, hBs, hP, hKK⟩ := hv
  have hx := B9.exec
  have hb := B9.bytes
  have hr := B9.returns
  have hts := atoms_spec (ws := wsX4_bounds) B9.pre
  have hown : s.vm.findClass RX4 = some m.cls := findClass_of_methodNamed B9.named
  have hlocks := B9.notSynchronized
  have hK := hKK.k
  have hS : va_S (fun q => B ≤ q) s.heap s.heap [] := va_S.rf
  obtain ⟨Q, hQ⟩ : ∃ Q, Q = MQ below (va_Qi (fun r μ2 => ∃ (fl9 : Nat) (g9 : Nat → Int64) (w9 : Nat → Int32), μ2 = mu (mu (mu μ md (.inr (4, [.int (nI fl9), .ref ab, .ref av, .int (nI st), .ref c1, .ref c2, .ref c3, .ref c4, .ref c5, .ref c6, .ref c7, .ref c8, .ref c9]))) ab (.inl (G.2 0, 3744, .inr (.inl g9)))) av (.inl (G.2 2, 26, .inl w9)) ∧ (Sym g9 ∧ VB w9)) (BB G B) (fun q => B ≤ q)) args s 0 0 (fun q => B ≤ q) := ⟨_, rfl⟩
  rw [← hQ]
  have ne0_1 : md ≠ ab := mp_ne hm hab (by simp)
  have ne0_2 : md ≠ av := mp_ne hm hav (by simp)
  have in_X4_bounds_X4 : ∀ w ∈ wsX40, w ∈ wsX4_bounds := by decide +kernel
  have hP : mw G.1 vwCl B (mu (mu (mu μ md (.inr (4, [.int (nI fl), .ref ab, .ref av, .int (nI st), .ref c1, .ref c2, .ref c3, .ref c4, .ref c5, .ref c6, .ref c7, .ref c8, .ref c9]))) ab (.inl (G.2 0, 3744, .inr (.inl f)))) av (.inl (G.2 2, 26, .inl v))) s.heap := mw_eq ((congrArg (fun z => mu z av (.inl (G.2 2, 26, .inl v))) ((congrArg (fun z => mu z ab (.inl (G.2 0, 3744, .inr (.inl f)))) (mu_i hm)).trans (mu_i hab))).trans (mu_i hav)).symm hP
  have L36 : ∀ (N36 : Nat) (p1 : Nat) (n0 : Nat) (ct : Int32) (hN36 : 12 - p1 < N36) (hp1 : p1 ≤ 12) (hn0 : n0 < 6), ∀ (H : Heap) (locs : List Loc), mw G.1 vwCl B (mu (mu (mu μ md (.inr (4, [.int (nI 0), .ref ab, .ref av, .int (nI st), .ref c1, .ref c2, .ref c3, .ref c4, .ref c5, .ref c6, .ref c7, .ref c8, .ref c9]))) ab (.inl (G.2 0, 3744, .inr (.inl f)))) av (.inl (G.2 2, 26, .inl v))) H → va_S (fun q => B ≤ q) s.heap H locs → ∀ ls : Array Slot, lv_has ls 5 [(0, .ref md), (1, .int (nI n0)), (2, .int ct), (3, .int (nI p1))] → W p l e rn_X4_bounds s m args below meth c H locs 0 0 Q (F0 m 36 ls []) := by
    intro N36
    induction N36 with
    | zero => intro p1 n0 ct hN36; exact absurd hN36 (Nat.not_lt_zero _)
    | succ N36 ih36 =>
      intro p1 n0 ct hN36 hp1 hn0 H locs hP hS ls hl
      have L45 : ∀ (N45 : Nat) (q1 : Nat) (ct : Int32) (hN45 : p1 + 1 - q1 < N45) (hpo : p1 < 12) (hq1 : q1 ≤ p1 + 1), ∀ (H : Heap) (locs : List Loc), mw G.1 vwCl B (mu (mu (mu μ md (.inr (4, [.int (nI 0), .ref ab, .ref av, .int (nI st), .ref c1, .ref c2, .ref c3, .ref c4, .ref c5, .ref c6, .ref c7, .ref c8, .ref c9]))) ab (.inl (G.2 0, 3744, .inr (.inl f)))) av (.inl (G.2 2, 26, .inl v))) H → va_S (fun q => B ≤ q) s.heap H locs → ∀ ls : Array Slot, lv_has ls 5 [(0, .ref md), (1, .int (nI n0)), (2, .int ct), (3, .int (nI p1)), (4, .int (nI q1))] → W p l e rn_X4_bounds s m args below meth c H locs 0 0 Q (F0 m 45 ls []) := by
        intro N45
        induction N45 with
        | zero => intro q1 ct hN45; exact absurd hN45 (Nat.not_lt_zero _)
        | succ N45 ih45 =>
          intro q1 ct hN45 hpo hq1 H locs hP hS ls hl
          refine lv_iload hx hb dX4_bounds_45 (lv_at hl 4 rfl) ?_
          refine lv_iload_n hx hb dX4_bounds_47 rfl (lv_at hl 3 rfl) ?_
          refine nv_icmp_gt (tgt := 89) hx hb (by omega) (by omega) dX4_bounds_48 (by decide) (fun hc48 => ?_) (fun hc48 => ?_)
          · refine lv_iinc (v := nI (p1 + 1)) (lv' := [(3, .int (nI (p1 + 1))), (0, .ref md), (1, .int (nI n0)), (2, .int ct), (4, .int (nI q1))]) hx hb dX4_bounds_89 hl (k := 3) rfl (nI_add _ _) (by decide) rfl (fun ls hl => ?_)
            refine lv_goto (tgt := 36) hx hb dX4_bounds_92 (by decide) ?_
            exact ih36 (p1 + 1) n0 ct (by omega) (by omega) (by omega) _ _ hP hS ls (lv_sub hl [1, 2, 3, 0] rfl)
          · refine lv_iload hx hb dX4_bounds_51 (lv_at hl 4 rfl) ?_
            refine lv_iload_n hx hb dX4_bounds_53 rfl (lv_at hl 3 rfl) ?_
            refine kc_i (va_runS (As := [.int (nI p1)]) (rest := [.int (nI q1)]) ⟨hx, hb, hml, hown, hts⟩ (c_X4_minus l G B (mu (mu (mu μ md (.inr (4, [.int (nI 0), .ref ab, .ref av, .int (nI st), .ref c1, .ref c2, .ref c3, .ref c4, .ref c5, .ref c6, .ref c7, .ref c8, .ref c9]))) ab (.inl (G.2 0, 3744, .inr (.inl f)))) av (.inl (G.2 2, 26, .inl v))) p1 (by omega)) (va_cwS 1 hts gX4_bounds_X4_minus rfl rfl rfl (by decide +kernel) ⟨Nat.le_of_ble_eq_true rfl, Nat.le_of_ble_eq_true rfl⟩) ⟨KW.blind, fun U9 hU9 hW9 => ⟨rfl, KW.pre hBs hKK hS hP U9 hU9 hW9⟩⟩ rfl rfl hl.1 rfl (lv_room (Nat.le_of_ble_eq_true rfl)) dX4_bounds_54 ⟨(Nat.le_of_ble_eq_true rfl), (Nat.le_of_ble_eq_true rfl)⟩) hS (fun r54 m54 H locs hq9 hP hz9 hS => ?_)
            obtain ⟨he9, rfl⟩ := hq9
            rw [he9] at hP
            have hne54 := ne_lt (p := p1) (by omega)
            refine nv_icmp_eq (tgt := 81) hx hb (by omega) (by omega) dX4_bounds_57 (by decide) (fun hc57 => ?_) (fun hc57 => ?_)
            · refine lv_iload_n hx hb dX4_bounds_81 rfl (lv_at hl 2 rfl) ?_
              refine lv_istore_n (lv' := [(2, .int ct), (0, .ref md), (1, .int (nI n0)), (3, .int (nI p1)), (4, .int (nI q1))]) hx hb dX4_bounds_82 rfl hl (by decide) rfl (fun ls hl => ?_)
              refine lv_iinc (v := nI (q1 + 1)) (lv' := [(4, .int (nI (q1 + 1))), (2, .int ct), (0, .ref md), (1, .int (nI n0)), (3, .int (nI p1))]) hx hb dX4_bounds_83 hl (k := 4) rfl (nI_add _ _) (by decide) rfl (fun ls hl => ?_)
              refine lv_goto (tgt := 45) hx hb dX4_bounds_86 (by decide) ?_
              exact ih45 (q1 + 1) ct (by omega) (by omega) (by omega) _ _ hP hS ls (lv_sub hl [2, 3, 1, 4, 0] rfl)
            · refine lv_aload_n hx hb dX4_bounds_60 rfl (lv_at hl 0 rfl) ?_
              refine lv_iload_n hx hb dX4_bounds_61 rfl (lv_at hl 1 rfl) ?_
              refine lv_iload_n hx hb dX4_bounds_62 rfl (lv_at hl 3 rfl) ?_
              refine lv_iload hx hb dX4_bounds_63 (lv_at hl 4 rfl) ?_
              refine kc_l (va_runV (As := [.int (nI n0), .int (nI p1), .int (nI q1)]) (rest := []) ⟨hx, hb, hml, hown, hts⟩ (c_X4_get l G B (mu (mu (mu μ md (.inr (4, [.int (nI 0), .ref ab, .ref av, .int (nI st), .ref c1, .ref c2, .ref c3, .ref c4, .ref c5, .ref c6, .ref c7, .ref c8, .ref c9]))) ab (.inl (G.2 0, 3744, .inr (.inl f)))) av (.inl (G.2 2, 26, .inl v))) md ab av c1 c2 c3 c4 c5 c6 c7 c8 c9 0 st f v n0 p1 q1 ((mu_n ne0_2).trans ((mu_n ne0_1).trans (mu_s _ _ _))) ((mu_n ((mp_ne hab hav (by simp)))).trans (mu_s _ _ _)) (mu_s _ _ _) (by omega) (by omega) (by omega)) (cwV 3 hts gX4_bounds_X4_get rfl rfl rfl (by decide +kernel) ⟨Nat.le_of_ble_eq_true rfl, Nat.le_of_ble_eq_true rfl⟩) ⟨KW.blind, hP.recv hK rfl ((mu_n ne0_2).trans ((mu_n ne0_1).trans (mu_s _ _ _))), fun U9 hU9 hW9 => ⟨rfl, KW.pre hBs hKK hS hP U9 hU9 hW9⟩⟩ rfl rfl hl.1 rfl (lv_room (Nat.le_of_ble_eq_true rfl)) dX4_bounds_65 ⟨(Nat.le_of_ble_eq_true rfl), (Nat.le_of_ble_eq_true rfl)⟩) hS (fun r65 m65 H locs hq9 hP hz9 hS => ?_)
              obtain ⟨he9, hr65⟩ := hq9
              rw [he9] at hP
              refine lv_ldc2 (v := (9223372036854775807)) hx hb hown (hts (.constantLong RX4 45 (9223372036854775807)) (by decide +kernel)) dX4_bounds_68 ?_
              refine nl_if_ge (tgt := 81) hx hb dX4_bounds_71 dX4_bounds_72 (by decide) (fun hc71 => ?_) (fun hc71 => ?_)
              · refine lv_iload_n hx hb dX4_bounds_81 rfl (lv_at hl 2 rfl) ?_
                refine lv_istore_n (lv' := [(2, .int ct), (0, .ref md), (1, .int (nI n0)), (3, .int (nI p1)), (4, .int (nI q1))]) hx hb dX4_bounds_82 rfl hl (by decide) rfl (fun ls hl => ?_)
                refine lv_iinc (v := nI (q1 + 1)) (lv' := [(4, .int (nI (q1 + 1))), (2, .int ct), (0, .ref md), (1, .int (nI n0)), (3, .int (nI p1))]) hx hb dX4_bounds_83 hl (k := 4) rfl (nI_add _ _) (by decide) rfl (fun ls hl => ?_)
                refine lv_goto (tgt := 45) hx hb dX4_bounds_86 (by decide) ?_
                exact ih45 (q1 + 1) ct (by omega) (by omega) (by omega) _ _ hP hS ls (lv_sub hl [2, 3, 1, 4, 0] rfl)
              · refine lv_iload_n hx hb dX4_bounds_75 rfl (lv_at hl 2 rfl) ?_
                refine lv_iconst (v := nI 1) hx hb dX4_bounds_76 (by decide) ?_
                refine lv_iadd hx hb dX4_bounds_77 ?_
                refine lv_goto (tgt := 82) hx hb dX4_bounds_78 (by decide) ?_
                refine lv_topi (fun v82 ev82 => ?_)
                refine lv_istore_n (lv' := [(2, .int v82), (0, .ref md), (1, .int (nI n0)), (3, .int (nI p1)), (4, .int (nI q1))]) hx hb dX4_bounds_82 rfl hl (by decide) rfl (fun ls hl => ?_)
                refine lv_iinc (v := nI (q1 + 1)) (lv' := [(4, .int (nI (q1 + 1))), (2, .int v82), (0, .ref md), (1, .int (nI n0)), (3, .int (nI p1))]) hx hb dX4_bounds_83 hl (k := 4) rfl (nI_add _ _) (by decide) rfl (fun ls hl => ?_)
                refine lv_goto (tgt := 45) hx hb dX4_bounds_86 (by decide) ?_
                exact ih45 (q1 + 1) v82 (by omega) (by omega) (by omega) _ _ hP hS ls (lv_sub hl [2, 3, 1, 4, 0] rfl)
      refine lv_iload_n hx hb dX4_bounds_36 rfl (lv_at hl 3 rfl) ?_
      refine lv_bipush (v := nI 12) hx hb dX4_bounds_37 (by decide) ?_
      refine nv_icmp_ge (tgt := 95) hx hb (by omega) (by omega) dX4_bounds_39 (by decide) (fun hc39 => ?_) (fun hc39 => ?_)
      · refine lv_iload_n hx hb dX4_bounds_95 rfl (lv_at hl 2 rfl) ?_
        rw [hQ]
        exact W.iret (v := ct) hx hb hr (fun t99 ht99 hW99 => ⟨⟨ct, mu (mu (mu μ md (.inr (4, [.int (nI 0), .ref ab, .ref av, .int (nI st), .ref c1, .ref c2, .ref c3, .ref c4, .ref c5, .ref c6, .ref c7, .ref c8, .ref c9]))) ab (.inl (G.2 0, 3744, .inr (.inl f)))) av (.inl (G.2 2, 26, .inl v)), rfl, (⟨_, _, _, rfl, ⟨hsy, hvb⟩⟩), by show mw _ _ _ _ t99.heap; rw [ht99]; exact hP⟩, hS.F ht99⟩) hS.2.2 dX4_bounds_96
      · refine lv_iconst (v := nI 0) hx hb dX4_bounds_42 (by decide) ?_
        refine lv_istore (lv' := [(4, .int (nI 0)), (0, .ref md), (1, .int (nI n0)), (2, .int ct), (3, .int (nI p1))]) hx hb dX4_bounds_43 hl (by decide) rfl (fun ls hl => ?_)
        exact L45 _ 0 ct (Nat.lt_succ_self _) (by omega) (by omega) _ _ hP hS ls (lv_sub hl [1, 2, 3, 4, 0] rfl)
  have hl := lv_entry ([.ref md, .int x9]) (n := 5) (Nat.le_of_ble_eq_true rfl)
  have he9 : entryFrame m args 5 = entryFrame m ([.ref md, .int x9] : List Value).toArray 5 := by rw [hargs]
  rw [he9, lg_entry_eq]
  generalize (lg_sl ([.ref md, .int x9]) ++ List.replicate (5 - (lg_sl ([.ref md, .int x9])).length) Slot.unset).toArray = ls at hl ⊢
  have hl : lv_has ls 5 [(0, .ref md), (1, .int x9)] := hl
  refine lv_aload_n hx hb dX4_bounds_0 rfl (lv_at hl 0 rfl) ?_
  refine lv_iload_n hx hb dX4_bounds_1 rfl (lv_at hl 1 rfl) ?_
  refine kc_i (va_runS (As := [.int x9]) (rest := [.ref md]) ⟨hx, hb, hml, hown, hts⟩ (c_X4_isSlot l G B (mu (mu (mu μ md (.inr (4, [.int (nI fl), .ref ab, .ref av, .int (nI st), .ref c1, .ref c2, .ref c3, .ref c4, .ref c5, .ref c6, .ref c7, .ref c8, .ref c9]))) ab (.inl (G.2 0, 3744, .inr (.inl f)))) av (.inl (G.2 2, 26, .inl v))) x9) (va_cwS 1 hts gX4_bounds_X4_isSlot rfl rfl rfl (by decide +kernel) ⟨Nat.le_of_ble_eq_true rfl, Nat.le_of_ble_eq_true rfl⟩) ⟨KW.blind, fun U9 hU9 hW9 => ⟨rfl, KW.pre hBs hKK hS hP U9 hU9 hW9⟩⟩ rfl rfl hl.1 rfl (lv_room (Nat.le_of_ble_eq_true rfl)) dX4_bounds_2 ⟨(Nat.le_of_ble_eq_true rfl), (Nat.le_of_ble_eq_true rfl)⟩) hS (fun r2 m2 H locs hq9 hP hz9 hS => ?_)
  obtain ⟨he9, hy2⟩ := hq9
  rw [he9] at hP
  refine lv_if_eq (tgt := 12) hx hb dX4_bounds_5 (by decide) (fun hc5 => ?_) (fun hc5 => ?_)
  · refine lv_iconst (v := nI 1) hx hb dX4_bounds_12 (by decide) ?_
    refine kc_i (va_runV (As := [.int (nI 1)]) (rest := []) ⟨hx, hb, hml, hown, hts⟩ (c_X4_refused l G B (mu (mu (mu μ md (.inr (4, [.int (nI fl), .ref ab, .ref av, .int (nI st), .ref c1, .ref c2, .ref c3, .ref c4, .ref c5, .ref c6, .ref c7, .ref c8, .ref c9]))) ab (.inl (G.2 0, 3744, .inr (.inl f)))) av (.inl (G.2 2, 26, .inl v))) md ab av c1 c2 c3 c4 c5 c6 c7 c8 c9 fl st f v 1 ((mu_n ne0_2).trans ((mu_n ne0_1).trans (mu_s _ _ _))) ((mu_n ((mp_ne hab hav (by simp)))).trans (mu_s _ _ _)) (mu_s _ _ _) (by omega)) (cwV 1 hts gX4_bounds_X4_refused rfl rfl rfl (by decide +kernel) ⟨Nat.le_of_ble_eq_true rfl, Nat.le_of_ble_eq_true rfl⟩) ⟨KW.blind, hP.recv hK rfl ((mu_n ne0_2).trans ((mu_n ne0_1).trans (mu_s _ _ _))), fun U9 hU9 hW9 => ⟨rfl, KW.pre hBs hKK hS hP U9 hU9 hW9⟩⟩ rfl rfl hl.1 rfl (lv_room (Nat.le_of_ble_eq_true rfl)) dX4_bounds_13 ⟨(Nat.le_of_ble_eq_true rfl), (Nat.le_of_ble_eq_true rfl)⟩) hS (fun r13 m13 H locs hq9 hP hz9 hS => ?_)
    obtain ⟨he9, hw0, hw1⟩ := hq9
    rw [he9] at hP
    have hP : mw G.1 vwCl B (mu (mu (mu μ md (.inr (4, [.int (nI 1), .ref ab, .ref av, .int (nI st), .ref c1, .ref c2, .ref c3, .ref c4, .ref c5, .ref c6, .ref c7, .ref c8, .ref c9]))) ab (.inl (G.2 0, 3744, .inr (.inl f)))) av (.inl (G.2 2, 26, .inl v))) _ := mw_eq ((mu_c _ _ ((Ne.symm ne0_2))).trans (congrArg (fun z => mu z av (.inl (G.2 2, 26, .inl v))) ((mu_c _ _ ((Ne.symm ne0_1))).trans (congrArg (fun z => mu z ab (.inl (G.2 0, 3744, .inr (.inl f)))) (mu_u _ _ _ _))))) hP
    obtain rfl : r13 = nI 1 := hw1 (by decide)
    refine lv_if_eq (tgt := 21) hx hb dX4_bounds_16 (by decide) (fun hc16 => ?_) (fun hc16 => ?_)
    · exact absurd hc16 (by decide)
    · refine lv_iconst (v := nI 0) hx hb dX4_bounds_19 (by decide) ?_
      rw [hQ]
      exact W.iret (v := nI 0) hx hb hr (fun t99 ht99 hW99 => ⟨⟨nI 0, mu (mu (mu μ md (.inr (4, [.int (nI 1), .ref ab, .ref av, .int (nI st), .ref c1, .ref c2, .ref c3, .ref c4, .ref c5, .ref c6, .ref c7, .ref c8, .ref c9]))) ab (.inl (G.2 0, 3744, .inr (.inl f)))) av (.inl (G.2 2, 26, .inl v)), rfl, (⟨_, _, _, rfl, ⟨hsy, hvb⟩⟩), by show mw _ _ _ _ t99.heap; rw [ht99]; exact hP⟩, hS.F ht99⟩) hS.2.2 dX4_bounds_20
  · refine lv_iconst (v := nI 0) hx hb dX4_bounds_8 (by decide) ?_
    refine lv_goto (tgt := 13) hx hb dX4_bounds_9 (by decide) ?_
    refine kc_i (va_runV (As := [.int (nI 0)]) (rest := []) ⟨hx, hb, hml, hown, hts⟩ (c_X4_refused l G B (mu (mu (mu μ md (.inr (4, [.int (nI fl), .ref ab, .ref av, .int (nI st), .ref c1, .ref c2, .ref c3, .ref c4, .ref c5, .ref c6, .ref c7, .ref c8, .ref c9]))) ab (.inl (G.2 0, 3744, .inr (.inl f)))) av (.inl (G.2 2, 26, .inl v))) md ab av c1 c2 c3 c4 c5 c6 c7 c8 c9 fl st f v 0 ((mu_n ne0_2).trans ((mu_n ne0_1).trans (mu_s _ _ _))) ((mu_n ((mp_ne hab hav (by simp)))).trans (mu_s _ _ _)) (mu_s _ _ _) (by omega)) (cwV 1 hts gX4_bounds_X4_refused rfl rfl rfl (by decide +kernel) ⟨Nat.le_of_ble_eq_true rfl, Nat.le_of_ble_eq_true rfl⟩) ⟨KW.blind, hP.recv hK rfl ((mu_n ne0_2).trans ((mu_n ne0_1).trans (mu_s _ _ _))), fun U9 hU9 hW9 => ⟨rfl, KW.pre hBs hKK hS hP U9 hU9 hW9⟩⟩ rfl rfl hl.1 rfl (lv_room (Nat.le_of_ble_eq_true rfl)) dX4_bounds_13 ⟨(Nat.le_of_ble_eq_true rfl), (Nat.le_of_ble_eq_true rfl)⟩) hS (fun r13 m13 H locs hq9 hP hz9 hS => ?_)
    obtain ⟨he9, hw0, hw1⟩ := hq9
    rw [he9] at hP
    have hP : mw G.1 vwCl B (mu (mu (mu μ md (.inr (4, [.int (nI 0), .ref ab, .ref av, .int (nI st), .ref c1, .ref c2, .ref c3, .ref c4, .ref c5, .ref c6, .ref c7, .ref c8, .ref c9]))) ab (.inl (G.2 0, 3744, .inr (.inl f)))) av (.inl (G.2 2, 26, .inl v))) _ := mw_eq ((mu_c _ _ ((Ne.symm ne0_2))).trans (congrArg (fun z => mu z av (.inl (G.2 2, 26, .inl v))) ((mu_c _ _ ((Ne.symm ne0_1))).trans (congrArg (fun z => mu z ab (.inl (G.2 0, 3744, .inr (.inl f)))) (mu_u _ _ _ _))))) hP
    obtain rfl : r13 = nI 0 := hw0 rfl
    refine lv_if_eq (tgt := 21) hx hb dX4_bounds_16 (by decide) (fun hc16 => ?_) (fun hc16 => ?_)
    · have hok : okS x9 := yn_t hy2 hc5
      obtain ⟨nx9, hnx9, enx9⟩ := ok_nat (n := 6) (by decide) hok
      subst enx9
      refine lv_aload_n hx hb dX4_bounds_21 rfl (lv_at hl 0 rfl) ?_
      refine mw_get (C := RX4) (T := TX4) (N := 13) hx hb hts in_X4_bounds_X4 hown hK hP ((mu_n ne0_2).trans ((mu_n ne0_1).trans (mu_s _ _ _))) rfl 2 (by decide) (hts (.fieldLink RX4 13 "OctagonDeskModel" "isVoid" "[Z") (by decide +kernel)) (fun _ h9 => h9) rfl dX4_bounds_22 ?_
      refine lv_iload_n hx hb dX4_bounds_25 rfl (lv_at hl 1 rfl) ?_
      refine mw_zald hx hb hK hP 2 (mu_s _ _ _) rfl (by omega) (by omega) dX4_bounds_26 ?_
      refine lv_if_eq (tgt := 32) hx hb dX4_bounds_27 (by decide) (fun hc27 => ?_) (fun hc27 => ?_)
      · refine lv_iconst (v := nI 0) hx hb dX4_bounds_32 (by decide) ?_
        refine lv_istore_n (lv' := [(2, .int (nI 0)), (0, .ref md), (1, .int (nI nx9))]) hx hb dX4_bounds_33 rfl hl (by decide) rfl (fun ls hl => ?_)
        refine lv_iconst (v := nI 0) hx hb dX4_bounds_34 (by decide) ?_
        refine lv_istore_n (lv' := [(3, .int (nI 0)), (2, .int (nI 0)), (0, .ref md), (1, .int (nI nx9))]) hx hb dX4_bounds_35 rfl hl (by decide) rfl (fun ls hl => ?_)
        exact L36 _ 0 nx9 (nI 0) (Nat.lt_succ_self _) (by omega) (by omega) _ _ hP hS ls (lv_sub hl [2, 3, 1, 0] rfl)
      · refine lv_iconst (v := (-1)) hx hb dX4_bounds_30 (by decide) ?_
        rw [hQ]
        exact W.iret (v := (-1)) hx hb hr (fun t99 ht99 hW99 => ⟨⟨(-1), mu (mu (mu μ md (.inr (4, [.int (nI 0), .ref ab, .ref av, .int (nI st), .ref c1, .ref c2, .ref c3, .ref c4, .ref c5, .ref c6, .ref c7, .ref c8, .ref c9]))) ab (.inl (G.2 0, 3744, .inr (.inl f)))) av (.inl (G.2 2, 26, .inl v)), rfl, (⟨_, _, _, rfl, ⟨hsy, hvb⟩⟩), by show mw _ _ _ _ t99.heap; rw [ht99]; exact hP⟩, hS.F ht99⟩) hS.2.2 dX4_bounds_31
    · exact absurd rfl hc16

abbrev rn_X4_meet : Room := { frames := 3, cells := 0, slots := 0, locals := 79 }
set_option maxHeartbeats 4000000 in
set_option maxRecDepth 100000 in
theorem m_X4_meet (l : Launch) (G : GG) (B : Nat) (μ : mp) (md ab av c1 c2 c3 c4 c5 c6 c7 c8 c9 fl st : Nat) (f : Nat → Int64) (v : Nat → Int32) (x9 y9 z9 : Int32) (hm : μ md = some (.inr (4, [.int (nI fl), .ref ab, .ref av, .int (nI st), .ref c1, .ref c2, .ref c3, .ref c4, .ref c5, .ref c6, .ref c7, .ref c8, .ref c9]))) (hab : μ ab = some (.inl (G.2 0, 3744, .inr (.inl f)))) (hav : μ av = some (.inl (G.2 2, 26, .inl v))) (hsy : Sym f) (hvb : VB v) : Met l yX4_meet wsX4_meet rn_X4_meet (va_Pc [.ref md, .int x9, .int y9, .int z9] (KW G B μ)) (va_Qi (fun r μ2 => ∃ (fl9 : Nat) (g9 : Nat → Int64) (w9 : Nat → Int32), μ2 = mu (mu (mu μ md (.inr (4, [.int (nI fl9), .ref ab, .ref av, .int (nI st), .ref c1, .ref c2, .ref c3, .ref c4, .ref c5, .ref c6, .ref c7, .ref c8, .ref c9]))) ab (.inl (G.2 0, 3744, .inr (.inl g9)))) av (.inl (G.2 2, 26, .inl w9)) ∧ (Sym g9 ∧ VB w9)) (BB G B) (fun q => B ≤ q)) 0 0 (fun q => B ≤ q) := by
  refine Met.ofW (cc := cX4_meet) (maxL := 7) (ret := (some .boolean)) (by decide) rfl ?_
  intro p e s m args below meth c s₁ B9 hml hv
  obtain ⟨hargs, hBs, hP, hKK⟩ := hv
  have hx := B9.exec
  have hb := B9.bytes
  have hr := B9.returns
  have hts := atoms_spec (ws := wsX4_meet) B9.pre
  have hown : s.vm.findClass RX4 = some m.cls := findClass_of_methodNamed B9.named
  have hlocks := B9.notSynchronized
  have hK := hKK.k
  have hS : va_S (fun q => B ≤ q) s.heap s.heap [] := va_S.rf
  obtain ⟨Q, hQ⟩ : ∃ Q, Q = MQ below (va_Qi (fun r μ2 => ∃ (fl9 : Nat) (g9 : Nat → Int64) (w9 : Nat → Int32), μ2 = mu (mu (mu μ md (.inr (4, [.int (nI fl9), .ref ab, .ref av, .int (nI st), .ref c1, .ref c2, .ref c3, .ref c4, .ref c5, .ref c6, .ref c7, .ref c8, .ref c9]))) ab (.inl (G.2 0, 3744, .inr (.inl g9)))) av (.inl (G.2 2, 26, .inl w9)) ∧ (Sym g9 ∧ VB w9)) (BB G B) (fun q => B ≤ q)) args s 0 0 (fun q => B ≤ q) := ⟨_, rfl⟩
  rw [← hQ]
  have ne0_1 : md ≠ ab := mp_ne hm hab (by simp)
  have ne0_2 : md ≠ av := mp_ne hm hav (by simp)
  have in_X4_meet_X4 : ∀ w ∈ wsX40, w ∈ wsX4_meet := by decide +kernel
  have hP : mw G.1 vwCl B (mu (mu (mu μ md (.inr (4, [.int (nI fl), .ref ab, .ref av, .int (nI st), .ref c1, .ref c2, .ref c3, .ref c4, .ref c5, .ref c6, .ref c7, .ref c8, .ref c9]))) ab (.inl (G.2 0, 3744, .inr (.inl f)))) av (.inl (G.2 2, 26, .inl v))) s.heap := mw_eq ((congrArg (fun z => mu z av (.inl (G.2 2, 26, .inl v))) ((congrArg (fun z => mu z ab (.inl (G.2 0, 3744, .inr (.inl f)))) (mu_i hm)).trans (mu_i hab))).trans (mu_i hav)).symm hP
  have L33 : ∀ (N33 : Nat) (k1 : Nat) (n0 : Nat) (n1 : Nat) (n2 : Nat) (g0 : Nat → Int64) (g1 : Nat → Int64) (v1 : Nat → Int32) (hN33 : 144 - k1 < N33) (hk1 : k1 ≤ 144) (hn0 : n0 < 6) (hn1 : n1 < 6) (hn2 : n2 < 6) (hs0 : Sym g0) (hv1 : VB v1) (hT : Th g0 g1 22 (hM g0 n2) k1), ∀ (H : Heap) (locs : List Loc), mw G.1 vwCl B (mu (mu (mu μ md (.inr (4, [.int (nI 0), .ref ab, .ref av, .int (nI st), .ref c1, .ref c2, .ref c3, .ref c4, .ref c5, .ref c6, .ref c7, .ref c8, .ref c9]))) ab (.inl (G.2 0, 3744, .inr (.inl g1)))) av (.inl (G.2 2, 26, .inl v1))) H → va_S (fun q => B ≤ q) s.heap H locs → ∀ ls : Array Slot, lv_has ls 7 [(0, .ref md), (1, .int (nI n0)), (2, .int (nI n1)), (3, .int (nI n2)), (4, .int (nI k1))] → W p l e rn_X4_meet s m args below meth c H locs 0 0 Q (F0 m 33 ls []) := by
    intro N33
    induction N33 with
    | zero => intro k1 n0 n1 n2 g0 g1 v1 hN33; exact absurd hN33 (Nat.not_lt_zero _)
    | succ N33 ih33 =>
      intro k1 n0 n1 n2 g0 g1 v1 hN33 hk1 hn0 hn1 hn2 hs0 hv1 hT H locs hP hS ls hl
      refine lv_iload hx hb dX4_meet_33 (lv_at hl 4 rfl) ?_
      refine lv_sipush (v := nI 144) hx hb dX4_meet_35 (by decide) ?_
      refine nv_icmp_ge (tgt := 106) hx hb (by omega) (by omega) dX4_meet_38 (by decide) (fun hc38 => ?_) (fun hc38 => ?_)
      · have e144 : k1 = 144 := by omega
        subst e144
        refine lv_aload_n hx hb dX4_meet_106 rfl (lv_at hl 0 rfl) ?_
        refine mw_get (C := RX4) (T := TX4) (N := 13) hx hb hts in_X4_meet_X4 hown hK hP ((mu_n ne0_2).trans ((mu_n ne0_1).trans (mu_s _ _ _))) rfl 2 (by decide) (hts (.fieldLink RX4 13 "OctagonDeskModel" "isVoid" "[Z") (by decide +kernel)) (fun _ h9 => h9) rfl dX4_meet_107 ?_
        refine lv_bipush (v := nI 22) hx hb dX4_meet_110 (by decide) ?_
        refine lv_aload_n hx hb dX4_meet_112 rfl (lv_at hl 0 rfl) ?_
        refine mw_get (C := RX4) (T := TX4) (N := 13) hx hb hts in_X4_meet_X4 hown hK hP ((mu_n ne0_2).trans ((mu_n ne0_1).trans (mu_s _ _ _))) rfl 2 (by decide) (hts (.fieldLink RX4 13 "OctagonDeskModel" "isVoid" "[Z") (by decide +kernel)) (fun _ h9 => h9) rfl dX4_meet_113 ?_
        refine lv_iload_n hx hb dX4_meet_116 rfl (lv_at hl 2 rfl) ?_
        refine mw_zald hx hb hK hP 2 (mu_s _ _ _) rfl (by omega) (by omega) dX4_meet_117 ?_
        refine lv_if_ne (tgt := 130) hx hb dX4_meet_118 (by decide) (fun hc118 => ?_) (fun hc118 => ?_)
        · refine lv_iconst (v := nI 1) hx hb dX4_meet_130 (by decide) ?_
          refine lv_goto (tgt := 135) hx hb dX4_meet_131 (by decide) ?_
          refine mw_zast hx hb hK hP hS 2 (mu_s _ _ _) rfl (by decide) (by omega) (by omega) dX4_meet_135 (fun H locs hP hS => ?_)
          have hP : mw G.1 vwCl B (mu (mu (mu μ md (.inr (4, [.int (nI 0), .ref ab, .ref av, .int (nI st), .ref c1, .ref c2, .ref c3, .ref c4, .ref c5, .ref c6, .ref c7, .ref c8, .ref c9]))) ab (.inl (G.2 0, 3744, .inr (.inl g1)))) av (.inl (G.2 2, 26, .inl (upd v1 22 (nI 1))))) _ := mw_eq (mu_u _ _ _ _) hP
          refine lv_aload_n hx hb dX4_meet_136 rfl (lv_at hl 0 rfl) ?_
          refine lv_bipush (v := nI 22) hx hb dX4_meet_137 (by decide) ?_
          refine kc_v (va_runV (As := [.int (nI 22)]) (rest := []) ⟨hx, hb, hml, hown, hts⟩ (m_X4_close l G B (mu (mu (mu μ md (.inr (4, [.int (nI 0), .ref ab, .ref av, .int (nI st), .ref c1, .ref c2, .ref c3, .ref c4, .ref c5, .ref c6, .ref c7, .ref c8, .ref c9]))) ab (.inl (G.2 0, 3744, .inr (.inl g1)))) av (.inl (G.2 2, 26, .inl (upd v1 22 (nI 1))))) md ab av c1 c2 c3 c4 c5 c6 c7 c8 c9 0 st g1 (upd v1 22 (nI 1)) 22 ((mu_n ne0_2).trans ((mu_n ne0_1).trans (mu_s _ _ _))) ((mu_n ((mp_ne hab hav (by simp)))).trans (mu_s _ _ _)) (mu_s _ _ _) (by omega) (hs0.th hT (hM_s hs0 (by omega))) (VB.u hv1 (Or.inr rfl))) (cwV 1 hts gX4_meet_X4_close rfl rfl rfl (by decide +kernel) ⟨Nat.le_of_ble_eq_true rfl, Nat.le_of_ble_eq_true rfl⟩) ⟨KW.blind, hP.recv hK rfl ((mu_n ne0_2).trans ((mu_n ne0_1).trans (mu_s _ _ _))), fun U9 hU9 hW9 => ⟨rfl, KW.pre hBs hKK hS hP U9 hU9 hW9⟩⟩ rfl rfl hl.1 rfl (lv_room (Nat.le_of_ble_eq_true rfl)) dX4_meet_139 ⟨(Nat.le_of_ble_eq_true rfl), (Nat.le_of_ble_eq_true rfl)⟩) hS (fun m139 H locs hq9 hP hz9 hS => ?_)
          obtain ⟨g139, w139, he139, hsy139, hvb139⟩ := hq9
          rw [he139] at hP
          have hP : mw G.1 vwCl B (mu (mu (mu μ md (.inr (4, [.int (nI 0), .ref ab, .ref av, .int (nI st), .ref c1, .ref c2, .ref c3, .ref c4, .ref c5, .ref c6, .ref c7, .ref c8, .ref c9]))) ab (.inl (G.2 0, 3744, .inr (.inl g139)))) av (.inl (G.2 2, 26, .inl w139))) _ := mw_eq ((congrArg (fun z => mu z av (.inl (G.2 2, 26, .inl w139))) ((mu_c _ _ ((mp_ne hav hab (by simp)))).trans (congrArg (fun z => mu z av (.inl (G.2 2, 26, .inl (upd v1 22 (nI 1))))) (mu_u _ _ _ _)))).trans (mu_u _ _ _ _)) hP
          refine lv_aload_n hx hb dX4_meet_142 rfl (lv_at hl 0 rfl) ?_
          refine lv_iload_n hx hb dX4_meet_143 rfl (lv_at hl 1 rfl) ?_
          refine lv_bipush (v := nI 22) hx hb dX4_meet_144 (by decide) ?_
          refine kc_v (va_runV (As := [.int (nI n0), .int (nI 22)]) (rest := []) ⟨hx, hb, hml, hown, hts⟩ (c_X4_load l G B (mu (mu (mu μ md (.inr (4, [.int (nI 0), .ref ab, .ref av, .int (nI st), .ref c1, .ref c2, .ref c3, .ref c4, .ref c5, .ref c6, .ref c7, .ref c8, .ref c9]))) ab (.inl (G.2 0, 3744, .inr (.inl g139)))) av (.inl (G.2 2, 26, .inl w139))) md ab av c1 c2 c3 c4 c5 c6 c7 c8 c9 0 st g139 w139 n0 22 ((mu_n ne0_2).trans ((mu_n ne0_1).trans (mu_s _ _ _))) ((mu_n ((mp_ne hab hav (by simp)))).trans (mu_s _ _ _)) (mu_s _ _ _) (by omega) (by omega) (hvb139 22)) (cwV 2 hts gX4_meet_X4_load rfl rfl rfl (by decide +kernel) ⟨Nat.le_of_ble_eq_true rfl, Nat.le_of_ble_eq_true rfl⟩) ⟨KW.blind, hP.recv hK rfl ((mu_n ne0_2).trans ((mu_n ne0_1).trans (mu_s _ _ _))), fun U9 hU9 hW9 => ⟨rfl, KW.pre hBs hKK hS hP U9 hU9 hW9⟩⟩ rfl rfl hl.1 rfl (lv_room (Nat.le_of_ble_eq_true rfl)) dX4_meet_146 ⟨(Nat.le_of_ble_eq_true rfl), (Nat.le_of_ble_eq_true rfl)⟩) hS (fun m146 H locs hq9 hP hz9 hS => ?_)
          obtain ⟨g146, he146, hL146⟩ := hq9
          rw [he146] at hP
          have hP : mw G.1 vwCl B (mu (mu (mu μ md (.inr (4, [.int (nI 0), .ref ab, .ref av, .int (nI st), .ref c1, .ref c2, .ref c3, .ref c4, .ref c5, .ref c6, .ref c7, .ref c8, .ref c9]))) ab (.inl (G.2 0, 3744, .inr (.inl g146)))) av (.inl (G.2 2, 26, .inl (upd w139 n0 (w139 22))))) _ := mw_eq ((congrArg (fun z => mu z av (.inl (G.2 2, 26, .inl (upd w139 n0 (w139 22))))) ((mu_c _ _ ((mp_ne hav hab (by simp)))).trans (congrArg (fun z => mu z av (.inl (G.2 2, 26, .inl w139))) (mu_u _ _ _ _)))).trans (mu_u _ _ _ _)) hP
          refine lv_aload_n hx hb dX4_meet_149 rfl (lv_at hl 0 rfl) ?_
          refine mw_get (C := RX4) (T := TX4) (N := 13) hx hb hts in_X4_meet_X4 hown hK hP ((mu_n ne0_2).trans ((mu_n ne0_1).trans (mu_s _ _ _))) rfl 2 (by decide) (hts (.fieldLink RX4 13 "OctagonDeskModel" "isVoid" "[Z") (by decide +kernel)) (fun _ h9 => h9) rfl dX4_meet_150 ?_
          refine lv_iload_n hx hb dX4_meet_153 rfl (lv_at hl 1 rfl) ?_
          refine mw_zald hx hb hK hP 2 (mu_s _ _ _) rfl (by omega) (by omega) dX4_meet_154 ?_
          refine lv_if_ne (tgt := 162) hx hb dX4_meet_155 (by decide) (fun hc155 => ?_) (fun hc155 => ?_)
          · refine lv_iconst (v := nI 0) hx hb dX4_meet_162 (by decide) ?_
            rw [hQ]
            exact W.zret (v := nI 0) (ty := .boolean) hx hb hr (by first | rfl | decide) (fun t99 ht99 hW99 => ⟨⟨nI 0, mu (mu (mu μ md (.inr (4, [.int (nI 0), .ref ab, .ref av, .int (nI st), .ref c1, .ref c2, .ref c3, .ref c4, .ref c5, .ref c6, .ref c7, .ref c8, .ref c9]))) ab (.inl (G.2 0, 3744, .inr (.inl g146)))) av (.inl (G.2 2, 26, .inl (upd w139 n0 (w139 22)))), rfl, (⟨_, _, _, rfl, ⟨(hsy139.ld hL146 (by omega)), (VB.u hvb139 (hvb139 22))⟩⟩), by show mw _ _ _ _ t99.heap; rw [ht99]; exact hP⟩, hS.F ht99⟩) hS.2.2 dX4_meet_163
          · refine lv_iconst (v := nI 1) hx hb dX4_meet_158 (by decide) ?_
            refine lv_goto (tgt := 163) hx hb dX4_meet_159 (by decide) ?_
            rw [hQ]
            exact W.zret (v := nI 1) (ty := .boolean) hx hb hr (by first | rfl | decide) (fun t99 ht99 hW99 => ⟨⟨nI 1, mu (mu (mu μ md (.inr (4, [.int (nI 0), .ref ab, .ref av, .int (nI st), .ref c1, .ref c2, .ref c3, .ref c4, .ref c5, .ref c6, .ref c7, .ref c8, .ref c9]))) ab (.inl (G.2 0, 3744, .inr (.inl g146)))) av (.inl (G.2 2, 26, .inl (upd w139 n0 (w139 22)))), rfl, (⟨_, _, _, rfl, ⟨(hsy139.ld hL146 (by omega)), (VB.u hvb139 (hvb139 22))⟩⟩), by show mw _ _ _ _ t99.heap; rw [ht99]; exact hP⟩, hS.F ht99⟩) hS.2.2 dX4_meet_163
        · refine lv_aload_n hx hb dX4_meet_121 rfl (lv_at hl 0 rfl) ?_
          refine mw_get (C := RX4) (T := TX4) (N := 13) hx hb hts in_X4_meet_X4 hown hK hP ((mu_n ne0_2).trans ((mu_n ne0_1).trans (mu_s _ _ _))) rfl 2 (by decide) (hts (.fieldLink RX4 13 "OctagonDeskModel" "isVoid" "[Z") (by decide +kernel)) (fun _ h9 => h9) rfl dX4_meet_122 ?_
          refine lv_iload_n hx hb dX4_meet_125 rfl (lv_at hl 3 rfl) ?_
          refine mw_zald hx hb hK hP 2 (mu_s _ _ _) rfl (by omega) (by omega) dX4_meet_126 ?_
          refine lv_if_eq (tgt := 134) hx hb dX4_meet_127 (by decide) (fun hc127 => ?_) (fun hc127 => ?_)
          · refine lv_iconst (v := nI 0) hx hb dX4_meet_134 (by decide) ?_
            refine mw_zast hx hb hK hP hS 2 (mu_s _ _ _) rfl (by decide) (by omega) (by omega) dX4_meet_135 (fun H locs hP hS => ?_)
            have hP : mw G.1 vwCl B (mu (mu (mu μ md (.inr (4, [.int (nI 0), .ref ab, .ref av, .int (nI st), .ref c1, .ref c2, .ref c3, .ref c4, .ref c5, .ref c6, .ref c7, .ref c8, .ref c9]))) ab (.inl (G.2 0, 3744, .inr (.inl g1)))) av (.inl (G.2 2, 26, .inl (upd v1 22 (nI 0))))) _ := mw_eq (mu_u _ _ _ _) hP
            refine lv_aload_n hx hb dX4_meet_136 rfl (lv_at hl 0 rfl) ?_
            refine lv_bipush (v := nI 22) hx hb dX4_meet_137 (by decide) ?_
            refine kc_v (va_runV (As := [.int (nI 22)]) (rest := []) ⟨hx, hb, hml, hown, hts⟩ (m_X4_close l G B (mu (mu (mu μ md (.inr (4, [.int (nI 0), .ref ab, .ref av, .int (nI st), .ref c1, .ref c2, .ref c3, .ref c4, .ref c5, .ref c6, .ref c7, .ref c8, .ref c9]))) ab (.inl (G.2 0, 3744, .inr (.inl g1)))) av (.inl (G.2 2, 26, .inl (upd v1 22 (nI 0))))) md ab av c1 c2 c3 c4 c5 c6 c7 c8 c9 0 st g1 (upd v1 22 (nI 0)) 22 ((mu_n ne0_2).trans ((mu_n ne0_1).trans (mu_s _ _ _))) ((mu_n ((mp_ne hab hav (by simp)))).trans (mu_s _ _ _)) (mu_s _ _ _) (by omega) (hs0.th hT (hM_s hs0 (by omega))) (VB.u hv1 (Or.inl rfl))) (cwV 1 hts gX4_meet_X4_close rfl rfl rfl (by decide +kernel) ⟨Nat.le_of_ble_eq_true rfl, Nat.le_of_ble_eq_true rfl⟩) ⟨KW.blind, hP.recv hK rfl ((mu_n ne0_2).trans ((mu_n ne0_1).trans (mu_s _ _ _))), fun U9 hU9 hW9 => ⟨rfl, KW.pre hBs hKK hS hP U9 hU9 hW9⟩⟩ rfl rfl hl.1 rfl (lv_room (Nat.le_of_ble_eq_true rfl)) dX4_meet_139 ⟨(Nat.le_of_ble_eq_true rfl), (Nat.le_of_ble_eq_true rfl)⟩) hS (fun m139 H locs hq9 hP hz9 hS => ?_)
            obtain ⟨g139, w139, he139, hsy139, hvb139⟩ := hq9
            rw [he139] at hP
            have hP : mw G.1 vwCl B (mu (mu (mu μ md (.inr (4, [.int (nI 0), .ref ab, .ref av, .int (nI st), .ref c1, .ref c2, .ref c3, .ref c4, .ref c5, .ref c6, .ref c7, .ref c8, .ref c9]))) ab (.inl (G.2 0, 3744, .inr (.inl g139)))) av (.inl (G.2 2, 26, .inl w139))) _ := mw_eq ((congrArg (fun z => mu z av (.inl (G.2 2, 26, .inl w139))) ((mu_c _ _ ((mp_ne hav hab (by simp)))).trans (congrArg (fun z => mu z av (.inl (G.2 2, 26, .inl (upd v1 22 (nI 0))))) (mu_u _ _ _ _)))).trans (mu_u _ _ _ _)) hP
            refine lv_aload_n hx hb dX4_meet_142 rfl (lv_at hl 0 rfl) ?_
            refine lv_iload_n hx hb dX4_meet_143 rfl (lv_at hl 1 rfl) ?_
            refine lv_bipush (v := nI 22) hx hb dX4_meet_144 (by decide) ?_
            refine kc_v (va_runV (As := [.int (nI n0), .int (nI 22)]) (rest := []) ⟨hx, hb, hml, hown, hts⟩ (c_X4_load l G B (mu (mu (mu μ md (.inr (4, [.int (nI 0), .ref ab, .ref av, .int (nI st), .ref c1, .ref c2, .ref c3, .ref c4, .ref c5, .ref c6, .ref c7, .ref c8, .ref c9]))) ab (.inl (G.2 0, 3744, .inr (.inl g139)))) av (.inl (G.2 2, 26, .inl w139))) md ab av c1 c2 c3 c4 c5 c6 c7 c8 c9 0 st g139 w139 n0 22 ((mu_n ne0_2).trans ((mu_n ne0_1).trans (mu_s _ _ _))) ((mu_n ((mp_ne hab hav (by simp)))).trans (mu_s _ _ _)) (mu_s _ _ _) (by omega) (by omega) (hvb139 22)) (cwV 2 hts gX4_meet_X4_load rfl rfl rfl (by decide +kernel) ⟨Nat.le_of_ble_eq_true rfl, Nat.le_of_ble_eq_true rfl⟩) ⟨KW.blind, hP.recv hK rfl ((mu_n ne0_2).trans ((mu_n ne0_1).trans (mu_s _ _ _))), fun U9 hU9 hW9 => ⟨rfl, KW.pre hBs hKK hS hP U9 hU9 hW9⟩⟩ rfl rfl hl.1 rfl (lv_room (Nat.le_of_ble_eq_true rfl)) dX4_meet_146 ⟨(Nat.le_of_ble_eq_true rfl), (Nat.le_of_ble_eq_true rfl)⟩) hS (fun m146 H locs hq9 hP hz9 hS => ?_)
            obtain ⟨g146, he146, hL146⟩ := hq9
            rw [he146] at hP
            have hP : mw G.1 vwCl B (mu (mu (mu μ md (.inr (4, [.int (nI 0), .ref ab, .ref av, .int (nI st), .ref c1, .ref c2, .ref c3, .ref c4, .ref c5, .ref c6, .ref c7, .ref c8, .ref c9]))) ab (.inl (G.2 0, 3744, .inr (.inl g146)))) av (.inl (G.2 2, 26, .inl (upd w139 n0 (w139 22))))) _ := mw_eq ((congrArg (fun z => mu z av (.inl (G.2 2, 26, .inl (upd w139 n0 (w139 22))))) ((mu_c _ _ ((mp_ne hav hab (by simp)))).trans (congrArg (fun z => mu z av (.inl (G.2 2, 26, .inl w139))) (mu_u _ _ _ _)))).trans (mu_u _ _ _ _)) hP
            refine lv_aload_n hx hb dX4_meet_149 rfl (lv_at hl 0 rfl) ?_
            refine mw_get (C := RX4) (T := TX4) (N := 13) hx hb hts in_X4_meet_X4 hown hK hP ((mu_n ne0_2).trans ((mu_n ne0_1).trans (mu_s _ _ _))) rfl 2 (by decide) (hts (.fieldLink RX4 13 "OctagonDeskModel" "isVoid" "[Z") (by decide +kernel)) (fun _ h9 => h9) rfl dX4_meet_150 ?_
            refine lv_iload_n hx hb dX4_meet_153 rfl (lv_at hl 1 rfl) ?_
            refine mw_zald hx hb hK hP 2 (mu_s _ _ _) rfl (by omega) (by omega) dX4_meet_154 ?_
            refine lv_if_ne (tgt := 162) hx hb dX4_meet_155 (by decide) (fun hc155 => ?_) (fun hc155 => ?_)
            · refine lv_iconst (v := nI 0) hx hb dX4_meet_162 (by decide) ?_
              rw [hQ]
              exact W.zret (v := nI 0) (ty := .boolean) hx hb hr (by first | rfl | decide) (fun t99 ht99 hW99 => ⟨⟨nI 0, mu (mu (mu μ md (.inr (4, [.int (nI 0), .ref ab, .ref av, .int (nI st), .ref c1, .ref c2, .ref c3, .ref c4, .ref c5, .ref c6, .ref c7, .ref c8, .ref c9]))) ab (.inl (G.2 0, 3744, .inr (.inl g146)))) av (.inl (G.2 2, 26, .inl (upd w139 n0 (w139 22)))), rfl, (⟨_, _, _, rfl, ⟨(hsy139.ld hL146 (by omega)), (VB.u hvb139 (hvb139 22))⟩⟩), by show mw _ _ _ _ t99.heap; rw [ht99]; exact hP⟩, hS.F ht99⟩) hS.2.2 dX4_meet_163
            · refine lv_iconst (v := nI 1) hx hb dX4_meet_158 (by decide) ?_
              refine lv_goto (tgt := 163) hx hb dX4_meet_159 (by decide) ?_
              rw [hQ]
              exact W.zret (v := nI 1) (ty := .boolean) hx hb hr (by first | rfl | decide) (fun t99 ht99 hW99 => ⟨⟨nI 1, mu (mu (mu μ md (.inr (4, [.int (nI 0), .ref ab, .ref av, .int (nI st), .ref c1, .ref c2, .ref c3, .ref c4, .ref c5, .ref c6, .ref c7, .ref c8, .ref c9]))) ab (.inl (G.2 0, 3744, .inr (.inl g146)))) av (.inl (G.2 2, 26, .inl (upd w139 n0 (w139 22)))), rfl, (⟨_, _, _, rfl, ⟨(hsy139.ld hL146 (by omega)), (VB.u hvb139 (hvb139 22))⟩⟩), by show mw _ _ _ _ t99.heap; rw [ht99]; exact hP⟩, hS.F ht99⟩) hS.2.2 dX4_meet_163
          · refine lv_iconst (v := nI 1) hx hb dX4_meet_130 (by decide) ?_
            refine lv_goto (tgt := 135) hx hb dX4_meet_131 (by decide) ?_
            refine mw_zast hx hb hK hP hS 2 (mu_s _ _ _) rfl (by decide) (by omega) (by omega) dX4_meet_135 (fun H locs hP hS => ?_)
            have hP : mw G.1 vwCl B (mu (mu (mu μ md (.inr (4, [.int (nI 0), .ref ab, .ref av, .int (nI st), .ref c1, .ref c2, .ref c3, .ref c4, .ref c5, .ref c6, .ref c7, .ref c8, .ref c9]))) ab (.inl (G.2 0, 3744, .inr (.inl g1)))) av (.inl (G.2 2, 26, .inl (upd v1 22 (nI 1))))) _ := mw_eq (mu_u _ _ _ _) hP
            refine lv_aload_n hx hb dX4_meet_136 rfl (lv_at hl 0 rfl) ?_
            refine lv_bipush (v := nI 22) hx hb dX4_meet_137 (by decide) ?_
            refine kc_v (va_runV (As := [.int (nI 22)]) (rest := []) ⟨hx, hb, hml, hown, hts⟩ (m_X4_close l G B (mu (mu (mu μ md (.inr (4, [.int (nI 0), .ref ab, .ref av, .int (nI st), .ref c1, .ref c2, .ref c3, .ref c4, .ref c5, .ref c6, .ref c7, .ref c8, .ref c9]))) ab (.inl (G.2 0, 3744, .inr (.inl g1)))) av (.inl (G.2 2, 26, .inl (upd v1 22 (nI 1))))) md ab av c1 c2 c3 c4 c5 c6 c7 c8 c9 0 st g1 (upd v1 22 (nI 1)) 22 ((mu_n ne0_2).trans ((mu_n ne0_1).trans (mu_s _ _ _))) ((mu_n ((mp_ne hab hav (by simp)))).trans (mu_s _ _ _)) (mu_s _ _ _) (by omega) (hs0.th hT (hM_s hs0 (by omega))) (VB.u hv1 (Or.inr rfl))) (cwV 1 hts gX4_meet_X4_close rfl rfl rfl (by decide +kernel) ⟨Nat.le_of_ble_eq_true rfl, Nat.le_of_ble_eq_true rfl⟩) ⟨KW.blind, hP.recv hK rfl ((mu_n ne0_2).trans ((mu_n ne0_1).trans (mu_s _ _ _))), fun U9 hU9 hW9 => ⟨rfl, KW.pre hBs hKK hS hP U9 hU9 hW9⟩⟩ rfl rfl hl.1 rfl (lv_room (Nat.le_of_ble_eq_true rfl)) dX4_meet_139 ⟨(Nat.le_of_ble_eq_true rfl), (Nat.le_of_ble_eq_true rfl)⟩) hS (fun m139 H locs hq9 hP hz9 hS => ?_)
            obtain ⟨g139, w139, he139, hsy139, hvb139⟩ := hq9
            rw [he139] at hP
            have hP : mw G.1 vwCl B (mu (mu (mu μ md (.inr (4, [.int (nI 0), .ref ab, .ref av, .int (nI st), .ref c1, .ref c2, .ref c3, .ref c4, .ref c5, .ref c6, .ref c7, .ref c8, .ref c9]))) ab (.inl (G.2 0, 3744, .inr (.inl g139)))) av (.inl (G.2 2, 26, .inl w139))) _ := mw_eq ((congrArg (fun z => mu z av (.inl (G.2 2, 26, .inl w139))) ((mu_c _ _ ((mp_ne hav hab (by simp)))).trans (congrArg (fun z => mu z av (.inl (G.2 2, 26, .inl (upd v1 22 (nI 1))))) (mu_u _ _ _ _)))).trans (mu_u _ _ _ _)) hP
            refine lv_aload_n hx hb dX4_meet_142 rfl (lv_at hl 0 rfl) ?_
            refine lv_iload_n hx hb dX4_meet_143 rfl (lv_at hl 1 rfl) ?_
            refine lv_bipush (v := nI 22) hx hb dX4_meet_144 (by decide) ?_
            refine kc_v (va_runV (As := [.int (nI n0), .int (nI 22)]) (rest := []) ⟨hx, hb, hml, hown, hts⟩ (c_X4_load l G B (mu (mu (mu μ md (.inr (4, [.int (nI 0), .ref ab, .ref av, .int (nI st), .ref c1, .ref c2, .ref c3, .ref c4, .ref c5, .ref c6, .ref c7, .ref c8, .ref c9]))) ab (.inl (G.2 0, 3744, .inr (.inl g139)))) av (.inl (G.2 2, 26, .inl w139))) md ab av c1 c2 c3 c4 c5 c6 c7 c8 c9 0 st g139 w139 n0 22 ((mu_n ne0_2).trans ((mu_n ne0_1).trans (mu_s _ _ _))) ((mu_n ((mp_ne hab hav (by simp)))).trans (mu_s _ _ _)) (mu_s _ _ _) (by omega) (by omega) (hvb139 22)) (cwV 2 hts gX4_meet_X4_load rfl rfl rfl (by decide +kernel) ⟨Nat.le_of_ble_eq_true rfl, Nat.le_of_ble_eq_true rfl⟩) ⟨KW.blind, hP.recv hK rfl ((mu_n ne0_2).trans ((mu_n ne0_1).trans (mu_s _ _ _))), fun U9 hU9 hW9 => ⟨rfl, KW.pre hBs hKK hS hP U9 hU9 hW9⟩⟩ rfl rfl hl.1 rfl (lv_room (Nat.le_of_ble_eq_true rfl)) dX4_meet_146 ⟨(Nat.le_of_ble_eq_true rfl), (Nat.le_of_ble_eq_true rfl)⟩) hS (fun m146 H locs hq9 hP hz9 hS => ?_)
            obtain ⟨g146, he146, hL146⟩ := hq9
            rw [he146] at hP
            have hP : mw G.1 vwCl B (mu (mu (mu μ md (.inr (4, [.int (nI 0), .ref ab, .ref av, .int (nI st), .ref c1, .ref c2, .ref c3, .ref c4, .ref c5, .ref c6, .ref c7, .ref c8, .ref c9]))) ab (.inl (G.2 0, 3744, .inr (.inl g146)))) av (.inl (G.2 2, 26, .inl (upd w139 n0 (w139 22))))) _ := mw_eq ((congrArg (fun z => mu z av (.inl (G.2 2, 26, .inl (upd w139 n0 (w139 22))))) ((mu_c _ _ ((mp_ne hav hab (by simp)))).trans (congrArg (fun z => mu z av (.inl (G.2 2, 26, .inl w139))) (mu_u _ _ _ _)))).trans (mu_u _ _ _ _)) hP
            refine lv_aload_n hx hb dX4_meet_149 rfl (lv_at hl 0 rfl) ?_
            refine mw_get (C := RX4) (T := TX4) (N := 13) hx hb hts in_X4_meet_X4 hown hK hP ((mu_n ne0_2).trans ((mu_n ne0_1).trans (mu_s _ _ _))) rfl 2 (by decide) (hts (.fieldLink RX4 13 "OctagonDeskModel" "isVoid" "[Z") (by decide +kernel)) (fun _ h9 => h9) rfl dX4_meet_150 ?_
            refine lv_iload_n hx hb dX4_meet_153 rfl (lv_at hl 1 rfl) ?_
            refine mw_zald hx hb hK hP 2 (mu_s _ _ _) rfl (by omega) (by omega) dX4_meet_154 ?_
            refine lv_if_ne (tgt := 162) hx hb dX4_meet_155 (by decide) (fun hc155 => ?_) (fun hc155 => ?_)
            · refine lv_iconst (v := nI 0) hx hb dX4_meet_162 (by decide) ?_
              rw [hQ]
              exact W.zret (v := nI 0) (ty := .boolean) hx hb hr (by first | rfl | decide) (fun t99 ht99 hW99 => ⟨⟨nI 0, mu (mu (mu μ md (.inr (4, [.int (nI 0), .ref ab, .ref av, .int (nI st), .ref c1, .ref c2, .ref c3, .ref c4, .ref c5, .ref c6, .ref c7, .ref c8, .ref c9]))) ab (.inl (G.2 0, 3744, .inr (.inl g146)))) av (.inl (G.2 2, 26, .inl (upd w139 n0 (w139 22)))), rfl, (⟨_, _, _, rfl, ⟨(hsy139.ld hL146 (by omega)), (VB.u hvb139 (hvb139 22))⟩⟩), by show mw _ _ _ _ t99.heap; rw [ht99]; exact hP⟩, hS.F ht99⟩) hS.2.2 dX4_meet_163
            · refine lv_iconst (v := nI 1) hx hb dX4_meet_158 (by decide) ?_
              refine lv_goto (tgt := 163) hx hb dX4_meet_159 (by decide) ?_
              rw [hQ]
              exact W.zret (v := nI 1) (ty := .boolean) hx hb hr (by first | rfl | decide) (fun t99 ht99 hW99 => ⟨⟨nI 1, mu (mu (mu μ md (.inr (4, [.int (nI 0), .ref ab, .ref av, .int (nI st), .ref c1, .ref c2, .ref c3, .ref c4, .ref c5, .ref c6, .ref c7, .ref c8, .ref c9]))) ab (.inl (G.2 0, 3744, .inr (.inl g146)))) av (.inl (G.2 2, 26, .inl (upd w139 n0 (w139 22)))), rfl, (⟨_, _, _, rfl, ⟨(hsy139.ld hL146 (by omega)), (VB.u hvb139 (hvb139 22))⟩⟩), by show mw _ _ _ _ t99.heap; rw [ht99]; exact hP⟩, hS.F ht99⟩) hS.2.2 dX4_meet_163
      · refine lv_aload_n hx hb dX4_meet_41 rfl (lv_at hl 0 rfl) ?_
        refine mw_get (C := RX4) (T := TX4) (N := 13) hx hb hts in_X4_meet_X4 hown hK hP ((mu_n ne0_2).trans ((mu_n ne0_1).trans (mu_s _ _ _))) rfl 1 (by decide) (hts (.fieldLink RX4 7 "OctagonDeskModel" "bound" "[J") (by decide +kernel)) (fun _ h9 => h9) rfl dX4_meet_42 ?_
        refine lv_sipush (v := nI 144) hx hb dX4_meet_45 (by decide) ?_
        refine lv_iload_n hx hb dX4_meet_48 rfl (lv_at hl 3 rfl) ?_
        refine nv_imul hx hb dX4_meet_49 ?_
        refine lv_iload hx hb dX4_meet_50 (lv_at hl 4 rfl) ?_
        refine nv_iadd hx hb dX4_meet_52 ?_
        refine mw_lald hx hb hK hP 0 ((mu_n ((mp_ne hab hav (by simp)))).trans (mu_s _ _ _)) rfl (by omega) (by omega) dX4_meet_53 ?_
        refine lv_topl (fun v54 ev54 => ?_)
        refine lv_lstore (lv' := [(5, .long v54), (0, .ref md), (1, .int (nI n0)), (2, .int (nI n1)), (3, .int (nI n2)), (4, .int (nI k1))]) hx hb dX4_meet_54 hl (by decide) rfl (fun ls hl => ?_)
        refine lv_aload_n hx hb dX4_meet_56 rfl (lv_at hl 1 rfl) ?_
        refine mw_get (C := RX4) (T := TX4) (N := 13) hx hb hts in_X4_meet_X4 hown hK hP ((mu_n ne0_2).trans ((mu_n ne0_1).trans (mu_s _ _ _))) rfl 1 (by decide) (hts (.fieldLink RX4 7 "OctagonDeskModel" "bound" "[J") (by decide +kernel)) (fun _ h9 => h9) rfl dX4_meet_57 ?_
        refine lv_sipush (v := nI 3168) hx hb dX4_meet_60 (by decide) ?_
        refine lv_iload hx hb dX4_meet_63 (lv_at hl 5 rfl) ?_
        refine nv_iadd hx hb dX4_meet_65 ?_
        refine lv_lload hx hb dX4_meet_66 (lv_at hl 0 rfl) ?_
        refine lv_aload_n hx hb dX4_meet_68 rfl (lv_at hl 1 rfl) ?_
        refine mw_get (C := RX4) (T := TX4) (N := 13) hx hb hts in_X4_meet_X4 hown hK hP ((mu_n ne0_2).trans ((mu_n ne0_1).trans (mu_s _ _ _))) rfl 1 (by decide) (hts (.fieldLink RX4 7 "OctagonDeskModel" "bound" "[J") (by decide +kernel)) (fun _ h9 => h9) rfl dX4_meet_69 ?_
        refine lv_sipush (v := nI 3168) hx hb dX4_meet_72 (by decide) ?_
        refine lv_iload hx hb dX4_meet_75 (lv_at hl 5 rfl) ?_
        refine nv_iadd hx hb dX4_meet_77 ?_
        refine mw_lald hx hb hK hP 0 ((mu_n ((mp_ne hab hav (by simp)))).trans (mu_s _ _ _)) rfl (by omega) (by omega) dX4_meet_78 ?_
        refine nl_if_ge (tgt := 88) hx hb dX4_meet_79 dX4_meet_80 (by decide) (fun hc79 => ?_) (fun hc79 => ?_)
        · refine lv_aload_n hx hb dX4_meet_88 rfl (lv_at hl 1 rfl) ?_
          refine mw_get (C := RX4) (T := TX4) (N := 13) hx hb hts in_X4_meet_X4 hown hK hP ((mu_n ne0_2).trans ((mu_n ne0_1).trans (mu_s _ _ _))) rfl 1 (by decide) (hts (.fieldLink RX4 7 "OctagonDeskModel" "bound" "[J") (by decide +kernel)) (fun _ h9 => h9) rfl dX4_meet_89 ?_
          refine lv_sipush (v := nI 3168) hx hb dX4_meet_92 (by decide) ?_
          refine lv_iload hx hb dX4_meet_95 (lv_at hl 5 rfl) ?_
          refine nv_iadd hx hb dX4_meet_97 ?_
          refine mw_lald hx hb hK hP 0 ((mu_n ((mp_ne hab hav (by simp)))).trans (mu_s _ _ _)) rfl (by omega) (by omega) dX4_meet_98 ?_
          refine lv_topl (fun v99 ev99 => ?_)
          refine mw_last hx hb hK hP hS 0 ((mu_n ((mp_ne hab hav (by simp)))).trans (mu_s _ _ _)) rfl (by omega) (by omega) dX4_meet_99 (fun H locs hP hS => ?_)
          have hP : mw G.1 vwCl B (mu (mu (mu μ md (.inr (4, [.int (nI 0), .ref ab, .ref av, .int (nI st), .ref c1, .ref c2, .ref c3, .ref c4, .ref c5, .ref c6, .ref c7, .ref c8, .ref c9]))) ab (.inl (G.2 0, 3744, .inr (.inl (vp_updL g1 (3168 + k1) v99))))) av (.inl (G.2 2, 26, .inl v1))) _ := mw_eq ((mu_c _ _ ((mp_ne hav hab (by simp)))).trans (congrArg (fun z => mu z av (.inl (G.2 2, 26, .inl v1))) (mu_u _ _ _ _))) hP
          refine lv_iinc (v := nI (k1 + 1)) (lv' := [(4, .int (nI (k1 + 1))), (5, .long v54), (0, .ref md), (1, .int (nI n0)), (2, .int (nI n1)), (3, .int (nI n2))]) hx hb dX4_meet_100 hl (k := 5) rfl (nI_add _ _) (by decide) rfl (fun ls hl => ?_)
          refine lv_goto (tgt := 33) hx hb dX4_meet_103 (by decide) ?_
          exact ih33 (k1 + 1) n0 n1 n2 g0 (vp_updL g1 (3168 + k1) v99) v1 (by omega) (by omega) (by omega) (by omega) (by omega) (hs0) (hv1) (hT.s (by first | exact (hT.mt (by omega) (by omega) ev54 rfl).1 (by first | exact hc79 | exact Int64.not_le.mp hc79) | (rw [ev99]; exact (hT.mt (by omega) (by omega) ev54 rfl).2 (by first | exact hc79 | exact Int64.not_lt.mpr hc79)))) _ _ hP hS ls (lv_sub hl [2, 3, 4, 5, 0] rfl)
        · refine lv_lload hx hb dX4_meet_83 (lv_at hl 0 rfl) ?_
          refine lv_goto (tgt := 99) hx hb dX4_meet_85 (by decide) ?_
          refine mw_last hx hb hK hP hS 0 ((mu_n ((mp_ne hab hav (by simp)))).trans (mu_s _ _ _)) rfl (by omega) (by omega) dX4_meet_99 (fun H locs hP hS => ?_)
          have hP : mw G.1 vwCl B (mu (mu (mu μ md (.inr (4, [.int (nI 0), .ref ab, .ref av, .int (nI st), .ref c1, .ref c2, .ref c3, .ref c4, .ref c5, .ref c6, .ref c7, .ref c8, .ref c9]))) ab (.inl (G.2 0, 3744, .inr (.inl (vp_updL g1 (3168 + k1) v54))))) av (.inl (G.2 2, 26, .inl v1))) _ := mw_eq ((mu_c _ _ ((mp_ne hav hab (by simp)))).trans (congrArg (fun z => mu z av (.inl (G.2 2, 26, .inl v1))) (mu_u _ _ _ _))) hP
          refine lv_iinc (v := nI (k1 + 1)) (lv' := [(4, .int (nI (k1 + 1))), (5, .long v54), (0, .ref md), (1, .int (nI n0)), (2, .int (nI n1)), (3, .int (nI n2))]) hx hb dX4_meet_100 hl (k := 5) rfl (nI_add _ _) (by decide) rfl (fun ls hl => ?_)
          refine lv_goto (tgt := 33) hx hb dX4_meet_103 (by decide) ?_
          exact ih33 (k1 + 1) n0 n1 n2 g0 (vp_updL g1 (3168 + k1) v54) v1 (by omega) (by omega) (by omega) (by omega) (by omega) (hs0) (hv1) (hT.s (by first | exact (hT.mt (by omega) (by omega) ev54 rfl).1 (by first | exact hc79 | exact Int64.not_le.mp hc79) | (rw [ev99]; exact (hT.mt (by omega) (by omega) ev54 rfl).2 (by first | exact hc79 | exact Int64.not_lt.mpr hc79)))) _ _ hP hS ls (lv_sub hl [2, 3, 4, 5, 0] rfl)
  have hl := lv_entry ([.ref md, .int x9, .int y9, .int z9]) (n := 7) (Nat.le_of_ble_eq_true rfl)
  have he9 : entryFrame m args 7 = entryFrame m ([.ref md, .int x9, .int y9, .int z9] : List Value).toArray 7 := by rw [hargs]
  rw [he9, lg_entry_eq]
  generalize (lg_sl ([.ref md, .int x9, .int y9, .int z9]) ++ List.replicate (7 - (lg_sl ([.ref md, .int x9, .int y9, .int z9])).length) Slot.unset).toArray = ls at hl ⊢
  have hl : lv_has ls 7 [(0, .ref md), (1, .int x9), (2, .int y9), (3, .int z9)] := hl
  refine lv_aload_n hx hb dX4_meet_0 rfl (lv_at hl 0 rfl) ?_
  refine lv_iload_n hx hb dX4_meet_1 rfl (lv_at hl 1 rfl) ?_
  refine lv_iload_n hx hb dX4_meet_2 rfl (lv_at hl 2 rfl) ?_
  refine lv_iload_n hx hb dX4_meet_3 rfl (lv_at hl 3 rfl) ?_
  refine kc_i (va_runS (As := [.int x9, .int y9, .int z9]) (rest := [.ref md]) ⟨hx, hb, hml, hown, hts⟩ (c_X4_areSlots l G B (mu (mu (mu μ md (.inr (4, [.int (nI fl), .ref ab, .ref av, .int (nI st), .ref c1, .ref c2, .ref c3, .ref c4, .ref c5, .ref c6, .ref c7, .ref c8, .ref c9]))) ab (.inl (G.2 0, 3744, .inr (.inl f)))) av (.inl (G.2 2, 26, .inl v))) x9 y9 z9) (va_cwS 3 hts gX4_meet_X4_areSlots rfl rfl rfl (by decide +kernel) ⟨Nat.le_of_ble_eq_true rfl, Nat.le_of_ble_eq_true rfl⟩) ⟨KW.blind, fun U9 hU9 hW9 => ⟨rfl, KW.pre hBs hKK hS hP U9 hU9 hW9⟩⟩ rfl rfl hl.1 rfl (lv_room (Nat.le_of_ble_eq_true rfl)) dX4_meet_4 ⟨(Nat.le_of_ble_eq_true rfl), (Nat.le_of_ble_eq_true rfl)⟩) hS (fun r4 m4 H locs hq9 hP hz9 hS => ?_)
  obtain ⟨he9, hy4⟩ := hq9
  rw [he9] at hP
  refine lv_if_eq (tgt := 14) hx hb dX4_meet_7 (by decide) (fun hc7 => ?_) (fun hc7 => ?_)
  · refine lv_iconst (v := nI 1) hx hb dX4_meet_14 (by decide) ?_
    refine kc_i (va_runV (As := [.int (nI 1)]) (rest := []) ⟨hx, hb, hml, hown, hts⟩ (c_X4_refused l G B (mu (mu (mu μ md (.inr (4, [.int (nI fl), .ref ab, .ref av, .int (nI st), .ref c1, .ref c2, .ref c3, .ref c4, .ref c5, .ref c6, .ref c7, .ref c8, .ref c9]))) ab (.inl (G.2 0, 3744, .inr (.inl f)))) av (.inl (G.2 2, 26, .inl v))) md ab av c1 c2 c3 c4 c5 c6 c7 c8 c9 fl st f v 1 ((mu_n ne0_2).trans ((mu_n ne0_1).trans (mu_s _ _ _))) ((mu_n ((mp_ne hab hav (by simp)))).trans (mu_s _ _ _)) (mu_s _ _ _) (by omega)) (cwV 1 hts gX4_meet_X4_refused rfl rfl rfl (by decide +kernel) ⟨Nat.le_of_ble_eq_true rfl, Nat.le_of_ble_eq_true rfl⟩) ⟨KW.blind, hP.recv hK rfl ((mu_n ne0_2).trans ((mu_n ne0_1).trans (mu_s _ _ _))), fun U9 hU9 hW9 => ⟨rfl, KW.pre hBs hKK hS hP U9 hU9 hW9⟩⟩ rfl rfl hl.1 rfl (lv_room (Nat.le_of_ble_eq_true rfl)) dX4_meet_15 ⟨(Nat.le_of_ble_eq_true rfl), (Nat.le_of_ble_eq_true rfl)⟩) hS (fun r15 m15 H locs hq9 hP hz9 hS => ?_)
    obtain ⟨he9, hw0, hw1⟩ := hq9
    rw [he9] at hP
    have hP : mw G.1 vwCl B (mu (mu (mu μ md (.inr (4, [.int (nI 1), .ref ab, .ref av, .int (nI st), .ref c1, .ref c2, .ref c3, .ref c4, .ref c5, .ref c6, .ref c7, .ref c8, .ref c9]))) ab (.inl (G.2 0, 3744, .inr (.inl f)))) av (.inl (G.2 2, 26, .inl v))) _ := mw_eq ((mu_c _ _ ((Ne.symm ne0_2))).trans (congrArg (fun z => mu z av (.inl (G.2 2, 26, .inl v))) ((mu_c _ _ ((Ne.symm ne0_1))).trans (congrArg (fun z => mu z ab (.inl (G.2 0, 3744, .inr (.inl f)))) (mu_u _ _ _ _))))) hP
    obtain rfl : r15 = nI 1 := hw1 (by decide)
    refine lv_if_eq (tgt := 23) hx hb dX4_meet_18 (by decide) (fun hc18 => ?_) (fun hc18 => ?_)
    · exact absurd hc18 (by decide)
    · refine lv_iconst (v := nI 0) hx hb dX4_meet_21 (by decide) ?_
      rw [hQ]
      exact W.zret (v := nI 0) (ty := .boolean) hx hb hr (by first | rfl | decide) (fun t99 ht99 hW99 => ⟨⟨nI 0, mu (mu (mu μ md (.inr (4, [.int (nI 1), .ref ab, .ref av, .int (nI st), .ref c1, .ref c2, .ref c3, .ref c4, .ref c5, .ref c6, .ref c7, .ref c8, .ref c9]))) ab (.inl (G.2 0, 3744, .inr (.inl f)))) av (.inl (G.2 2, 26, .inl v)), rfl, (⟨_, _, _, rfl, ⟨hsy, hvb⟩⟩), by show mw _ _ _ _ t99.heap; rw [ht99]; exact hP⟩, hS.F ht99⟩) hS.2.2 dX4_meet_22
  · refine lv_iconst (v := nI 0) hx hb dX4_meet_10 (by decide) ?_
    refine lv_goto (tgt := 15) hx hb dX4_meet_11 (by decide) ?_
    refine kc_i (va_runV (As := [.int (nI 0)]) (rest := []) ⟨hx, hb, hml, hown, hts⟩ (c_X4_refused l G B (mu (mu (mu μ md (.inr (4, [.int (nI fl), .ref ab, .ref av, .int (nI st), .ref c1, .ref c2, .ref c3, .ref c4, .ref c5, .ref c6, .ref c7, .ref c8, .ref c9]))) ab (.inl (G.2 0, 3744, .inr (.inl f)))) av (.inl (G.2 2, 26, .inl v))) md ab av c1 c2 c3 c4 c5 c6 c7 c8 c9 fl st f v 0 ((mu_n ne0_2).trans ((mu_n ne0_1).trans (mu_s _ _ _))) ((mu_n ((mp_ne hab hav (by simp)))).trans (mu_s _ _ _)) (mu_s _ _ _) (by omega)) (cwV 1 hts gX4_meet_X4_refused rfl rfl rfl (by decide +kernel) ⟨Nat.le_of_ble_eq_true rfl, Nat.le_of_ble_eq_true rfl⟩) ⟨KW.blind, hP.recv hK rfl ((mu_n ne0_2).trans ((mu_n ne0_1).trans (mu_s _ _ _))), fun U9 hU9 hW9 => ⟨rfl, KW.pre hBs hKK hS hP U9 hU9 hW9⟩⟩ rfl rfl hl.1 rfl (lv_room (Nat.le_of_ble_eq_true rfl)) dX4_meet_15 ⟨(Nat.le_of_ble_eq_true rfl), (Nat.le_of_ble_eq_true rfl)⟩) hS (fun r15 m15 H locs hq9 hP hz9 hS => ?_)
    obtain ⟨he9, hw0, hw1⟩ := hq9
    rw [he9] at hP
    have hP : mw G.1 vwCl B (mu (mu (mu μ md (.inr (4, [.int (nI 0), .ref ab, .ref av, .int (nI st), .ref c1, .ref c2, .ref c3, .ref c4, .ref c5, .ref c6, .ref c7, .ref c8, .ref c9]))) ab (.inl (G.2 0, 3744, .inr (.inl f)))) av (.inl (G.2 2, 26, .inl v))) _ := mw_eq ((mu_c _ _ ((Ne.symm ne0_2))).trans (congrArg (fun z => mu z av (.inl (G.2 2, 26, .inl v))) ((mu_c _ _ ((Ne.symm ne0_1))).trans (congrArg (fun z => mu z ab (.inl (G.2 0, 3744, .inr (.inl f)))) (mu_u _ _ _ _))))) hP
    obtain rfl : r15 = nI 0 := hw0 rfl
    refine lv_if_eq (tgt := 23) hx hb dX4_meet_18 (by decide) (fun hc18 => ?_) (fun hc18 => ?_)
    · have hok : okS x9 ∧ okS y9 ∧ okS z9 := yn_t hy4 hc7
      obtain ⟨nx9, hnx9, enx9⟩ := ok_nat (n := 6) (by decide) hok.1
      subst enx9
      obtain ⟨ny9, hny9, eny9⟩ := ok_nat (n := 6) (by decide) hok.2.1
      subst eny9
      obtain ⟨nz9, hnz9, enz9⟩ := ok_nat (n := 6) (by decide) hok.2.2
      subst enz9
      refine lv_aload_n hx hb dX4_meet_23 rfl (lv_at hl 0 rfl) ?_
      refine lv_bipush (v := nI 22) hx hb dX4_meet_24 (by decide) ?_
      refine lv_iload_n hx hb dX4_meet_26 rfl (lv_at hl 2 rfl) ?_
      refine kc_v (va_runV (As := [.int (nI 22), .int (nI ny9)]) (rest := []) ⟨hx, hb, hml, hown, hts⟩ (c_X4_load l G B (mu (mu (mu μ md (.inr (4, [.int (nI 0), .ref ab, .ref av, .int (nI st), .ref c1, .ref c2, .ref c3, .ref c4, .ref c5, .ref c6, .ref c7, .ref c8, .ref c9]))) ab (.inl (G.2 0, 3744, .inr (.inl f)))) av (.inl (G.2 2, 26, .inl v))) md ab av c1 c2 c3 c4 c5 c6 c7 c8 c9 0 st f v 22 ny9 ((mu_n ne0_2).trans ((mu_n ne0_1).trans (mu_s _ _ _))) ((mu_n ((mp_ne hab hav (by simp)))).trans (mu_s _ _ _)) (mu_s _ _ _) (by omega) (by omega) (hvb ny9)) (cwV 2 hts gX4_meet_X4_load rfl rfl rfl (by decide +kernel) ⟨Nat.le_of_ble_eq_true rfl, Nat.le_of_ble_eq_true rfl⟩) ⟨KW.blind, hP.recv hK rfl ((mu_n ne0_2).trans ((mu_n ne0_1).trans (mu_s _ _ _))), fun U9 hU9 hW9 => ⟨rfl, KW.pre hBs hKK hS hP U9 hU9 hW9⟩⟩ rfl rfl hl.1 rfl (lv_room (Nat.le_of_ble_eq_true rfl)) dX4_meet_27 ⟨(Nat.le_of_ble_eq_true rfl), (Nat.le_of_ble_eq_true rfl)⟩) hS (fun m27 H locs hq9 hP hz9 hS => ?_)
      obtain ⟨g27, he27, hL27⟩ := hq9
      rw [he27] at hP
      have hP : mw G.1 vwCl B (mu (mu (mu μ md (.inr (4, [.int (nI 0), .ref ab, .ref av, .int (nI st), .ref c1, .ref c2, .ref c3, .ref c4, .ref c5, .ref c6, .ref c7, .ref c8, .ref c9]))) ab (.inl (G.2 0, 3744, .inr (.inl g27)))) av (.inl (G.2 2, 26, .inl (upd v 22 (v ny9))))) _ := mw_eq ((congrArg (fun z => mu z av (.inl (G.2 2, 26, .inl (upd v 22 (v ny9))))) ((mu_c _ _ ((mp_ne hav hab (by simp)))).trans (congrArg (fun z => mu z av (.inl (G.2 2, 26, .inl v))) (mu_u _ _ _ _)))).trans (mu_u _ _ _ _)) hP
      refine lv_iconst (v := nI 0) hx hb dX4_meet_30 (by decide) ?_
      refine lv_istore (lv' := [(4, .int (nI 0)), (0, .ref md), (1, .int (nI nx9)), (2, .int (nI ny9)), (3, .int (nI nz9))]) hx hb dX4_meet_31 hl (by decide) rfl (fun ls hl => ?_)
      exact L33 _ 0 nx9 ny9 nz9 g27 g27 (upd v 22 (v ny9)) (Nat.lt_succ_self _) (by omega) (by omega) (by omega) (by omega) ((hsy.ld hL27 (by omega))) ((VB.u hvb (hvb ny9))) (Th.z _ _ _) _ _ hP hS ls (lv_sub hl [1, 2, 3, 4, 0] rfl)
    · exact absurd rfl hc18

abbrev rn_X4_act : Room := { frames := 4, cells := 0, slots := 0, locals := 104 }
set_option maxHeartbeats 4000000 in
set_option maxRecDepth 100000 in
theorem m_X4_act (l : Launch) (G : GG) (B : Nat) (μ : mp) (md ab av c1 c2 c3 c4 c5 c6 c7 c8 c9 fl st : Nat) (f : Nat → Int64) (v : Nat → Int32) (x9 k9 a9 b9 y9 : Int32) (hm : μ md = some (.inr (4, [.int (nI fl), .ref ab, .ref av, .int (nI st), .ref c1, .ref c2, .ref c3, .ref c4, .ref c5, .ref c6, .ref c7, .ref c8, .ref c9]))) (hab : μ ab = some (.inl (G.2 0, 3744, .inr (.inl f)))) (hav : μ av = some (.inl (G.2 2, 26, .inl v))) (hsy : Sym f) (hvb : VB v) : Met l yX4_act wsX4_act rn_X4_act (va_Pc [.ref md, .int x9, .int k9, .int a9, .int b9, .int y9] (KW G B μ)) (va_Qi (fun r μ2 => ∃ (fl9 : Nat) (g9 : Nat → Int64) (w9 : Nat → Int32), μ2 = mu (mu (mu μ md (.inr (4, [.int (nI fl9), .ref ab, .ref av, .int (nI st), .ref c1, .ref c2, .ref c3, .ref c4, .ref c5, .ref c6, .ref c7, .ref c8, .ref c9]))) ab (.inl (G.2 0, 3744, .inr (.inl g9)))) av (.inl (G.2 2, 26, .inl w9)) ∧ (Sym g9 ∧ VB w9)) (BB G B) (fun q => B ≤ q)) 0 0 (fun q => B ≤ q) := by
  refine Met.ofW (cc := cX4_act) (maxL := 6) (ret := (some .boolean)) (by decide) rfl ?_
  intro p e s m args below meth c s₁ B9 hml hv
  obtain ⟨hargs, hBs, hP, hKK⟩ := hv
  have hx := B9.exec
  have hb := B9.bytes
  have hr := B9.returns
  have hts := atoms_spec (ws := wsX4_act) B9.pre
  have hown : s.vm.findClass RX4 = some m.cls := findClass_of_methodNamed B9.named
  have hlocks := B9.notSynchronized
  have hK := hKK.k
  have hS : va_S (fun q => B ≤ q) s.heap s.heap [] := va_S.rf
  obtain ⟨Q, hQ⟩ : ∃ Q, Q = MQ below (va_Qi (fun r μ2 => ∃ (fl9 : Nat) (g9 : Nat → Int64) (w9 : Nat → Int32), μ2 = mu (mu (mu μ md (.inr (4, [.int (nI fl9), .ref ab, .ref av, .int (nI st), .ref c1, .ref c2, .ref c3, .ref c4, .ref c5, .ref c6, .ref c7, .ref c8, .ref c9]))) ab (.inl (G.2 0, 3744, .inr (.inl g9)))) av (.inl (G.2 2, 26, .inl w9)) ∧ (Sym g9 ∧ VB w9)) (BB G B) (fun q => B ≤ q)) args s 0 0 (fun q => B ≤ q) := ⟨_, rfl⟩
  rw [← hQ]
  have ne0_1 : md ≠ ab := mp_ne hm hab (by simp)
  have ne0_2 : md ≠ av := mp_ne hm hav (by simp)
  have in_X4_act_X4 : ∀ w ∈ wsX40, w ∈ wsX4_act := by decide +kernel
  have hP : mw G.1 vwCl B (mu (mu (mu μ md (.inr (4, [.int (nI fl), .ref ab, .ref av, .int (nI st), .ref c1, .ref c2, .ref c3, .ref c4, .ref c5, .ref c6, .ref c7, .ref c8, .ref c9]))) ab (.inl (G.2 0, 3744, .inr (.inl f)))) av (.inl (G.2 2, 26, .inl v))) s.heap := mw_eq ((congrArg (fun z => mu z av (.inl (G.2 2, 26, .inl v))) ((congrArg (fun z => mu z ab (.inl (G.2 0, 3744, .inr (.inl f)))) (mu_i hm)).trans (mu_i hab))).trans (mu_i hav)).symm hP
  have hl := lv_entry ([.ref md, .int x9, .int k9, .int a9, .int b9, .int y9]) (n := 6) (Nat.le_of_ble_eq_true rfl)
  have he9 : entryFrame m args 6 = entryFrame m ([.ref md, .int x9, .int k9, .int a9, .int b9, .int y9] : List Value).toArray 6 := by rw [hargs]
  rw [he9, lg_entry_eq]
  generalize (lg_sl ([.ref md, .int x9, .int k9, .int a9, .int b9, .int y9]) ++ List.replicate (6 - (lg_sl ([.ref md, .int x9, .int k9, .int a9, .int b9, .int y9])).length) Slot.unset).toArray = ls at hl ⊢
  have hl : lv_has ls 6 [(0, .ref md), (1, .int x9), (2, .int k9), (3, .int a9), (4, .int b9), (5, .int y9)] := hl
  refine lv_aload_n hx hb dX4_act_0 rfl (lv_at hl 0 rfl) ?_
  refine lv_iload_n hx hb dX4_act_1 rfl (lv_at hl 1 rfl) ?_
  refine kc_i (va_runS (As := [.int x9]) (rest := [.ref md]) ⟨hx, hb, hml, hown, hts⟩ (c_X4_isSlot l G B (mu (mu (mu μ md (.inr (4, [.int (nI fl), .ref ab, .ref av, .int (nI st), .ref c1, .ref c2, .ref c3, .ref c4, .ref c5, .ref c6, .ref c7, .ref c8, .ref c9]))) ab (.inl (G.2 0, 3744, .inr (.inl f)))) av (.inl (G.2 2, 26, .inl v))) x9) (va_cwS 1 hts gX4_act_X4_isSlot rfl rfl rfl (by decide +kernel) ⟨Nat.le_of_ble_eq_true rfl, Nat.le_of_ble_eq_true rfl⟩) ⟨KW.blind, fun U9 hU9 hW9 => ⟨rfl, KW.pre hBs hKK hS hP U9 hU9 hW9⟩⟩ rfl rfl hl.1 rfl (lv_room (Nat.le_of_ble_eq_true rfl)) dX4_act_2 ⟨(Nat.le_of_ble_eq_true rfl), (Nat.le_of_ble_eq_true rfl)⟩) hS (fun r2 m2 H locs hq9 hP hz9 hS => ?_)
  obtain ⟨he9, hy2⟩ := hq9
  rw [he9] at hP
  refine lv_if_eq (tgt := 24) hx hb dX4_act_5 (by decide) (fun hc5 => ?_) (fun hc5 => ?_)
  · refine lv_iconst (v := nI 1) hx hb dX4_act_24 (by decide) ?_
    refine kc_i (va_runV (As := [.int (nI 1)]) (rest := []) ⟨hx, hb, hml, hown, hts⟩ (c_X4_refused l G B (mu (mu (mu μ md (.inr (4, [.int (nI fl), .ref ab, .ref av, .int (nI st), .ref c1, .ref c2, .ref c3, .ref c4, .ref c5, .ref c6, .ref c7, .ref c8, .ref c9]))) ab (.inl (G.2 0, 3744, .inr (.inl f)))) av (.inl (G.2 2, 26, .inl v))) md ab av c1 c2 c3 c4 c5 c6 c7 c8 c9 fl st f v 1 ((mu_n ne0_2).trans ((mu_n ne0_1).trans (mu_s _ _ _))) ((mu_n ((mp_ne hab hav (by simp)))).trans (mu_s _ _ _)) (mu_s _ _ _) (by omega)) (cwV 1 hts gX4_act_X4_refused rfl rfl rfl (by decide +kernel) ⟨Nat.le_of_ble_eq_true rfl, Nat.le_of_ble_eq_true rfl⟩) ⟨KW.blind, hP.recv hK rfl ((mu_n ne0_2).trans ((mu_n ne0_1).trans (mu_s _ _ _))), fun U9 hU9 hW9 => ⟨rfl, KW.pre hBs hKK hS hP U9 hU9 hW9⟩⟩ rfl rfl hl.1 rfl (lv_room (Nat.le_of_ble_eq_true rfl)) dX4_act_25 ⟨(Nat.le_of_ble_eq_true rfl), (Nat.le_of_ble_eq_true rfl)⟩) hS (fun r25 m25 H locs hq9 hP hz9 hS => ?_)
    obtain ⟨he9, hw0, hw1⟩ := hq9
    rw [he9] at hP
    have hP : mw G.1 vwCl B (mu (mu (mu μ md (.inr (4, [.int (nI 1), .ref ab, .ref av, .int (nI st), .ref c1, .ref c2, .ref c3, .ref c4, .ref c5, .ref c6, .ref c7, .ref c8, .ref c9]))) ab (.inl (G.2 0, 3744, .inr (.inl f)))) av (.inl (G.2 2, 26, .inl v))) _ := mw_eq ((mu_c _ _ ((Ne.symm ne0_2))).trans (congrArg (fun z => mu z av (.inl (G.2 2, 26, .inl v))) ((mu_c _ _ ((Ne.symm ne0_1))).trans (congrArg (fun z => mu z ab (.inl (G.2 0, 3744, .inr (.inl f)))) (mu_u _ _ _ _))))) hP
    obtain rfl : r25 = nI 1 := hw1 (by decide)
    refine lv_if_eq (tgt := 33) hx hb dX4_act_28 (by decide) (fun hc28 => ?_) (fun hc28 => ?_)
    · exact absurd hc28 (by decide)
    · refine lv_iconst (v := nI 0) hx hb dX4_act_31 (by decide) ?_
      rw [hQ]
      exact W.zret (v := nI 0) (ty := .boolean) hx hb hr (by first | rfl | decide) (fun t99 ht99 hW99 => ⟨⟨nI 0, mu (mu (mu μ md (.inr (4, [.int (nI 1), .ref ab, .ref av, .int (nI st), .ref c1, .ref c2, .ref c3, .ref c4, .ref c5, .ref c6, .ref c7, .ref c8, .ref c9]))) ab (.inl (G.2 0, 3744, .inr (.inl f)))) av (.inl (G.2 2, 26, .inl v)), rfl, (⟨_, _, _, rfl, ⟨hsy, hvb⟩⟩), by show mw _ _ _ _ t99.heap; rw [ht99]; exact hP⟩, hS.F ht99⟩) hS.2.2 dX4_act_32
  · refine lv_iload_n hx hb dX4_act_8 rfl (lv_at hl 2 rfl) ?_
    refine lv_iload_n hx hb dX4_act_9 rfl (lv_at hl 3 rfl) ?_
    refine lv_iload hx hb dX4_act_10 (lv_at hl 4 rfl) ?_
    refine lv_iload hx hb dX4_act_12 (lv_at hl 5 rfl) ?_
    refine kc_i (va_runS (As := [.int k9, .int a9, .int b9, .int y9]) (rest := [.ref md]) ⟨hx, hb, hml, hown, hts⟩ (c_X4_isAction l G B (mu (mu (mu μ md (.inr (4, [.int (nI fl), .ref ab, .ref av, .int (nI st), .ref c1, .ref c2, .ref c3, .ref c4, .ref c5, .ref c6, .ref c7, .ref c8, .ref c9]))) ab (.inl (G.2 0, 3744, .inr (.inl f)))) av (.inl (G.2 2, 26, .inl v))) k9 a9 b9 y9) (va_cwS 4 hts gX4_act_X4_isAction rfl rfl rfl (by decide +kernel) ⟨Nat.le_of_ble_eq_true rfl, Nat.le_of_ble_eq_true rfl⟩) ⟨KW.blind, fun U9 hU9 hW9 => ⟨rfl, KW.pre hBs hKK hS hP U9 hU9 hW9⟩⟩ rfl rfl hl.1 rfl (lv_room (Nat.le_of_ble_eq_true rfl)) dX4_act_14 ⟨(Nat.le_of_ble_eq_true rfl), (Nat.le_of_ble_eq_true rfl)⟩) hS (fun r14 m14 H locs hq9 hP hz9 hS => ?_)
    obtain ⟨he9, hy14⟩ := hq9
    rw [he9] at hP
    refine lv_if_eq (tgt := 24) hx hb dX4_act_17 (by decide) (fun hc17 => ?_) (fun hc17 => ?_)
    · refine lv_iconst (v := nI 1) hx hb dX4_act_24 (by decide) ?_
      refine kc_i (va_runV (As := [.int (nI 1)]) (rest := []) ⟨hx, hb, hml, hown, hts⟩ (c_X4_refused l G B (mu (mu (mu μ md (.inr (4, [.int (nI fl), .ref ab, .ref av, .int (nI st), .ref c1, .ref c2, .ref c3, .ref c4, .ref c5, .ref c6, .ref c7, .ref c8, .ref c9]))) ab (.inl (G.2 0, 3744, .inr (.inl f)))) av (.inl (G.2 2, 26, .inl v))) md ab av c1 c2 c3 c4 c5 c6 c7 c8 c9 fl st f v 1 ((mu_n ne0_2).trans ((mu_n ne0_1).trans (mu_s _ _ _))) ((mu_n ((mp_ne hab hav (by simp)))).trans (mu_s _ _ _)) (mu_s _ _ _) (by omega)) (cwV 1 hts gX4_act_X4_refused rfl rfl rfl (by decide +kernel) ⟨Nat.le_of_ble_eq_true rfl, Nat.le_of_ble_eq_true rfl⟩) ⟨KW.blind, hP.recv hK rfl ((mu_n ne0_2).trans ((mu_n ne0_1).trans (mu_s _ _ _))), fun U9 hU9 hW9 => ⟨rfl, KW.pre hBs hKK hS hP U9 hU9 hW9⟩⟩ rfl rfl hl.1 rfl (lv_room (Nat.le_of_ble_eq_true rfl)) dX4_act_25 ⟨(Nat.le_of_ble_eq_true rfl), (Nat.le_of_ble_eq_true rfl)⟩) hS (fun r25 m25 H locs hq9 hP hz9 hS => ?_)
      obtain ⟨he9, hw0, hw1⟩ := hq9
      rw [he9] at hP
      have hP : mw G.1 vwCl B (mu (mu (mu μ md (.inr (4, [.int (nI 1), .ref ab, .ref av, .int (nI st), .ref c1, .ref c2, .ref c3, .ref c4, .ref c5, .ref c6, .ref c7, .ref c8, .ref c9]))) ab (.inl (G.2 0, 3744, .inr (.inl f)))) av (.inl (G.2 2, 26, .inl v))) _ := mw_eq ((mu_c _ _ ((Ne.symm ne0_2))).trans (congrArg (fun z => mu z av (.inl (G.2 2, 26, .inl v))) ((mu_c _ _ ((Ne.symm ne0_1))).trans (congrArg (fun z => mu z ab (.inl (G.2 0, 3744, .inr (.inl f)))) (mu_u _ _ _ _))))) hP
      obtain rfl : r25 = nI 1 := hw1 (by decide)
      refine lv_if_eq (tgt := 33) hx hb dX4_act_28 (by decide) (fun hc28 => ?_) (fun hc28 => ?_)
      · exact absurd hc28 (by decide)
      · refine lv_iconst (v := nI 0) hx hb dX4_act_31 (by decide) ?_
        rw [hQ]
        exact W.zret (v := nI 0) (ty := .boolean) hx hb hr (by first | rfl | decide) (fun t99 ht99 hW99 => ⟨⟨nI 0, mu (mu (mu μ md (.inr (4, [.int (nI 1), .ref ab, .ref av, .int (nI st), .ref c1, .ref c2, .ref c3, .ref c4, .ref c5, .ref c6, .ref c7, .ref c8, .ref c9]))) ab (.inl (G.2 0, 3744, .inr (.inl f)))) av (.inl (G.2 2, 26, .inl v)), rfl, (⟨_, _, _, rfl, ⟨hsy, hvb⟩⟩), by show mw _ _ _ _ t99.heap; rw [ht99]; exact hP⟩, hS.F ht99⟩) hS.2.2 dX4_act_32
    · refine lv_iconst (v := nI 0) hx hb dX4_act_20 (by decide) ?_
      refine lv_goto (tgt := 25) hx hb dX4_act_21 (by decide) ?_
      refine kc_i (va_runV (As := [.int (nI 0)]) (rest := []) ⟨hx, hb, hml, hown, hts⟩ (c_X4_refused l G B (mu (mu (mu μ md (.inr (4, [.int (nI fl), .ref ab, .ref av, .int (nI st), .ref c1, .ref c2, .ref c3, .ref c4, .ref c5, .ref c6, .ref c7, .ref c8, .ref c9]))) ab (.inl (G.2 0, 3744, .inr (.inl f)))) av (.inl (G.2 2, 26, .inl v))) md ab av c1 c2 c3 c4 c5 c6 c7 c8 c9 fl st f v 0 ((mu_n ne0_2).trans ((mu_n ne0_1).trans (mu_s _ _ _))) ((mu_n ((mp_ne hab hav (by simp)))).trans (mu_s _ _ _)) (mu_s _ _ _) (by omega)) (cwV 1 hts gX4_act_X4_refused rfl rfl rfl (by decide +kernel) ⟨Nat.le_of_ble_eq_true rfl, Nat.le_of_ble_eq_true rfl⟩) ⟨KW.blind, hP.recv hK rfl ((mu_n ne0_2).trans ((mu_n ne0_1).trans (mu_s _ _ _))), fun U9 hU9 hW9 => ⟨rfl, KW.pre hBs hKK hS hP U9 hU9 hW9⟩⟩ rfl rfl hl.1 rfl (lv_room (Nat.le_of_ble_eq_true rfl)) dX4_act_25 ⟨(Nat.le_of_ble_eq_true rfl), (Nat.le_of_ble_eq_true rfl)⟩) hS (fun r25 m25 H locs hq9 hP hz9 hS => ?_)
      obtain ⟨he9, hw0, hw1⟩ := hq9
      rw [he9] at hP
      have hP : mw G.1 vwCl B (mu (mu (mu μ md (.inr (4, [.int (nI 0), .ref ab, .ref av, .int (nI st), .ref c1, .ref c2, .ref c3, .ref c4, .ref c5, .ref c6, .ref c7, .ref c8, .ref c9]))) ab (.inl (G.2 0, 3744, .inr (.inl f)))) av (.inl (G.2 2, 26, .inl v))) _ := mw_eq ((mu_c _ _ ((Ne.symm ne0_2))).trans (congrArg (fun z => mu z av (.inl (G.2 2, 26, .inl v))) ((mu_c _ _ ((Ne.symm ne0_1))).trans (congrArg (fun z => mu z ab (.inl (G.2 0, 3744, .inr (.inl f)))) (mu_u _ _ _ _))))) hP
      obtain rfl : r25 = nI 0 := hw0 rfl
      refine lv_if_eq (tgt := 33) hx hb dX4_act_28 (by decide) (fun hc28 => ?_) (fun hc28 => ?_)
      · have hok : okS x9 ∧ okA k9 a9 b9 y9 := ⟨yn_t hy2 hc5, yn_t hy14 hc17⟩
        obtain ⟨nx9, hnx9, enx9⟩ := ok_nat (n := 6) (by decide) hok.1
        subst enx9
        rcases hok.2.2 with ⟨ek9, hp1, hp2, hp3⟩ | ⟨ek9, hp1, hp2⟩ | ⟨ek9, hp1, hp2, hp3⟩
        · replace ek9 : k9 = nI 0 := ek9.trans (by decide)
          subst ek9
          obtain ⟨na9, hna9, ena9⟩ := ok_nat (n := 12) (by decide) hp1
          subst ena9
          obtain ⟨nb9, hnb9, enb9⟩ := ok_nat (n := 12) (by decide) hp2
          subst enb9
          refine lv_aload_n hx hb dX4_act_33 rfl (lv_at hl 0 rfl) ?_
          refine lv_iload_n hx hb dX4_act_34 rfl (lv_at hl 1 rfl) ?_
          refine lv_iload_n hx hb dX4_act_35 rfl (lv_at hl 2 rfl) ?_
          refine lv_iload_n hx hb dX4_act_36 rfl (lv_at hl 3 rfl) ?_
          refine lv_iload hx hb dX4_act_37 (lv_at hl 4 rfl) ?_
          refine lv_iload hx hb dX4_act_39 (lv_at hl 5 rfl) ?_
          refine kc_v (va_runV (As := [.int (nI nx9), .int (nI 0), .int (nI na9), .int (nI nb9), .int y9]) (rest := []) ⟨hx, hb, hml, hown, hts⟩ (m_X4_make_0 l G B (mu (mu (mu μ md (.inr (4, [.int (nI 0), .ref ab, .ref av, .int (nI st), .ref c1, .ref c2, .ref c3, .ref c4, .ref c5, .ref c6, .ref c7, .ref c8, .ref c9]))) ab (.inl (G.2 0, 3744, .inr (.inl f)))) av (.inl (G.2 2, 26, .inl v))) md ab av c1 c2 c3 c4 c5 c6 c7 c8 c9 0 st f v nx9 na9 nb9 y9 ((mu_n ne0_2).trans ((mu_n ne0_1).trans (mu_s _ _ _))) ((mu_n ((mp_ne hab hav (by simp)))).trans (mu_s _ _ _)) (mu_s _ _ _) (by omega) (by omega) (by omega) hsy hvb) (cwV 5 hts gX4_act_X4_make rfl rfl rfl (by decide +kernel) ⟨Nat.le_of_ble_eq_true rfl, Nat.le_of_ble_eq_true rfl⟩) ⟨KW.blind, hP.recv hK rfl ((mu_n ne0_2).trans ((mu_n ne0_1).trans (mu_s _ _ _))), fun U9 hU9 hW9 => ⟨rfl, KW.pre hBs hKK hS hP U9 hU9 hW9⟩⟩ rfl rfl hl.1 rfl (lv_room (Nat.le_of_ble_eq_true rfl)) dX4_act_41 ⟨(Nat.le_of_ble_eq_true rfl), (Nat.le_of_ble_eq_true rfl)⟩) hS (fun m41 H locs hq9 hP hz9 hS => ?_)
          obtain ⟨g41, w41, he41, hsy41, hvb41⟩ := hq9
          rw [he41] at hP
          have hP : mw G.1 vwCl B (mu (mu (mu μ md (.inr (4, [.int (nI 0), .ref ab, .ref av, .int (nI st), .ref c1, .ref c2, .ref c3, .ref c4, .ref c5, .ref c6, .ref c7, .ref c8, .ref c9]))) ab (.inl (G.2 0, 3744, .inr (.inl g41)))) av (.inl (G.2 2, 26, .inl w41))) _ := mw_eq ((congrArg (fun z => mu z av (.inl (G.2 2, 26, .inl w41))) ((mu_c _ _ ((mp_ne hav hab (by simp)))).trans (congrArg (fun z => mu z av (.inl (G.2 2, 26, .inl v))) (mu_u _ _ _ _)))).trans (mu_u _ _ _ _)) hP
          refine lv_aload_n hx hb dX4_act_44 rfl (lv_at hl 0 rfl) ?_
          refine mw_get (C := RX4) (T := TX4) (N := 13) hx hb hts in_X4_act_X4 hown hK hP ((mu_n ne0_2).trans ((mu_n ne0_1).trans (mu_s _ _ _))) rfl 2 (by decide) (hts (.fieldLink RX4 13 "OctagonDeskModel" "isVoid" "[Z") (by decide +kernel)) (fun _ h9 => h9) rfl dX4_act_45 ?_
          refine lv_iload_n hx hb dX4_act_48 rfl (lv_at hl 1 rfl) ?_
          refine mw_zald hx hb hK hP 2 (mu_s _ _ _) rfl (by omega) (by omega) dX4_act_49 ?_
          refine lv_if_ne (tgt := 57) hx hb dX4_act_50 (by decide) (fun hc50 => ?_) (fun hc50 => ?_)
          · refine lv_iconst (v := nI 0) hx hb dX4_act_57 (by decide) ?_
            rw [hQ]
            exact W.zret (v := nI 0) (ty := .boolean) hx hb hr (by first | rfl | decide) (fun t99 ht99 hW99 => ⟨⟨nI 0, mu (mu (mu μ md (.inr (4, [.int (nI 0), .ref ab, .ref av, .int (nI st), .ref c1, .ref c2, .ref c3, .ref c4, .ref c5, .ref c6, .ref c7, .ref c8, .ref c9]))) ab (.inl (G.2 0, 3744, .inr (.inl g41)))) av (.inl (G.2 2, 26, .inl w41)), rfl, (⟨_, _, _, rfl, ⟨hsy41, hvb41⟩⟩), by show mw _ _ _ _ t99.heap; rw [ht99]; exact hP⟩, hS.F ht99⟩) hS.2.2 dX4_act_58
          · refine lv_iconst (v := nI 1) hx hb dX4_act_53 (by decide) ?_
            refine lv_goto (tgt := 58) hx hb dX4_act_54 (by decide) ?_
            rw [hQ]
            exact W.zret (v := nI 1) (ty := .boolean) hx hb hr (by first | rfl | decide) (fun t99 ht99 hW99 => ⟨⟨nI 1, mu (mu (mu μ md (.inr (4, [.int (nI 0), .ref ab, .ref av, .int (nI st), .ref c1, .ref c2, .ref c3, .ref c4, .ref c5, .ref c6, .ref c7, .ref c8, .ref c9]))) ab (.inl (G.2 0, 3744, .inr (.inl g41)))) av (.inl (G.2 2, 26, .inl w41)), rfl, (⟨_, _, _, rfl, ⟨hsy41, hvb41⟩⟩), by show mw _ _ _ _ t99.heap; rw [ht99]; exact hP⟩, hS.F ht99⟩) hS.2.2 dX4_act_58
        · replace ek9 : k9 = nI 1 := ek9.trans (by decide)
          subst ek9
          obtain ⟨na9, hna9, ena9⟩ := ok_nat (n := 6) (by decide) hp1
          subst ena9
          obtain ⟨nb9, hnb9, enb9⟩ := ok_nat (n := 12) (by decide) hp2
          subst enb9
          refine lv_aload_n hx hb dX4_act_33 rfl (lv_at hl 0 rfl) ?_
          refine lv_iload_n hx hb dX4_act_34 rfl (lv_at hl 1 rfl) ?_
          refine lv_iload_n hx hb dX4_act_35 rfl (lv_at hl 2 rfl) ?_
          refine lv_iload_n hx hb dX4_act_36 rfl (lv_at hl 3 rfl) ?_
          refine lv_iload hx hb dX4_act_37 (lv_at hl 4 rfl) ?_
          refine lv_iload hx hb dX4_act_39 (lv_at hl 5 rfl) ?_
          refine kc_v (va_runV (As := [.int (nI nx9), .int (nI 1), .int (nI na9), .int (nI nb9), .int y9]) (rest := []) ⟨hx, hb, hml, hown, hts⟩ (m_X4_make_1 l G B (mu (mu (mu μ md (.inr (4, [.int (nI 0), .ref ab, .ref av, .int (nI st), .ref c1, .ref c2, .ref c3, .ref c4, .ref c5, .ref c6, .ref c7, .ref c8, .ref c9]))) ab (.inl (G.2 0, 3744, .inr (.inl f)))) av (.inl (G.2 2, 26, .inl v))) md ab av c1 c2 c3 c4 c5 c6 c7 c8 c9 0 st f v nx9 na9 nb9 y9 ((mu_n ne0_2).trans ((mu_n ne0_1).trans (mu_s _ _ _))) ((mu_n ((mp_ne hab hav (by simp)))).trans (mu_s _ _ _)) (mu_s _ _ _) (by omega) (by omega) (by omega) hsy hvb) (cwV 5 hts gX4_act_X4_make rfl rfl rfl (by decide +kernel) ⟨Nat.le_of_ble_eq_true rfl, Nat.le_of_ble_eq_true rfl⟩) ⟨KW.blind, hP.recv hK rfl ((mu_n ne0_2).trans ((mu_n ne0_1).trans (mu_s _ _ _))), fun U9 hU9 hW9 => ⟨rfl, KW.pre hBs hKK hS hP U9 hU9 hW9⟩⟩ rfl rfl hl.1 rfl (lv_room (Nat.le_of_ble_eq_true rfl)) dX4_act_41 ⟨(Nat.le_of_ble_eq_true rfl), (Nat.le_of_ble_eq_true rfl)⟩) hS (fun m41 H locs hq9 hP hz9 hS => ?_)
          obtain ⟨g41, w41, he41, hsy41, hvb41⟩ := hq9
          rw [he41] at hP
          have hP : mw G.1 vwCl B (mu (mu (mu μ md (.inr (4, [.int (nI 0), .ref ab, .ref av, .int (nI st), .ref c1, .ref c2, .ref c3, .ref c4, .ref c5, .ref c6, .ref c7, .ref c8, .ref c9]))) ab (.inl (G.2 0, 3744, .inr (.inl g41)))) av (.inl (G.2 2, 26, .inl w41))) _ := mw_eq ((congrArg (fun z => mu z av (.inl (G.2 2, 26, .inl w41))) ((mu_c _ _ ((mp_ne hav hab (by simp)))).trans (congrArg (fun z => mu z av (.inl (G.2 2, 26, .inl v))) (mu_u _ _ _ _)))).trans (mu_u _ _ _ _)) hP
          refine lv_aload_n hx hb dX4_act_44 rfl (lv_at hl 0 rfl) ?_
          refine mw_get (C := RX4) (T := TX4) (N := 13) hx hb hts in_X4_act_X4 hown hK hP ((mu_n ne0_2).trans ((mu_n ne0_1).trans (mu_s _ _ _))) rfl 2 (by decide) (hts (.fieldLink RX4 13 "OctagonDeskModel" "isVoid" "[Z") (by decide +kernel)) (fun _ h9 => h9) rfl dX4_act_45 ?_
          refine lv_iload_n hx hb dX4_act_48 rfl (lv_at hl 1 rfl) ?_
          refine mw_zald hx hb hK hP 2 (mu_s _ _ _) rfl (by omega) (by omega) dX4_act_49 ?_
          refine lv_if_ne (tgt := 57) hx hb dX4_act_50 (by decide) (fun hc50 => ?_) (fun hc50 => ?_)
          · refine lv_iconst (v := nI 0) hx hb dX4_act_57 (by decide) ?_
            rw [hQ]
            exact W.zret (v := nI 0) (ty := .boolean) hx hb hr (by first | rfl | decide) (fun t99 ht99 hW99 => ⟨⟨nI 0, mu (mu (mu μ md (.inr (4, [.int (nI 0), .ref ab, .ref av, .int (nI st), .ref c1, .ref c2, .ref c3, .ref c4, .ref c5, .ref c6, .ref c7, .ref c8, .ref c9]))) ab (.inl (G.2 0, 3744, .inr (.inl g41)))) av (.inl (G.2 2, 26, .inl w41)), rfl, (⟨_, _, _, rfl, ⟨hsy41, hvb41⟩⟩), by show mw _ _ _ _ t99.heap; rw [ht99]; exact hP⟩, hS.F ht99⟩) hS.2.2 dX4_act_58
          · refine lv_iconst (v := nI 1) hx hb dX4_act_53 (by decide) ?_
            refine lv_goto (tgt := 58) hx hb dX4_act_54 (by decide) ?_
            rw [hQ]
            exact W.zret (v := nI 1) (ty := .boolean) hx hb hr (by first | rfl | decide) (fun t99 ht99 hW99 => ⟨⟨nI 1, mu (mu (mu μ md (.inr (4, [.int (nI 0), .ref ab, .ref av, .int (nI st), .ref c1, .ref c2, .ref c3, .ref c4, .ref c5, .ref c6, .ref c7, .ref c8, .ref c9]))) ab (.inl (G.2 0, 3744, .inr (.inl g41)))) av (.inl (G.2 2, 26, .inl w41)), rfl, (⟨_, _, _, rfl, ⟨hsy41, hvb41⟩⟩), by show mw _ _ _ _ t99.heap; rw [ht99]; exact hP⟩, hS.F ht99⟩) hS.2.2 dX4_act_58
        · replace ek9 : k9 = nI 2 := ek9.trans (by decide)
          subst ek9
          obtain ⟨na9, hna9, ena9⟩ := ok_nat (n := 6) (by decide) hp1
          subst ena9
          refine lv_aload_n hx hb dX4_act_33 rfl (lv_at hl 0 rfl) ?_
          refine lv_iload_n hx hb dX4_act_34 rfl (lv_at hl 1 rfl) ?_
          refine lv_iload_n hx hb dX4_act_35 rfl (lv_at hl 2 rfl) ?_
          refine lv_iload_n hx hb dX4_act_36 rfl (lv_at hl 3 rfl) ?_
          refine lv_iload hx hb dX4_act_37 (lv_at hl 4 rfl) ?_
          refine lv_iload hx hb dX4_act_39 (lv_at hl 5 rfl) ?_
          refine kc_v (va_runV (As := [.int (nI nx9), .int (nI 2), .int (nI na9), .int b9, .int y9]) (rest := []) ⟨hx, hb, hml, hown, hts⟩ (m_X4_make_2 l G B (mu (mu (mu μ md (.inr (4, [.int (nI 0), .ref ab, .ref av, .int (nI st), .ref c1, .ref c2, .ref c3, .ref c4, .ref c5, .ref c6, .ref c7, .ref c8, .ref c9]))) ab (.inl (G.2 0, 3744, .inr (.inl f)))) av (.inl (G.2 2, 26, .inl v))) md ab av c1 c2 c3 c4 c5 c6 c7 c8 c9 0 st f v nx9 na9 b9 y9 ((mu_n ne0_2).trans ((mu_n ne0_1).trans (mu_s _ _ _))) ((mu_n ((mp_ne hab hav (by simp)))).trans (mu_s _ _ _)) (mu_s _ _ _) (by omega) (by omega) hsy hvb) (cwV 5 hts gX4_act_X4_make rfl rfl rfl (by decide +kernel) ⟨Nat.le_of_ble_eq_true rfl, Nat.le_of_ble_eq_true rfl⟩) ⟨KW.blind, hP.recv hK rfl ((mu_n ne0_2).trans ((mu_n ne0_1).trans (mu_s _ _ _))), fun U9 hU9 hW9 => ⟨rfl, KW.pre hBs hKK hS hP U9 hU9 hW9⟩⟩ rfl rfl hl.1 rfl (lv_room (Nat.le_of_ble_eq_true rfl)) dX4_act_41 ⟨(Nat.le_of_ble_eq_true rfl), (Nat.le_of_ble_eq_true rfl)⟩) hS (fun m41 H locs hq9 hP hz9 hS => ?_)
          obtain ⟨g41, w41, he41, hsy41, hvb41⟩ := hq9
          rw [he41] at hP
          have hP : mw G.1 vwCl B (mu (mu (mu μ md (.inr (4, [.int (nI 0), .ref ab, .ref av, .int (nI st), .ref c1, .ref c2, .ref c3, .ref c4, .ref c5, .ref c6, .ref c7, .ref c8, .ref c9]))) ab (.inl (G.2 0, 3744, .inr (.inl g41)))) av (.inl (G.2 2, 26, .inl w41))) _ := mw_eq ((congrArg (fun z => mu z av (.inl (G.2 2, 26, .inl w41))) ((mu_c _ _ ((mp_ne hav hab (by simp)))).trans (congrArg (fun z => mu z av (.inl (G.2 2, 26, .inl v))) (mu_u _ _ _ _)))).trans (mu_u _ _ _ _)) hP
          refine lv_aload_n hx hb dX4_act_44 rfl (lv_at hl 0 rfl) ?_
          refine mw_get (C := RX4) (T := TX4) (N := 13) hx hb hts in_X4_act_X4 hown hK hP ((mu_n ne0_2).trans ((mu_n ne0_1).trans (mu_s _ _ _))) rfl 2 (by decide) (hts (.fieldLink RX4 13 "OctagonDeskModel" "isVoid" "[Z") (by decide +kernel)) (fun _ h9 => h9) rfl dX4_act_45 ?_
          refine lv_iload_n hx hb dX4_act_48 rfl (lv_at hl 1 rfl) ?_
          refine mw_zald hx hb hK hP 2 (mu_s _ _ _) rfl (by omega) (by omega) dX4_act_49 ?_
          refine lv_if_ne (tgt := 57) hx hb dX4_act_50 (by decide) (fun hc50 => ?_) (fun hc50 => ?_)
          · refine lv_iconst (v := nI 0) hx hb dX4_act_57 (by decide) ?_
            rw [hQ]
            exact W.zret (v := nI 0) (ty := .boolean) hx hb hr (by first | rfl | decide) (fun t99 ht99 hW99 => ⟨⟨nI 0, mu (mu (mu μ md (.inr (4, [.int (nI 0), .ref ab, .ref av, .int (nI st), .ref c1, .ref c2, .ref c3, .ref c4, .ref c5, .ref c6, .ref c7, .ref c8, .ref c9]))) ab (.inl (G.2 0, 3744, .inr (.inl g41)))) av (.inl (G.2 2, 26, .inl w41)), rfl, (⟨_, _, _, rfl, ⟨hsy41, hvb41⟩⟩), by show mw _ _ _ _ t99.heap; rw [ht99]; exact hP⟩, hS.F ht99⟩) hS.2.2 dX4_act_58
          · refine lv_iconst (v := nI 1) hx hb dX4_act_53 (by decide) ?_
            refine lv_goto (tgt := 58) hx hb dX4_act_54 (by decide) ?_
            rw [hQ]
            exact W.zret (v := nI 1) (ty := .boolean) hx hb hr (by first | rfl | decide) (fun t99 ht99 hW99 => ⟨⟨nI 1, mu (mu (mu μ md (.inr (4, [.int (nI 0), .ref ab, .ref av, .int (nI st), .ref c1, .ref c2, .ref c3, .ref c4, .ref c5, .ref c6, .ref c7, .ref c8, .ref c9]))) ab (.inl (G.2 0, 3744, .inr (.inl g41)))) av (.inl (G.2 2, 26, .inl w41)), rfl, (⟨_, _, _, rfl, ⟨hsy41, hvb41⟩⟩), by show mw _ _ _ _ t99.heap; rw [ht99]; exact hP⟩, hS.F ht99⟩) hS.2.2 dX4_act_58
      · exact absurd rfl hc28

abbrev rn_X4_first : Room := { frames := 3, cells := 0, slots := 0, locals := 79 }
set_option maxHeartbeats 4000000 in
set_option maxRecDepth 100000 in
theorem m_X4_first (l : Launch) (G : GG) (B : Nat) (μ : mp) (md ab av c1 c2 c3 c4 c5 c6 c7 c8 c9 fl st : Nat) (f : Nat → Int64) (v : Nat → Int32) (x9 y9 : Int32) (hm : μ md = some (.inr (4, [.int (nI fl), .ref ab, .ref av, .int (nI st), .ref c1, .ref c2, .ref c3, .ref c4, .ref c5, .ref c6, .ref c7, .ref c8, .ref c9]))) (hab : μ ab = some (.inl (G.2 0, 3744, .inr (.inl f)))) (hav : μ av = some (.inl (G.2 2, 26, .inl v))) (hsy : Sym f) (hvb : VB v) : Met l yX4_first wsX4_first rn_X4_first (va_Pc [.ref md, .int x9, .int y9] (KW G B μ)) (va_Ql (fun r μ2 => ∃ (fl9 : Nat) (g9 : Nat → Int64) (w9 : Nat → Int32), μ2 = mu (mu (mu μ md (.inr (4, [.int (nI fl9), .ref ab, .ref av, .int (nI st), .ref c1, .ref c2, .ref c3, .ref c4, .ref c5, .ref c6, .ref c7, .ref c8, .ref c9]))) ab (.inl (G.2 0, 3744, .inr (.inl g9)))) av (.inl (G.2 2, 26, .inl w9)) ∧ (Sym g9 ∧ VB w9)) (BB G B) (fun q => B ≤ q)) 0 0 (fun q => B ≤ q) := by
  refine Met.ofW (cc := cX4_first) (maxL := 10) (ret := (some .long)) (by decide) rfl ?_
  intro p e s m args below meth c s₁ B9 hml hv
  obtain ⟨hargs, hBs, hP, hKK⟩ := hv
  have hx := B9.exec
  have hb := B9.bytes
  have hr := B9.returns
  have hts := atoms_spec (ws := wsX4_first) B9.pre
  have hown : s.vm.findClass RX4 = some m.cls := findClass_of_methodNamed B9.named
  have hlocks := B9.notSynchronized
  have hK := hKK.k
  have hS : va_S (fun q => B ≤ q) s.heap s.heap [] := va_S.rf
  obtain ⟨Q, hQ⟩ : ∃ Q, Q = MQ below (va_Ql (fun r μ2 => ∃ (fl9 : Nat) (g9 : Nat → Int64) (w9 : Nat → Int32), μ2 = mu (mu (mu μ md (.inr (4, [.int (nI fl9), .ref ab, .ref av, .int (nI st), .ref c1, .ref c2, .ref c3, .ref c4, .ref c5, .ref c6, .ref c7, .ref c8, .ref c9]))) ab (.inl (G.2 0, 3744, .inr (.inl g9)))) av (.inl (G.2 2, 26, .inl w9)) ∧ (Sym g9 ∧ VB w9)) (BB G B) (fun q => B ≤ q)) args s 0 0 (fun q => B ≤ q) := ⟨_, rfl⟩
  rw [← hQ]
  have ne0_1 : md ≠ ab := mp_ne hm hab (by simp)
  have ne0_2 : md ≠ av := mp_ne hm hav (by simp)
  have in_X4_first_X4 : ∀ w ∈ wsX40, w ∈ wsX4_first := by decide +kernel
  have hP : mw G.1 vwCl B (mu (mu (mu μ md (.inr (4, [.int (nI fl), .ref ab, .ref av, .int (nI st), .ref c1, .ref c2, .ref c3, .ref c4, .ref c5, .ref c6, .ref c7, .ref c8, .ref c9]))) ab (.inl (G.2 0, 3744, .inr (.inl f)))) av (.inl (G.2 2, 26, .inl v))) s.heap := mw_eq ((congrArg (fun z => mu z av (.inl (G.2 2, 26, .inl v))) ((congrArg (fun z => mu z ab (.inl (G.2 0, 3744, .inr (.inl f)))) (mu_i hm)).trans (mu_i hab))).trans (mu_i hav)).symm hP
  have L55 : ∀ (N55 : Nat) (k1 : Nat) (n0 : Nat) (n1 : Nat) (y1 : Int64) (g1 : Nat → Int64) (v1 : Nat → Int32) (hN55 : n1 + 1 - k1 < N55) (hk1 : k1 ≤ n1 + 1) (hn0 : n0 < 6) (hn1 : n1 < 6) (hs1 : Sym g1) (hv1 : VB v1), ∀ (H : Heap) (locs : List Loc), mw G.1 vwCl B (mu (mu (mu μ md (.inr (4, [.int (nI 0), .ref ab, .ref av, .int (nI st), .ref c1, .ref c2, .ref c3, .ref c4, .ref c5, .ref c6, .ref c7, .ref c8, .ref c9]))) ab (.inl (G.2 0, 3744, .inr (.inl g1)))) av (.inl (G.2 2, 26, .inl v1))) H → va_S (fun q => B ≤ q) s.heap H locs → ∀ ls : Array Slot, lv_has ls 10 [(0, .ref md), (1, .int (nI n0)), (2, .int (nI n1)), (3, .long y1), (5, .int (nI k1))] → W p l e rn_X4_first s m args below meth c H locs 0 0 Q (F0 m 55 ls []) := by
    intro N55
    induction N55 with
    | zero => intro k1 n0 n1 y1 g1 v1 hN55; exact absurd hN55 (Nat.not_lt_zero _)
    | succ N55 ih55 =>
      intro k1 n0 n1 y1 g1 v1 hN55 hk1 hn0 hn1 hs1 hv1 H locs hP hS ls hl
      refine lv_iload hx hb dX4_first_55 (lv_at hl 4 rfl) ?_
      refine lv_iload_n hx hb dX4_first_57 rfl (lv_at hl 2 rfl) ?_
      refine nv_icmp_gt (tgt := 175) hx hb (by omega) (by omega) dX4_first_58 (by decide) (fun hc58 => ?_) (fun hc58 => ?_)
      · refine lv_lload_n hx hb dX4_first_175 rfl (lv_at hl 3 rfl) ?_
        rw [hQ]
        exact W.lret (v := y1) hx hb hr (fun t99 ht99 hW99 => ⟨⟨y1, mu (mu (mu μ md (.inr (4, [.int (nI 0), .ref ab, .ref av, .int (nI st), .ref c1, .ref c2, .ref c3, .ref c4, .ref c5, .ref c6, .ref c7, .ref c8, .ref c9]))) ab (.inl (G.2 0, 3744, .inr (.inl g1)))) av (.inl (G.2 2, 26, .inl v1)), rfl, (⟨_, _, _, rfl, ⟨hs1, hv1⟩⟩), by show mw _ _ _ _ t99.heap; rw [ht99]; exact hP⟩, hS.F ht99⟩) hS.2.2 dX4_first_176
      · refine lv_aload_n hx hb dX4_first_61 rfl (lv_at hl 0 rfl) ?_
        refine lv_bipush (v := nI 22) hx hb dX4_first_62 (by decide) ?_
        refine lv_iconst (v := nI 2) hx hb dX4_first_64 (by decide) ?_
        refine lv_iload hx hb dX4_first_65 (lv_at hl 4 rfl) ?_
        refine nv_imul hx hb dX4_first_67 ?_
        refine lv_iconst (v := nI 2) hx hb dX4_first_68 (by decide) ?_
        refine lv_iload hx hb dX4_first_69 (lv_at hl 4 rfl) ?_
        refine nv_imul hx hb dX4_first_71 ?_
        refine kc_l (va_runV (As := [.int (nI 22), .int (nI (2 * k1)), .int (nI (2 * k1))]) (rest := []) ⟨hx, hb, hml, hown, hts⟩ (c_X4_get l G B (mu (mu (mu μ md (.inr (4, [.int (nI 0), .ref ab, .ref av, .int (nI st), .ref c1, .ref c2, .ref c3, .ref c4, .ref c5, .ref c6, .ref c7, .ref c8, .ref c9]))) ab (.inl (G.2 0, 3744, .inr (.inl g1)))) av (.inl (G.2 2, 26, .inl v1))) md ab av c1 c2 c3 c4 c5 c6 c7 c8 c9 0 st g1 v1 22 (2 * k1) (2 * k1) ((mu_n ne0_2).trans ((mu_n ne0_1).trans (mu_s _ _ _))) ((mu_n ((mp_ne hab hav (by simp)))).trans (mu_s _ _ _)) (mu_s _ _ _) (by omega) (by omega) (by omega)) (cwV 3 hts gX4_first_X4_get rfl rfl rfl (by decide +kernel) ⟨Nat.le_of_ble_eq_true rfl, Nat.le_of_ble_eq_true rfl⟩) ⟨KW.blind, hP.recv hK rfl ((mu_n ne0_2).trans ((mu_n ne0_1).trans (mu_s _ _ _))), fun U9 hU9 hW9 => ⟨rfl, KW.pre hBs hKK hS hP U9 hU9 hW9⟩⟩ rfl rfl hl.1 rfl (lv_room (Nat.le_of_ble_eq_true rfl)) dX4_first_72 ⟨(Nat.le_of_ble_eq_true rfl), (Nat.le_of_ble_eq_true rfl)⟩) hS (fun r72 m72 H locs hq9 hP hz9 hS => ?_)
        obtain ⟨he9, hr72⟩ := hq9
        rw [he9] at hP
        refine lv_lstore (lv' := [(6, .long r72), (0, .ref md), (1, .int (nI n0)), (2, .int (nI n1)), (3, .long y1), (5, .int (nI k1))]) hx hb dX4_first_75 hl (by decide) rfl (fun ls hl => ?_)
        refine lv_aload_n hx hb dX4_first_77 rfl (lv_at hl 1 rfl) ?_
        refine lv_bipush (v := nI 22) hx hb dX4_first_78 (by decide) ?_
        refine lv_iconst (v := nI 2) hx hb dX4_first_80 (by decide) ?_
        refine lv_iload hx hb dX4_first_81 (lv_at hl 5 rfl) ?_
        refine nv_imul hx hb dX4_first_83 ?_
        refine lv_iconst (v := nI 1) hx hb dX4_first_84 (by decide) ?_
        refine nv_iadd hx hb dX4_first_85 ?_
        refine lv_iconst (v := nI 2) hx hb dX4_first_86 (by decide) ?_
        refine lv_iload hx hb dX4_first_87 (lv_at hl 5 rfl) ?_
        refine nv_imul hx hb dX4_first_89 ?_
        refine lv_iconst (v := nI 1) hx hb dX4_first_90 (by decide) ?_
        refine nv_iadd hx hb dX4_first_91 ?_
        refine kc_l (va_runV (As := [.int (nI 22), .int (nI ((2 * k1) + 1)), .int (nI ((2 * k1) + 1))]) (rest := []) ⟨hx, hb, hml, hown, hts⟩ (c_X4_get l G B (mu (mu (mu μ md (.inr (4, [.int (nI 0), .ref ab, .ref av, .int (nI st), .ref c1, .ref c2, .ref c3, .ref c4, .ref c5, .ref c6, .ref c7, .ref c8, .ref c9]))) ab (.inl (G.2 0, 3744, .inr (.inl g1)))) av (.inl (G.2 2, 26, .inl v1))) md ab av c1 c2 c3 c4 c5 c6 c7 c8 c9 0 st g1 v1 22 ((2 * k1) + 1) ((2 * k1) + 1) ((mu_n ne0_2).trans ((mu_n ne0_1).trans (mu_s _ _ _))) ((mu_n ((mp_ne hab hav (by simp)))).trans (mu_s _ _ _)) (mu_s _ _ _) (by omega) (by omega) (by omega)) (cwV 3 hts gX4_first_X4_get rfl rfl rfl (by decide +kernel) ⟨Nat.le_of_ble_eq_true rfl, Nat.le_of_ble_eq_true rfl⟩) ⟨KW.blind, hP.recv hK rfl ((mu_n ne0_2).trans ((mu_n ne0_1).trans (mu_s _ _ _))), fun U9 hU9 hW9 => ⟨rfl, KW.pre hBs hKK hS hP U9 hU9 hW9⟩⟩ rfl rfl hl.1 rfl (lv_room (Nat.le_of_ble_eq_true rfl)) dX4_first_92 ⟨(Nat.le_of_ble_eq_true rfl), (Nat.le_of_ble_eq_true rfl)⟩) hS (fun r92 m92 H locs hq9 hP hz9 hS => ?_)
        obtain ⟨he9, hr92⟩ := hq9
        rw [he9] at hP
        refine lv_lstore (lv' := [(8, .long r92), (6, .long r72), (0, .ref md), (1, .int (nI n0)), (2, .int (nI n1)), (3, .long y1), (5, .int (nI k1))]) hx hb dX4_first_95 hl (by decide) rfl (fun ls hl => ?_)
        refine lv_lload hx hb dX4_first_97 (lv_at hl 0 rfl) ?_
        refine lv_ldc2 (v := (9223372036854775807)) hx hb hown (hts (.constantLong RX4 45 (9223372036854775807)) (by decide +kernel)) dX4_first_99 ?_
        refine nl_if_ge (tgt := 112) hx hb dX4_first_102 dX4_first_103 (by decide) (fun hc102 => ?_) (fun hc102 => ?_)
        · refine lv_lload hx hb dX4_first_112 (lv_at hl 1 rfl) ?_
          refine lv_ldc2 (v := (9223372036854775807)) hx hb hown (hts (.constantLong RX4 45 (9223372036854775807)) (by decide +kernel)) dX4_first_114 ?_
          refine nl_if_ge (tgt := 126) hx hb dX4_first_117 dX4_first_118 (by decide) (fun hc117 => ?_) (fun hc117 => ?_)
          · refine lv_lconst (v := 0) hx hb dX4_first_126 (by decide) ?_
            refine lv_lstore_n (lv' := [(3, .long 0), (8, .long r92), (6, .long r72), (0, .ref md), (1, .int (nI n0)), (2, .int (nI n1)), (5, .int (nI k1))]) hx hb dX4_first_127 rfl hl (by decide) rfl (fun ls hl => ?_)
            refine lv_aload_n hx hb dX4_first_128 rfl (lv_at hl 3 rfl) ?_
            refine lv_bipush (v := nI 22) hx hb dX4_first_129 (by decide) ?_
            refine lv_iconst (v := nI 2) hx hb dX4_first_131 (by decide) ?_
            refine lv_iload hx hb dX4_first_132 (lv_at hl 6 rfl) ?_
            refine nv_imul hx hb dX4_first_134 ?_
            refine lv_iconst (v := nI 2) hx hb dX4_first_135 (by decide) ?_
            refine lv_iload hx hb dX4_first_136 (lv_at hl 6 rfl) ?_
            refine nv_imul hx hb dX4_first_138 ?_
            refine lv_lload_n hx hb dX4_first_139 rfl (lv_at hl 0 rfl) ?_
            refine kc_v (va_runV (As := [.int (nI 22), .int (nI (2 * k1)), .int (nI (2 * k1)), .long 0]) (rest := []) ⟨hx, hb, hml, hown, hts⟩ (c_X4_set l G B (mu (mu (mu μ md (.inr (4, [.int (nI 0), .ref ab, .ref av, .int (nI st), .ref c1, .ref c2, .ref c3, .ref c4, .ref c5, .ref c6, .ref c7, .ref c8, .ref c9]))) ab (.inl (G.2 0, 3744, .inr (.inl g1)))) av (.inl (G.2 2, 26, .inl v1))) md ab av c1 c2 c3 c4 c5 c6 c7 c8 c9 0 st g1 v1 22 (2 * k1) (2 * k1) 0 ((mu_n ne0_2).trans ((mu_n ne0_1).trans (mu_s _ _ _))) ((mu_n ((mp_ne hab hav (by simp)))).trans (mu_s _ _ _)) (mu_s _ _ _) (by omega) (by omega) (by omega)) (cwV 4 hts gX4_first_X4_set rfl rfl rfl (by decide +kernel) ⟨Nat.le_of_ble_eq_true rfl, Nat.le_of_ble_eq_true rfl⟩) ⟨KW.blind, hP.recv hK rfl ((mu_n ne0_2).trans ((mu_n ne0_1).trans (mu_s _ _ _))), fun U9 hU9 hW9 => ⟨rfl, KW.pre hBs hKK hS hP U9 hU9 hW9⟩⟩ rfl rfl hl.1 rfl (lv_room (Nat.le_of_ble_eq_true rfl)) dX4_first_140 ⟨(Nat.le_of_ble_eq_true rfl), (Nat.le_of_ble_eq_true rfl)⟩) hS (fun m140 H locs hq9 hP hz9 hS => ?_)
            rw [hq9] at hP
            have hP : mw G.1 vwCl B (mu (mu (mu μ md (.inr (4, [.int (nI 0), .ref ab, .ref av, .int (nI st), .ref c1, .ref c2, .ref c3, .ref c4, .ref c5, .ref c6, .ref c7, .ref c8, .ref c9]))) ab (.inl (G.2 0, 3744, .inr (.inl (stf g1 22 (2 * k1) (2 * k1) 0))))) av (.inl (G.2 2, 26, .inl v1))) _ := mw_eq ((mu_c _ _ ((mp_ne hav hab (by simp)))).trans (congrArg (fun z => mu z av (.inl (G.2 2, 26, .inl v1))) (mu_u _ _ _ _))) hP
            refine lv_aload_n hx hb dX4_first_143 rfl (lv_at hl 3 rfl) ?_
            refine lv_bipush (v := nI 22) hx hb dX4_first_144 (by decide) ?_
            refine lv_iconst (v := nI 2) hx hb dX4_first_146 (by decide) ?_
            refine lv_iload hx hb dX4_first_147 (lv_at hl 6 rfl) ?_
            refine nv_imul hx hb dX4_first_149 ?_
            refine lv_iconst (v := nI 1) hx hb dX4_first_150 (by decide) ?_
            refine nv_iadd hx hb dX4_first_151 ?_
            refine lv_iconst (v := nI 2) hx hb dX4_first_152 (by decide) ?_
            refine lv_iload hx hb dX4_first_153 (lv_at hl 6 rfl) ?_
            refine nv_imul hx hb dX4_first_155 ?_
            refine lv_iconst (v := nI 1) hx hb dX4_first_156 (by decide) ?_
            refine nv_iadd hx hb dX4_first_157 ?_
            refine lv_lload_n hx hb dX4_first_158 rfl (lv_at hl 0 rfl) ?_
            refine lv_lneg hx hb dX4_first_159 ?_
            refine kc_v (va_runV (As := [.int (nI 22), .int (nI ((2 * k1) + 1)), .int (nI ((2 * k1) + 1)), .long (-0)]) (rest := []) ⟨hx, hb, hml, hown, hts⟩ (c_X4_set l G B (mu (mu (mu μ md (.inr (4, [.int (nI 0), .ref ab, .ref av, .int (nI st), .ref c1, .ref c2, .ref c3, .ref c4, .ref c5, .ref c6, .ref c7, .ref c8, .ref c9]))) ab (.inl (G.2 0, 3744, .inr (.inl (stf g1 22 (2 * k1) (2 * k1) 0))))) av (.inl (G.2 2, 26, .inl v1))) md ab av c1 c2 c3 c4 c5 c6 c7 c8 c9 0 st (stf g1 22 (2 * k1) (2 * k1) 0) v1 22 ((2 * k1) + 1) ((2 * k1) + 1) (-0) ((mu_n ne0_2).trans ((mu_n ne0_1).trans (mu_s _ _ _))) ((mu_n ((mp_ne hab hav (by simp)))).trans (mu_s _ _ _)) (mu_s _ _ _) (by omega) (by omega) (by omega)) (cwV 4 hts gX4_first_X4_set rfl rfl rfl (by decide +kernel) ⟨Nat.le_of_ble_eq_true rfl, Nat.le_of_ble_eq_true rfl⟩) ⟨KW.blind, hP.recv hK rfl ((mu_n ne0_2).trans ((mu_n ne0_1).trans (mu_s _ _ _))), fun U9 hU9 hW9 => ⟨rfl, KW.pre hBs hKK hS hP U9 hU9 hW9⟩⟩ rfl rfl hl.1 rfl (lv_room (Nat.le_of_ble_eq_true rfl)) dX4_first_160 ⟨(Nat.le_of_ble_eq_true rfl), (Nat.le_of_ble_eq_true rfl)⟩) hS (fun m160 H locs hq9 hP hz9 hS => ?_)
            rw [hq9] at hP
            have hP : mw G.1 vwCl B (mu (mu (mu μ md (.inr (4, [.int (nI 0), .ref ab, .ref av, .int (nI st), .ref c1, .ref c2, .ref c3, .ref c4, .ref c5, .ref c6, .ref c7, .ref c8, .ref c9]))) ab (.inl (G.2 0, 3744, .inr (.inl (stf (stf g1 22 (2 * k1) (2 * k1) 0) 22 ((2 * k1) + 1) ((2 * k1) + 1) (-0)))))) av (.inl (G.2 2, 26, .inl v1))) _ := mw_eq ((mu_c _ _ ((mp_ne hav hab (by simp)))).trans (congrArg (fun z => mu z av (.inl (G.2 2, 26, .inl v1))) (mu_u _ _ _ _))) hP
            refine lv_aload_n hx hb dX4_first_163 rfl (lv_at hl 3 rfl) ?_
            refine lv_bipush (v := nI 22) hx hb dX4_first_164 (by decide) ?_
            refine kc_v (va_runV (As := [.int (nI 22)]) (rest := []) ⟨hx, hb, hml, hown, hts⟩ (m_X4_close l G B (mu (mu (mu μ md (.inr (4, [.int (nI 0), .ref ab, .ref av, .int (nI st), .ref c1, .ref c2, .ref c3, .ref c4, .ref c5, .ref c6, .ref c7, .ref c8, .ref c9]))) ab (.inl (G.2 0, 3744, .inr (.inl (stf (stf g1 22 (2 * k1) (2 * k1) 0) 22 ((2 * k1) + 1) ((2 * k1) + 1) (-0)))))) av (.inl (G.2 2, 26, .inl v1))) md ab av c1 c2 c3 c4 c5 c6 c7 c8 c9 0 st (stf (stf g1 22 (2 * k1) (2 * k1) 0) 22 ((2 * k1) + 1) ((2 * k1) + 1) (-0)) v1 22 ((mu_n ne0_2).trans ((mu_n ne0_1).trans (mu_s _ _ _))) ((mu_n ((mp_ne hab hav (by simp)))).trans (mu_s _ _ _)) (mu_s _ _ _) (by omega) ((hs1.st (by omega) (by omega)).st (by omega) (by omega)) hv1) (cwV 1 hts gX4_first_X4_close rfl rfl rfl (by decide +kernel) ⟨Nat.le_of_ble_eq_true rfl, Nat.le_of_ble_eq_true rfl⟩) ⟨KW.blind, hP.recv hK rfl ((mu_n ne0_2).trans ((mu_n ne0_1).trans (mu_s _ _ _))), fun U9 hU9 hW9 => ⟨rfl, KW.pre hBs hKK hS hP U9 hU9 hW9⟩⟩ rfl rfl hl.1 rfl (lv_room (Nat.le_of_ble_eq_true rfl)) dX4_first_166 ⟨(Nat.le_of_ble_eq_true rfl), (Nat.le_of_ble_eq_true rfl)⟩) hS (fun m166 H locs hq9 hP hz9 hS => ?_)
            obtain ⟨g166, w166, he166, hsy166, hvb166⟩ := hq9
            rw [he166] at hP
            have hP : mw G.1 vwCl B (mu (mu (mu μ md (.inr (4, [.int (nI 0), .ref ab, .ref av, .int (nI st), .ref c1, .ref c2, .ref c3, .ref c4, .ref c5, .ref c6, .ref c7, .ref c8, .ref c9]))) ab (.inl (G.2 0, 3744, .inr (.inl g166)))) av (.inl (G.2 2, 26, .inl w166))) _ := mw_eq ((congrArg (fun z => mu z av (.inl (G.2 2, 26, .inl w166))) ((mu_c _ _ ((mp_ne hav hab (by simp)))).trans (congrArg (fun z => mu z av (.inl (G.2 2, 26, .inl v1))) (mu_u _ _ _ _)))).trans (mu_u _ _ _ _)) hP
            refine lv_iinc (v := nI (k1 + 1)) (lv' := [(5, .int (nI (k1 + 1))), (3, .long 0), (8, .long r92), (6, .long r72), (0, .ref md), (1, .int (nI n0)), (2, .int (nI n1))]) hx hb dX4_first_169 hl (k := 6) rfl (nI_add _ _) (by decide) rfl (fun ls hl => ?_)
            refine lv_goto (tgt := 55) hx hb dX4_first_172 (by decide) ?_
            exact ih55 (k1 + 1) n0 n1 0 g166 w166 (by omega) (by omega) (by omega) (by omega) (hsy166) (hvb166) _ _ hP hS ls (lv_sub hl [4, 5, 6, 1, 0] rfl)
          · refine lv_lload hx hb dX4_first_121 (lv_at hl 1 rfl) ?_
            refine lv_goto (tgt := 127) hx hb dX4_first_123 (by decide) ?_
            refine lv_lstore_n (lv' := [(3, .long r72), (8, .long r92), (6, .long r72), (0, .ref md), (1, .int (nI n0)), (2, .int (nI n1)), (5, .int (nI k1))]) hx hb dX4_first_127 rfl hl (by decide) rfl (fun ls hl => ?_)
            refine lv_aload_n hx hb dX4_first_128 rfl (lv_at hl 3 rfl) ?_
            refine lv_bipush (v := nI 22) hx hb dX4_first_129 (by decide) ?_
            refine lv_iconst (v := nI 2) hx hb dX4_first_131 (by decide) ?_
            refine lv_iload hx hb dX4_first_132 (lv_at hl 6 rfl) ?_
            refine nv_imul hx hb dX4_first_134 ?_
            refine lv_iconst (v := nI 2) hx hb dX4_first_135 (by decide) ?_
            refine lv_iload hx hb dX4_first_136 (lv_at hl 6 rfl) ?_
            refine nv_imul hx hb dX4_first_138 ?_
            refine lv_lload_n hx hb dX4_first_139 rfl (lv_at hl 0 rfl) ?_
            refine kc_v (va_runV (As := [.int (nI 22), .int (nI (2 * k1)), .int (nI (2 * k1)), .long r72]) (rest := []) ⟨hx, hb, hml, hown, hts⟩ (c_X4_set l G B (mu (mu (mu μ md (.inr (4, [.int (nI 0), .ref ab, .ref av, .int (nI st), .ref c1, .ref c2, .ref c3, .ref c4, .ref c5, .ref c6, .ref c7, .ref c8, .ref c9]))) ab (.inl (G.2 0, 3744, .inr (.inl g1)))) av (.inl (G.2 2, 26, .inl v1))) md ab av c1 c2 c3 c4 c5 c6 c7 c8 c9 0 st g1 v1 22 (2 * k1) (2 * k1) r72 ((mu_n ne0_2).trans ((mu_n ne0_1).trans (mu_s _ _ _))) ((mu_n ((mp_ne hab hav (by simp)))).trans (mu_s _ _ _)) (mu_s _ _ _) (by omega) (by omega) (by omega)) (cwV 4 hts gX4_first_X4_set rfl rfl rfl (by decide +kernel) ⟨Nat.le_of_ble_eq_true rfl, Nat.le_of_ble_eq_true rfl⟩) ⟨KW.blind, hP.recv hK rfl ((mu_n ne0_2).trans ((mu_n ne0_1).trans (mu_s _ _ _))), fun U9 hU9 hW9 => ⟨rfl, KW.pre hBs hKK hS hP U9 hU9 hW9⟩⟩ rfl rfl hl.1 rfl (lv_room (Nat.le_of_ble_eq_true rfl)) dX4_first_140 ⟨(Nat.le_of_ble_eq_true rfl), (Nat.le_of_ble_eq_true rfl)⟩) hS (fun m140 H locs hq9 hP hz9 hS => ?_)
            rw [hq9] at hP
            have hP : mw G.1 vwCl B (mu (mu (mu μ md (.inr (4, [.int (nI 0), .ref ab, .ref av, .int (nI st), .ref c1, .ref c2, .ref c3, .ref c4, .ref c5, .ref c6, .ref c7, .ref c8, .ref c9]))) ab (.inl (G.2 0, 3744, .inr (.inl (stf g1 22 (2 * k1) (2 * k1) r72))))) av (.inl (G.2 2, 26, .inl v1))) _ := mw_eq ((mu_c _ _ ((mp_ne hav hab (by simp)))).trans (congrArg (fun z => mu z av (.inl (G.2 2, 26, .inl v1))) (mu_u _ _ _ _))) hP
            refine lv_aload_n hx hb dX4_first_143 rfl (lv_at hl 3 rfl) ?_
            refine lv_bipush (v := nI 22) hx hb dX4_first_144 (by decide) ?_
            refine lv_iconst (v := nI 2) hx hb dX4_first_146 (by decide) ?_
            refine lv_iload hx hb dX4_first_147 (lv_at hl 6 rfl) ?_
            refine nv_imul hx hb dX4_first_149 ?_
            refine lv_iconst (v := nI 1) hx hb dX4_first_150 (by decide) ?_
            refine nv_iadd hx hb dX4_first_151 ?_
            refine lv_iconst (v := nI 2) hx hb dX4_first_152 (by decide) ?_
            refine lv_iload hx hb dX4_first_153 (lv_at hl 6 rfl) ?_
            refine nv_imul hx hb dX4_first_155 ?_
            refine lv_iconst (v := nI 1) hx hb dX4_first_156 (by decide) ?_
            refine nv_iadd hx hb dX4_first_157 ?_
            refine lv_lload_n hx hb dX4_first_158 rfl (lv_at hl 0 rfl) ?_
            refine lv_lneg hx hb dX4_first_159 ?_
            refine kc_v (va_runV (As := [.int (nI 22), .int (nI ((2 * k1) + 1)), .int (nI ((2 * k1) + 1)), .long (-r72)]) (rest := []) ⟨hx, hb, hml, hown, hts⟩ (c_X4_set l G B (mu (mu (mu μ md (.inr (4, [.int (nI 0), .ref ab, .ref av, .int (nI st), .ref c1, .ref c2, .ref c3, .ref c4, .ref c5, .ref c6, .ref c7, .ref c8, .ref c9]))) ab (.inl (G.2 0, 3744, .inr (.inl (stf g1 22 (2 * k1) (2 * k1) r72))))) av (.inl (G.2 2, 26, .inl v1))) md ab av c1 c2 c3 c4 c5 c6 c7 c8 c9 0 st (stf g1 22 (2 * k1) (2 * k1) r72) v1 22 ((2 * k1) + 1) ((2 * k1) + 1) (-r72) ((mu_n ne0_2).trans ((mu_n ne0_1).trans (mu_s _ _ _))) ((mu_n ((mp_ne hab hav (by simp)))).trans (mu_s _ _ _)) (mu_s _ _ _) (by omega) (by omega) (by omega)) (cwV 4 hts gX4_first_X4_set rfl rfl rfl (by decide +kernel) ⟨Nat.le_of_ble_eq_true rfl, Nat.le_of_ble_eq_true rfl⟩) ⟨KW.blind, hP.recv hK rfl ((mu_n ne0_2).trans ((mu_n ne0_1).trans (mu_s _ _ _))), fun U9 hU9 hW9 => ⟨rfl, KW.pre hBs hKK hS hP U9 hU9 hW9⟩⟩ rfl rfl hl.1 rfl (lv_room (Nat.le_of_ble_eq_true rfl)) dX4_first_160 ⟨(Nat.le_of_ble_eq_true rfl), (Nat.le_of_ble_eq_true rfl)⟩) hS (fun m160 H locs hq9 hP hz9 hS => ?_)
            rw [hq9] at hP
            have hP : mw G.1 vwCl B (mu (mu (mu μ md (.inr (4, [.int (nI 0), .ref ab, .ref av, .int (nI st), .ref c1, .ref c2, .ref c3, .ref c4, .ref c5, .ref c6, .ref c7, .ref c8, .ref c9]))) ab (.inl (G.2 0, 3744, .inr (.inl (stf (stf g1 22 (2 * k1) (2 * k1) r72) 22 ((2 * k1) + 1) ((2 * k1) + 1) (-r72)))))) av (.inl (G.2 2, 26, .inl v1))) _ := mw_eq ((mu_c _ _ ((mp_ne hav hab (by simp)))).trans (congrArg (fun z => mu z av (.inl (G.2 2, 26, .inl v1))) (mu_u _ _ _ _))) hP
            refine lv_aload_n hx hb dX4_first_163 rfl (lv_at hl 3 rfl) ?_
            refine lv_bipush (v := nI 22) hx hb dX4_first_164 (by decide) ?_
            refine kc_v (va_runV (As := [.int (nI 22)]) (rest := []) ⟨hx, hb, hml, hown, hts⟩ (m_X4_close l G B (mu (mu (mu μ md (.inr (4, [.int (nI 0), .ref ab, .ref av, .int (nI st), .ref c1, .ref c2, .ref c3, .ref c4, .ref c5, .ref c6, .ref c7, .ref c8, .ref c9]))) ab (.inl (G.2 0, 3744, .inr (.inl (stf (stf g1 22 (2 * k1) (2 * k1) r72) 22 ((2 * k1) + 1) ((2 * k1) + 1) (-r72)))))) av (.inl (G.2 2, 26, .inl v1))) md ab av c1 c2 c3 c4 c5 c6 c7 c8 c9 0 st (stf (stf g1 22 (2 * k1) (2 * k1) r72) 22 ((2 * k1) + 1) ((2 * k1) + 1) (-r72)) v1 22 ((mu_n ne0_2).trans ((mu_n ne0_1).trans (mu_s _ _ _))) ((mu_n ((mp_ne hab hav (by simp)))).trans (mu_s _ _ _)) (mu_s _ _ _) (by omega) ((hs1.st (by omega) (by omega)).st (by omega) (by omega)) hv1) (cwV 1 hts gX4_first_X4_close rfl rfl rfl (by decide +kernel) ⟨Nat.le_of_ble_eq_true rfl, Nat.le_of_ble_eq_true rfl⟩) ⟨KW.blind, hP.recv hK rfl ((mu_n ne0_2).trans ((mu_n ne0_1).trans (mu_s _ _ _))), fun U9 hU9 hW9 => ⟨rfl, KW.pre hBs hKK hS hP U9 hU9 hW9⟩⟩ rfl rfl hl.1 rfl (lv_room (Nat.le_of_ble_eq_true rfl)) dX4_first_166 ⟨(Nat.le_of_ble_eq_true rfl), (Nat.le_of_ble_eq_true rfl)⟩) hS (fun m166 H locs hq9 hP hz9 hS => ?_)
            obtain ⟨g166, w166, he166, hsy166, hvb166⟩ := hq9
            rw [he166] at hP
            have hP : mw G.1 vwCl B (mu (mu (mu μ md (.inr (4, [.int (nI 0), .ref ab, .ref av, .int (nI st), .ref c1, .ref c2, .ref c3, .ref c4, .ref c5, .ref c6, .ref c7, .ref c8, .ref c9]))) ab (.inl (G.2 0, 3744, .inr (.inl g166)))) av (.inl (G.2 2, 26, .inl w166))) _ := mw_eq ((congrArg (fun z => mu z av (.inl (G.2 2, 26, .inl w166))) ((mu_c _ _ ((mp_ne hav hab (by simp)))).trans (congrArg (fun z => mu z av (.inl (G.2 2, 26, .inl v1))) (mu_u _ _ _ _)))).trans (mu_u _ _ _ _)) hP
            refine lv_iinc (v := nI (k1 + 1)) (lv' := [(5, .int (nI (k1 + 1))), (3, .long r72), (8, .long r92), (6, .long r72), (0, .ref md), (1, .int (nI n0)), (2, .int (nI n1))]) hx hb dX4_first_169 hl (k := 6) rfl (nI_add _ _) (by decide) rfl (fun ls hl => ?_)
            refine lv_goto (tgt := 55) hx hb dX4_first_172 (by decide) ?_
            exact ih55 (k1 + 1) n0 n1 r72 g166 w166 (by omega) (by omega) (by omega) (by omega) (hsy166) (hvb166) _ _ hP hS ls (lv_sub hl [4, 5, 6, 1, 0] rfl)
        · refine lv_lload hx hb dX4_first_106 (lv_at hl 0 rfl) ?_
          refine lv_lneg hx hb dX4_first_108 ?_
          refine lv_goto (tgt := 127) hx hb dX4_first_109 (by decide) ?_
          refine lv_topl (fun v127 ev127 => ?_)
          refine lv_lstore_n (lv' := [(3, .long v127), (8, .long r92), (6, .long r72), (0, .ref md), (1, .int (nI n0)), (2, .int (nI n1)), (5, .int (nI k1))]) hx hb dX4_first_127 rfl hl (by decide) rfl (fun ls hl => ?_)
          refine lv_aload_n hx hb dX4_first_128 rfl (lv_at hl 3 rfl) ?_
          refine lv_bipush (v := nI 22) hx hb dX4_first_129 (by decide) ?_
          refine lv_iconst (v := nI 2) hx hb dX4_first_131 (by decide) ?_
          refine lv_iload hx hb dX4_first_132 (lv_at hl 6 rfl) ?_
          refine nv_imul hx hb dX4_first_134 ?_
          refine lv_iconst (v := nI 2) hx hb dX4_first_135 (by decide) ?_
          refine lv_iload hx hb dX4_first_136 (lv_at hl 6 rfl) ?_
          refine nv_imul hx hb dX4_first_138 ?_
          refine lv_lload_n hx hb dX4_first_139 rfl (lv_at hl 0 rfl) ?_
          refine kc_v (va_runV (As := [.int (nI 22), .int (nI (2 * k1)), .int (nI (2 * k1)), .long v127]) (rest := []) ⟨hx, hb, hml, hown, hts⟩ (c_X4_set l G B (mu (mu (mu μ md (.inr (4, [.int (nI 0), .ref ab, .ref av, .int (nI st), .ref c1, .ref c2, .ref c3, .ref c4, .ref c5, .ref c6, .ref c7, .ref c8, .ref c9]))) ab (.inl (G.2 0, 3744, .inr (.inl g1)))) av (.inl (G.2 2, 26, .inl v1))) md ab av c1 c2 c3 c4 c5 c6 c7 c8 c9 0 st g1 v1 22 (2 * k1) (2 * k1) v127 ((mu_n ne0_2).trans ((mu_n ne0_1).trans (mu_s _ _ _))) ((mu_n ((mp_ne hab hav (by simp)))).trans (mu_s _ _ _)) (mu_s _ _ _) (by omega) (by omega) (by omega)) (cwV 4 hts gX4_first_X4_set rfl rfl rfl (by decide +kernel) ⟨Nat.le_of_ble_eq_true rfl, Nat.le_of_ble_eq_true rfl⟩) ⟨KW.blind, hP.recv hK rfl ((mu_n ne0_2).trans ((mu_n ne0_1).trans (mu_s _ _ _))), fun U9 hU9 hW9 => ⟨rfl, KW.pre hBs hKK hS hP U9 hU9 hW9⟩⟩ rfl rfl hl.1 rfl (lv_room (Nat.le_of_ble_eq_true rfl)) dX4_first_140 ⟨(Nat.le_of_ble_eq_true rfl), (Nat.le_of_ble_eq_true rfl)⟩) hS (fun m140 H locs hq9 hP hz9 hS => ?_)
          rw [hq9] at hP
          have hP : mw G.1 vwCl B (mu (mu (mu μ md (.inr (4, [.int (nI 0), .ref ab, .ref av, .int (nI st), .ref c1, .ref c2, .ref c3, .ref c4, .ref c5, .ref c6, .ref c7, .ref c8, .ref c9]))) ab (.inl (G.2 0, 3744, .inr (.inl (stf g1 22 (2 * k1) (2 * k1) v127))))) av (.inl (G.2 2, 26, .inl v1))) _ := mw_eq ((mu_c _ _ ((mp_ne hav hab (by simp)))).trans (congrArg (fun z => mu z av (.inl (G.2 2, 26, .inl v1))) (mu_u _ _ _ _))) hP
          refine lv_aload_n hx hb dX4_first_143 rfl (lv_at hl 3 rfl) ?_
          refine lv_bipush (v := nI 22) hx hb dX4_first_144 (by decide) ?_
          refine lv_iconst (v := nI 2) hx hb dX4_first_146 (by decide) ?_
          refine lv_iload hx hb dX4_first_147 (lv_at hl 6 rfl) ?_
          refine nv_imul hx hb dX4_first_149 ?_
          refine lv_iconst (v := nI 1) hx hb dX4_first_150 (by decide) ?_
          refine nv_iadd hx hb dX4_first_151 ?_
          refine lv_iconst (v := nI 2) hx hb dX4_first_152 (by decide) ?_
          refine lv_iload hx hb dX4_first_153 (lv_at hl 6 rfl) ?_
          refine nv_imul hx hb dX4_first_155 ?_
          refine lv_iconst (v := nI 1) hx hb dX4_first_156 (by decide) ?_
          refine nv_iadd hx hb dX4_first_157 ?_
          refine lv_lload_n hx hb dX4_first_158 rfl (lv_at hl 0 rfl) ?_
          refine lv_lneg hx hb dX4_first_159 ?_
          refine kc_v (va_runV (As := [.int (nI 22), .int (nI ((2 * k1) + 1)), .int (nI ((2 * k1) + 1)), .long (-v127)]) (rest := []) ⟨hx, hb, hml, hown, hts⟩ (c_X4_set l G B (mu (mu (mu μ md (.inr (4, [.int (nI 0), .ref ab, .ref av, .int (nI st), .ref c1, .ref c2, .ref c3, .ref c4, .ref c5, .ref c6, .ref c7, .ref c8, .ref c9]))) ab (.inl (G.2 0, 3744, .inr (.inl (stf g1 22 (2 * k1) (2 * k1) v127))))) av (.inl (G.2 2, 26, .inl v1))) md ab av c1 c2 c3 c4 c5 c6 c7 c8 c9 0 st (stf g1 22 (2 * k1) (2 * k1) v127) v1 22 ((2 * k1) + 1) ((2 * k1) + 1) (-v127) ((mu_n ne0_2).trans ((mu_n ne0_1).trans (mu_s _ _ _))) ((mu_n ((mp_ne hab hav (by simp)))).trans (mu_s _ _ _)) (mu_s _ _ _) (by omega) (by omega) (by omega)) (cwV 4 hts gX4_first_X4_set rfl rfl rfl (by decide +kernel) ⟨Nat.le_of_ble_eq_true rfl, Nat.le_of_ble_eq_true rfl⟩) ⟨KW.blind, hP.recv hK rfl ((mu_n ne0_2).trans ((mu_n ne0_1).trans (mu_s _ _ _))), fun U9 hU9 hW9 => ⟨rfl, KW.pre hBs hKK hS hP U9 hU9 hW9⟩⟩ rfl rfl hl.1 rfl (lv_room (Nat.le_of_ble_eq_true rfl)) dX4_first_160 ⟨(Nat.le_of_ble_eq_true rfl), (Nat.le_of_ble_eq_true rfl)⟩) hS (fun m160 H locs hq9 hP hz9 hS => ?_)
          rw [hq9] at hP
          have hP : mw G.1 vwCl B (mu (mu (mu μ md (.inr (4, [.int (nI 0), .ref ab, .ref av, .int (nI st), .ref c1, .ref c2, .ref c3, .ref c4, .ref c5, .ref c6, .ref c7, .ref c8, .ref c9]))) ab (.inl (G.2 0, 3744, .inr (.inl (stf (stf g1 22 (2 * k1) (2 * k1) v127) 22 ((2 * k1) + 1) ((2 * k1) + 1) (-v127)))))) av (.inl (G.2 2, 26, .inl v1))) _ := mw_eq ((mu_c _ _ ((mp_ne hav hab (by simp)))).trans (congrArg (fun z => mu z av (.inl (G.2 2, 26, .inl v1))) (mu_u _ _ _ _))) hP
          refine lv_aload_n hx hb dX4_first_163 rfl (lv_at hl 3 rfl) ?_
          refine lv_bipush (v := nI 22) hx hb dX4_first_164 (by decide) ?_
          refine kc_v (va_runV (As := [.int (nI 22)]) (rest := []) ⟨hx, hb, hml, hown, hts⟩ (m_X4_close l G B (mu (mu (mu μ md (.inr (4, [.int (nI 0), .ref ab, .ref av, .int (nI st), .ref c1, .ref c2, .ref c3, .ref c4, .ref c5, .ref c6, .ref c7, .ref c8, .ref c9]))) ab (.inl (G.2 0, 3744, .inr (.inl (stf (stf g1 22 (2 * k1) (2 * k1) v127) 22 ((2 * k1) + 1) ((2 * k1) + 1) (-v127)))))) av (.inl (G.2 2, 26, .inl v1))) md ab av c1 c2 c3 c4 c5 c6 c7 c8 c9 0 st (stf (stf g1 22 (2 * k1) (2 * k1) v127) 22 ((2 * k1) + 1) ((2 * k1) + 1) (-v127)) v1 22 ((mu_n ne0_2).trans ((mu_n ne0_1).trans (mu_s _ _ _))) ((mu_n ((mp_ne hab hav (by simp)))).trans (mu_s _ _ _)) (mu_s _ _ _) (by omega) ((hs1.st (by omega) (by omega)).st (by omega) (by omega)) hv1) (cwV 1 hts gX4_first_X4_close rfl rfl rfl (by decide +kernel) ⟨Nat.le_of_ble_eq_true rfl, Nat.le_of_ble_eq_true rfl⟩) ⟨KW.blind, hP.recv hK rfl ((mu_n ne0_2).trans ((mu_n ne0_1).trans (mu_s _ _ _))), fun U9 hU9 hW9 => ⟨rfl, KW.pre hBs hKK hS hP U9 hU9 hW9⟩⟩ rfl rfl hl.1 rfl (lv_room (Nat.le_of_ble_eq_true rfl)) dX4_first_166 ⟨(Nat.le_of_ble_eq_true rfl), (Nat.le_of_ble_eq_true rfl)⟩) hS (fun m166 H locs hq9 hP hz9 hS => ?_)
          obtain ⟨g166, w166, he166, hsy166, hvb166⟩ := hq9
          rw [he166] at hP
          have hP : mw G.1 vwCl B (mu (mu (mu μ md (.inr (4, [.int (nI 0), .ref ab, .ref av, .int (nI st), .ref c1, .ref c2, .ref c3, .ref c4, .ref c5, .ref c6, .ref c7, .ref c8, .ref c9]))) ab (.inl (G.2 0, 3744, .inr (.inl g166)))) av (.inl (G.2 2, 26, .inl w166))) _ := mw_eq ((congrArg (fun z => mu z av (.inl (G.2 2, 26, .inl w166))) ((mu_c _ _ ((mp_ne hav hab (by simp)))).trans (congrArg (fun z => mu z av (.inl (G.2 2, 26, .inl v1))) (mu_u _ _ _ _)))).trans (mu_u _ _ _ _)) hP
          refine lv_iinc (v := nI (k1 + 1)) (lv' := [(5, .int (nI (k1 + 1))), (3, .long v127), (8, .long r92), (6, .long r72), (0, .ref md), (1, .int (nI n0)), (2, .int (nI n1))]) hx hb dX4_first_169 hl (k := 6) rfl (nI_add _ _) (by decide) rfl (fun ls hl => ?_)
          refine lv_goto (tgt := 55) hx hb dX4_first_172 (by decide) ?_
          exact ih55 (k1 + 1) n0 n1 v127 g166 w166 (by omega) (by omega) (by omega) (by omega) (hsy166) (hvb166) _ _ hP hS ls (lv_sub hl [4, 5, 6, 1, 0] rfl)
  have hl := lv_entry ([.ref md, .int x9, .int y9]) (n := 10) (Nat.le_of_ble_eq_true rfl)
  have he9 : entryFrame m args 10 = entryFrame m ([.ref md, .int x9, .int y9] : List Value).toArray 10 := by rw [hargs]
  rw [he9, lg_entry_eq]
  generalize (lg_sl ([.ref md, .int x9, .int y9]) ++ List.replicate (10 - (lg_sl ([.ref md, .int x9, .int y9])).length) Slot.unset).toArray = ls at hl ⊢
  have hl : lv_has ls 10 [(0, .ref md), (1, .int x9), (2, .int y9)] := hl
  refine lv_aload_n hx hb dX4_first_0 rfl (lv_at hl 0 rfl) ?_
  refine lv_iload_n hx hb dX4_first_1 rfl (lv_at hl 1 rfl) ?_
  refine kc_i (va_runS (As := [.int x9]) (rest := [.ref md]) ⟨hx, hb, hml, hown, hts⟩ (c_X4_isSlot l G B (mu (mu (mu μ md (.inr (4, [.int (nI fl), .ref ab, .ref av, .int (nI st), .ref c1, .ref c2, .ref c3, .ref c4, .ref c5, .ref c6, .ref c7, .ref c8, .ref c9]))) ab (.inl (G.2 0, 3744, .inr (.inl f)))) av (.inl (G.2 2, 26, .inl v))) x9) (va_cwS 1 hts gX4_first_X4_isSlot rfl rfl rfl (by decide +kernel) ⟨Nat.le_of_ble_eq_true rfl, Nat.le_of_ble_eq_true rfl⟩) ⟨KW.blind, fun U9 hU9 hW9 => ⟨rfl, KW.pre hBs hKK hS hP U9 hU9 hW9⟩⟩ rfl rfl hl.1 rfl (lv_room (Nat.le_of_ble_eq_true rfl)) dX4_first_2 ⟨(Nat.le_of_ble_eq_true rfl), (Nat.le_of_ble_eq_true rfl)⟩) hS (fun r2 m2 H locs hq9 hP hz9 hS => ?_)
  obtain ⟨he9, hy2⟩ := hq9
  rw [he9] at hP
  refine lv_if_eq (tgt := 17) hx hb dX4_first_5 (by decide) (fun hc5 => ?_) (fun hc5 => ?_)
  · refine lv_iconst (v := nI 1) hx hb dX4_first_17 (by decide) ?_
    refine lv_goto (tgt := 35) hx hb dX4_first_18 (by decide) ?_
    refine kc_i (va_runV (As := [.int (nI 1)]) (rest := []) ⟨hx, hb, hml, hown, hts⟩ (c_X4_refused l G B (mu (mu (mu μ md (.inr (4, [.int (nI fl), .ref ab, .ref av, .int (nI st), .ref c1, .ref c2, .ref c3, .ref c4, .ref c5, .ref c6, .ref c7, .ref c8, .ref c9]))) ab (.inl (G.2 0, 3744, .inr (.inl f)))) av (.inl (G.2 2, 26, .inl v))) md ab av c1 c2 c3 c4 c5 c6 c7 c8 c9 fl st f v 1 ((mu_n ne0_2).trans ((mu_n ne0_1).trans (mu_s _ _ _))) ((mu_n ((mp_ne hab hav (by simp)))).trans (mu_s _ _ _)) (mu_s _ _ _) (by omega)) (cwV 1 hts gX4_first_X4_refused rfl rfl rfl (by decide +kernel) ⟨Nat.le_of_ble_eq_true rfl, Nat.le_of_ble_eq_true rfl⟩) ⟨KW.blind, hP.recv hK rfl ((mu_n ne0_2).trans ((mu_n ne0_1).trans (mu_s _ _ _))), fun U9 hU9 hW9 => ⟨rfl, KW.pre hBs hKK hS hP U9 hU9 hW9⟩⟩ rfl rfl hl.1 rfl (lv_room (Nat.le_of_ble_eq_true rfl)) dX4_first_35 ⟨(Nat.le_of_ble_eq_true rfl), (Nat.le_of_ble_eq_true rfl)⟩) hS (fun r35 m35 H locs hq9 hP hz9 hS => ?_)
    obtain ⟨he9, hw0, hw1⟩ := hq9
    rw [he9] at hP
    have hP : mw G.1 vwCl B (mu (mu (mu μ md (.inr (4, [.int (nI 1), .ref ab, .ref av, .int (nI st), .ref c1, .ref c2, .ref c3, .ref c4, .ref c5, .ref c6, .ref c7, .ref c8, .ref c9]))) ab (.inl (G.2 0, 3744, .inr (.inl f)))) av (.inl (G.2 2, 26, .inl v))) _ := mw_eq ((mu_c _ _ ((Ne.symm ne0_2))).trans (congrArg (fun z => mu z av (.inl (G.2 2, 26, .inl v))) ((mu_c _ _ ((Ne.symm ne0_1))).trans (congrArg (fun z => mu z ab (.inl (G.2 0, 3744, .inr (.inl f)))) (mu_u _ _ _ _))))) hP
    obtain rfl : r35 = nI 1 := hw1 (by decide)
    refine lv_if_eq (tgt := 43) hx hb dX4_first_38 (by decide) (fun hc38 => ?_) (fun hc38 => ?_)
    · exact absurd hc38 (by decide)
    · refine lv_lconst (v := 0) hx hb dX4_first_41 (by decide) ?_
      rw [hQ]
      exact W.lret (v := 0) hx hb hr (fun t99 ht99 hW99 => ⟨⟨0, mu (mu (mu μ md (.inr (4, [.int (nI 1), .ref ab, .ref av, .int (nI st), .ref c1, .ref c2, .ref c3, .ref c4, .ref c5, .ref c6, .ref c7, .ref c8, .ref c9]))) ab (.inl (G.2 0, 3744, .inr (.inl f)))) av (.inl (G.2 2, 26, .inl v)), rfl, (⟨_, _, _, rfl, ⟨hsy, hvb⟩⟩), by show mw _ _ _ _ t99.heap; rw [ht99]; exact hP⟩, hS.F ht99⟩) hS.2.2 dX4_first_42
  · refine lv_iload_n hx hb dX4_first_8 rfl (lv_at hl 2 rfl) ?_
    refine lv_iconst (v := nI 0) hx hb dX4_first_9 (by decide) ?_
    refine lv_iconst (v := nI 5) hx hb dX4_first_10 (by decide) ?_
    refine kc_i (va_runS (As := [.int y9, .int (nI 0), .int (nI 5)]) (rest := [.ref md]) ⟨hx, hb, hml, hown, hts⟩ (c_X4_isIn l G B (mu (mu (mu μ md (.inr (4, [.int (nI fl), .ref ab, .ref av, .int (nI st), .ref c1, .ref c2, .ref c3, .ref c4, .ref c5, .ref c6, .ref c7, .ref c8, .ref c9]))) ab (.inl (G.2 0, 3744, .inr (.inl f)))) av (.inl (G.2 2, 26, .inl v))) y9 (nI 0) (nI 5)) (va_cwS 3 hts gX4_first_X4_isIn rfl rfl rfl (by decide +kernel) ⟨Nat.le_of_ble_eq_true rfl, Nat.le_of_ble_eq_true rfl⟩) ⟨KW.blind, fun U9 hU9 hW9 => ⟨rfl, KW.pre hBs hKK hS hP U9 hU9 hW9⟩⟩ rfl rfl hl.1 rfl (lv_room (Nat.le_of_ble_eq_true rfl)) dX4_first_11 ⟨(Nat.le_of_ble_eq_true rfl), (Nat.le_of_ble_eq_true rfl)⟩) hS (fun r11 m11 H locs hq9 hP hz9 hS => ?_)
    obtain ⟨he9, hy11⟩ := hq9
    rw [he9] at hP
    refine lv_if_ne (tgt := 21) hx hb dX4_first_14 (by decide) (fun hc14 => ?_) (fun hc14 => ?_)
    · have hok : okS x9 ∧ okS y9 := ⟨yn_t hy2 hc5, isI_S.mp (yn_t hy11 hc14)⟩
      obtain ⟨nx9, hnx9, enx9⟩ := ok_nat (n := 6) (by decide) hok.1
      subst enx9
      obtain ⟨ny9, hny9, eny9⟩ := ok_nat (n := 6) (by decide) hok.2
      subst eny9
      refine lv_aload_n hx hb dX4_first_21 rfl (lv_at hl 0 rfl) ?_
      refine mw_get (C := RX4) (T := TX4) (N := 13) hx hb hts in_X4_first_X4 hown hK hP ((mu_n ne0_2).trans ((mu_n ne0_1).trans (mu_s _ _ _))) rfl 2 (by decide) (hts (.fieldLink RX4 13 "OctagonDeskModel" "isVoid" "[Z") (by decide +kernel)) (fun _ h9 => h9) rfl dX4_first_22 ?_
      refine lv_iload_n hx hb dX4_first_25 rfl (lv_at hl 1 rfl) ?_
      refine mw_zald hx hb hK hP 2 (mu_s _ _ _) rfl (by omega) (by omega) dX4_first_26 ?_
      refine lv_if_eq (tgt := 34) hx hb dX4_first_27 (by decide) (fun hc27 => ?_) (fun hc27 => ?_)
      · refine lv_iconst (v := nI 0) hx hb dX4_first_34 (by decide) ?_
        refine kc_i (va_runV (As := [.int (nI 0)]) (rest := []) ⟨hx, hb, hml, hown, hts⟩ (c_X4_refused l G B (mu (mu (mu μ md (.inr (4, [.int (nI fl), .ref ab, .ref av, .int (nI st), .ref c1, .ref c2, .ref c3, .ref c4, .ref c5, .ref c6, .ref c7, .ref c8, .ref c9]))) ab (.inl (G.2 0, 3744, .inr (.inl f)))) av (.inl (G.2 2, 26, .inl v))) md ab av c1 c2 c3 c4 c5 c6 c7 c8 c9 fl st f v 0 ((mu_n ne0_2).trans ((mu_n ne0_1).trans (mu_s _ _ _))) ((mu_n ((mp_ne hab hav (by simp)))).trans (mu_s _ _ _)) (mu_s _ _ _) (by omega)) (cwV 1 hts gX4_first_X4_refused rfl rfl rfl (by decide +kernel) ⟨Nat.le_of_ble_eq_true rfl, Nat.le_of_ble_eq_true rfl⟩) ⟨KW.blind, hP.recv hK rfl ((mu_n ne0_2).trans ((mu_n ne0_1).trans (mu_s _ _ _))), fun U9 hU9 hW9 => ⟨rfl, KW.pre hBs hKK hS hP U9 hU9 hW9⟩⟩ rfl rfl hl.1 rfl (lv_room (Nat.le_of_ble_eq_true rfl)) dX4_first_35 ⟨(Nat.le_of_ble_eq_true rfl), (Nat.le_of_ble_eq_true rfl)⟩) hS (fun r35 m35 H locs hq9 hP hz9 hS => ?_)
        obtain ⟨he9, hw0, hw1⟩ := hq9
        rw [he9] at hP
        have hP : mw G.1 vwCl B (mu (mu (mu μ md (.inr (4, [.int (nI 0), .ref ab, .ref av, .int (nI st), .ref c1, .ref c2, .ref c3, .ref c4, .ref c5, .ref c6, .ref c7, .ref c8, .ref c9]))) ab (.inl (G.2 0, 3744, .inr (.inl f)))) av (.inl (G.2 2, 26, .inl v))) _ := mw_eq ((mu_c _ _ ((Ne.symm ne0_2))).trans (congrArg (fun z => mu z av (.inl (G.2 2, 26, .inl v))) ((mu_c _ _ ((Ne.symm ne0_1))).trans (congrArg (fun z => mu z ab (.inl (G.2 0, 3744, .inr (.inl f)))) (mu_u _ _ _ _))))) hP
        obtain rfl : r35 = nI 0 := hw0 rfl
        refine lv_if_eq (tgt := 43) hx hb dX4_first_38 (by decide) (fun hc38 => ?_) (fun hc38 => ?_)
        · refine lv_aload_n hx hb dX4_first_43 rfl (lv_at hl 0 rfl) ?_
          refine lv_bipush (v := nI 22) hx hb dX4_first_44 (by decide) ?_
          refine lv_iload_n hx hb dX4_first_46 rfl (lv_at hl 1 rfl) ?_
          refine kc_v (va_runV (As := [.int (nI 22), .int (nI nx9)]) (rest := []) ⟨hx, hb, hml, hown, hts⟩ (c_X4_load l G B (mu (mu (mu μ md (.inr (4, [.int (nI 0), .ref ab, .ref av, .int (nI st), .ref c1, .ref c2, .ref c3, .ref c4, .ref c5, .ref c6, .ref c7, .ref c8, .ref c9]))) ab (.inl (G.2 0, 3744, .inr (.inl f)))) av (.inl (G.2 2, 26, .inl v))) md ab av c1 c2 c3 c4 c5 c6 c7 c8 c9 0 st f v 22 nx9 ((mu_n ne0_2).trans ((mu_n ne0_1).trans (mu_s _ _ _))) ((mu_n ((mp_ne hab hav (by simp)))).trans (mu_s _ _ _)) (mu_s _ _ _) (by omega) (by omega) (hvb nx9)) (cwV 2 hts gX4_first_X4_load rfl rfl rfl (by decide +kernel) ⟨Nat.le_of_ble_eq_true rfl, Nat.le_of_ble_eq_true rfl⟩) ⟨KW.blind, hP.recv hK rfl ((mu_n ne0_2).trans ((mu_n ne0_1).trans (mu_s _ _ _))), fun U9 hU9 hW9 => ⟨rfl, KW.pre hBs hKK hS hP U9 hU9 hW9⟩⟩ rfl rfl hl.1 rfl (lv_room (Nat.le_of_ble_eq_true rfl)) dX4_first_47 ⟨(Nat.le_of_ble_eq_true rfl), (Nat.le_of_ble_eq_true rfl)⟩) hS (fun m47 H locs hq9 hP hz9 hS => ?_)
          obtain ⟨g47, he47, hL47⟩ := hq9
          rw [he47] at hP
          have hP : mw G.1 vwCl B (mu (mu (mu μ md (.inr (4, [.int (nI 0), .ref ab, .ref av, .int (nI st), .ref c1, .ref c2, .ref c3, .ref c4, .ref c5, .ref c6, .ref c7, .ref c8, .ref c9]))) ab (.inl (G.2 0, 3744, .inr (.inl g47)))) av (.inl (G.2 2, 26, .inl (upd v 22 (v nx9))))) _ := mw_eq ((congrArg (fun z => mu z av (.inl (G.2 2, 26, .inl (upd v 22 (v nx9))))) ((mu_c _ _ ((mp_ne hav hab (by simp)))).trans (congrArg (fun z => mu z av (.inl (G.2 2, 26, .inl v))) (mu_u _ _ _ _)))).trans (mu_u _ _ _ _)) hP
          refine lv_lconst (v := 0) hx hb dX4_first_50 (by decide) ?_
          refine lv_lstore_n (lv' := [(3, .long 0), (0, .ref md), (1, .int (nI nx9)), (2, .int (nI ny9))]) hx hb dX4_first_51 rfl hl (by decide) rfl (fun ls hl => ?_)
          refine lv_iconst (v := nI 0) hx hb dX4_first_52 (by decide) ?_
          refine lv_istore (lv' := [(5, .int (nI 0)), (3, .long 0), (0, .ref md), (1, .int (nI nx9)), (2, .int (nI ny9))]) hx hb dX4_first_53 hl (by decide) rfl (fun ls hl => ?_)
          exact L55 _ 0 nx9 ny9 0 g47 (upd v 22 (v nx9)) (Nat.lt_succ_self _) (by omega) (by omega) (by omega) ((hsy.ld hL47 (by omega))) ((VB.u hvb (hvb nx9))) _ _ hP hS ls (lv_sub hl [2, 3, 4, 1, 0] rfl)
        · exact absurd rfl hc38
      · refine lv_iconst (v := nI 2) hx hb dX4_first_30 (by decide) ?_
        refine lv_goto (tgt := 35) hx hb dX4_first_31 (by decide) ?_
        refine kc_i (va_runV (As := [.int (nI 2)]) (rest := []) ⟨hx, hb, hml, hown, hts⟩ (c_X4_refused l G B (mu (mu (mu μ md (.inr (4, [.int (nI fl), .ref ab, .ref av, .int (nI st), .ref c1, .ref c2, .ref c3, .ref c4, .ref c5, .ref c6, .ref c7, .ref c8, .ref c9]))) ab (.inl (G.2 0, 3744, .inr (.inl f)))) av (.inl (G.2 2, 26, .inl v))) md ab av c1 c2 c3 c4 c5 c6 c7 c8 c9 fl st f v 2 ((mu_n ne0_2).trans ((mu_n ne0_1).trans (mu_s _ _ _))) ((mu_n ((mp_ne hab hav (by simp)))).trans (mu_s _ _ _)) (mu_s _ _ _) (by omega)) (cwV 1 hts gX4_first_X4_refused rfl rfl rfl (by decide +kernel) ⟨Nat.le_of_ble_eq_true rfl, Nat.le_of_ble_eq_true rfl⟩) ⟨KW.blind, hP.recv hK rfl ((mu_n ne0_2).trans ((mu_n ne0_1).trans (mu_s _ _ _))), fun U9 hU9 hW9 => ⟨rfl, KW.pre hBs hKK hS hP U9 hU9 hW9⟩⟩ rfl rfl hl.1 rfl (lv_room (Nat.le_of_ble_eq_true rfl)) dX4_first_35 ⟨(Nat.le_of_ble_eq_true rfl), (Nat.le_of_ble_eq_true rfl)⟩) hS (fun r35 m35 H locs hq9 hP hz9 hS => ?_)
        obtain ⟨he9, hw0, hw1⟩ := hq9
        rw [he9] at hP
        have hP : mw G.1 vwCl B (mu (mu (mu μ md (.inr (4, [.int (nI 2), .ref ab, .ref av, .int (nI st), .ref c1, .ref c2, .ref c3, .ref c4, .ref c5, .ref c6, .ref c7, .ref c8, .ref c9]))) ab (.inl (G.2 0, 3744, .inr (.inl f)))) av (.inl (G.2 2, 26, .inl v))) _ := mw_eq ((mu_c _ _ ((Ne.symm ne0_2))).trans (congrArg (fun z => mu z av (.inl (G.2 2, 26, .inl v))) ((mu_c _ _ ((Ne.symm ne0_1))).trans (congrArg (fun z => mu z ab (.inl (G.2 0, 3744, .inr (.inl f)))) (mu_u _ _ _ _))))) hP
        obtain rfl : r35 = nI 1 := hw1 (by decide)
        refine lv_if_eq (tgt := 43) hx hb dX4_first_38 (by decide) (fun hc38 => ?_) (fun hc38 => ?_)
        · exact absurd hc38 (by decide)
        · refine lv_lconst (v := 0) hx hb dX4_first_41 (by decide) ?_
          rw [hQ]
          exact W.lret (v := 0) hx hb hr (fun t99 ht99 hW99 => ⟨⟨0, mu (mu (mu μ md (.inr (4, [.int (nI 2), .ref ab, .ref av, .int (nI st), .ref c1, .ref c2, .ref c3, .ref c4, .ref c5, .ref c6, .ref c7, .ref c8, .ref c9]))) ab (.inl (G.2 0, 3744, .inr (.inl f)))) av (.inl (G.2 2, 26, .inl v)), rfl, (⟨_, _, _, rfl, ⟨hsy, hvb⟩⟩), by show mw _ _ _ _ t99.heap; rw [ht99]; exact hP⟩, hS.F ht99⟩) hS.2.2 dX4_first_42
    · refine lv_iconst (v := nI 1) hx hb dX4_first_17 (by decide) ?_
      refine lv_goto (tgt := 35) hx hb dX4_first_18 (by decide) ?_
      refine kc_i (va_runV (As := [.int (nI 1)]) (rest := []) ⟨hx, hb, hml, hown, hts⟩ (c_X4_refused l G B (mu (mu (mu μ md (.inr (4, [.int (nI fl), .ref ab, .ref av, .int (nI st), .ref c1, .ref c2, .ref c3, .ref c4, .ref c5, .ref c6, .ref c7, .ref c8, .ref c9]))) ab (.inl (G.2 0, 3744, .inr (.inl f)))) av (.inl (G.2 2, 26, .inl v))) md ab av c1 c2 c3 c4 c5 c6 c7 c8 c9 fl st f v 1 ((mu_n ne0_2).trans ((mu_n ne0_1).trans (mu_s _ _ _))) ((mu_n ((mp_ne hab hav (by simp)))).trans (mu_s _ _ _)) (mu_s _ _ _) (by omega)) (cwV 1 hts gX4_first_X4_refused rfl rfl rfl (by decide +kernel) ⟨Nat.le_of_ble_eq_true rfl, Nat.le_of_ble_eq_true rfl⟩) ⟨KW.blind, hP.recv hK rfl ((mu_n ne0_2).trans ((mu_n ne0_1).trans (mu_s _ _ _))), fun U9 hU9 hW9 => ⟨rfl, KW.pre hBs hKK hS hP U9 hU9 hW9⟩⟩ rfl rfl hl.1 rfl (lv_room (Nat.le_of_ble_eq_true rfl)) dX4_first_35 ⟨(Nat.le_of_ble_eq_true rfl), (Nat.le_of_ble_eq_true rfl)⟩) hS (fun r35 m35 H locs hq9 hP hz9 hS => ?_)
      obtain ⟨he9, hw0, hw1⟩ := hq9
      rw [he9] at hP
      have hP : mw G.1 vwCl B (mu (mu (mu μ md (.inr (4, [.int (nI 1), .ref ab, .ref av, .int (nI st), .ref c1, .ref c2, .ref c3, .ref c4, .ref c5, .ref c6, .ref c7, .ref c8, .ref c9]))) ab (.inl (G.2 0, 3744, .inr (.inl f)))) av (.inl (G.2 2, 26, .inl v))) _ := mw_eq ((mu_c _ _ ((Ne.symm ne0_2))).trans (congrArg (fun z => mu z av (.inl (G.2 2, 26, .inl v))) ((mu_c _ _ ((Ne.symm ne0_1))).trans (congrArg (fun z => mu z ab (.inl (G.2 0, 3744, .inr (.inl f)))) (mu_u _ _ _ _))))) hP
      obtain rfl : r35 = nI 1 := hw1 (by decide)
      refine lv_if_eq (tgt := 43) hx hb dX4_first_38 (by decide) (fun hc38 => ?_) (fun hc38 => ?_)
      · exact absurd hc38 (by decide)
      · refine lv_lconst (v := 0) hx hb dX4_first_41 (by decide) ?_
        rw [hQ]
        exact W.lret (v := 0) hx hb hr (fun t99 ht99 hW99 => ⟨⟨0, mu (mu (mu μ md (.inr (4, [.int (nI 1), .ref ab, .ref av, .int (nI st), .ref c1, .ref c2, .ref c3, .ref c4, .ref c5, .ref c6, .ref c7, .ref c8, .ref c9]))) ab (.inl (G.2 0, 3744, .inr (.inl f)))) av (.inl (G.2 2, 26, .inl v)), rfl, (⟨_, _, _, rfl, ⟨hsy, hvb⟩⟩), by show mw _ _ _ _ t99.heap; rw [ht99]; exact hP⟩, hS.F ht99⟩) hS.2.2 dX4_first_42

abbrev rn_X4_step : Room := { frames := 3, cells := 0, slots := 0, locals := 65 }
set_option maxHeartbeats 4000000 in
set_option maxRecDepth 100000 in
theorem m_X4_step (l : Launch) (G : GG) (B : Nat) (μ : mp) (md ab av c1 c2 c3 c4 c5 c6 c7 c8 c9 fl st : Nat) (f : Nat → Int64) (v : Nat → Int32) (i1 i2 i3 i4 i5 i6 : Nat → Int32) (x9 k9 a9 b9 y9 : Int32) (hm : μ md = some (.inr (4, [.int (nI fl), .ref ab, .ref av, .int (nI st), .ref c1, .ref c2, .ref c3, .ref c4, .ref c5, .ref c6, .ref c7, .ref c8, .ref c9]))) (hab : μ ab = some (.inl (G.2 0, 3744, .inr (.inl f)))) (hav : μ av = some (.inl (G.2 2, 26, .inl v))) (hc_1 : μ c1 = some (.inl (G.2 1, 20, .inl i1))) (hc_2 : μ c2 = some (.inl (G.2 1, 20, .inl i2))) (hc_3 : μ c3 = some (.inl (G.2 1, 20, .inl i3))) (hc_4 : μ c4 = some (.inl (G.2 1, 20, .inl i4))) (hc_5 : μ c5 = some (.inl (G.2 1, 20, .inl i5))) (hc_6 : μ c6 = some (.inl (G.2 1, 20, .inl i6))) (hst : st ≤ 20) (hSM : SM i1 i2 i3 i4 i5 i6 st) (n12 : c1 ≠ c2) (n13 : c1 ≠ c3) (n14 : c1 ≠ c4) (n15 : c1 ≠ c5) (n16 : c1 ≠ c6) (n23 : c2 ≠ c3) (n24 : c2 ≠ c4) (n25 : c2 ≠ c5) (n26 : c2 ≠ c6) (n34 : c3 ≠ c4) (n35 : c3 ≠ c5) (n36 : c3 ≠ c6) (n45 : c4 ≠ c5) (n46 : c4 ≠ c6) (n56 : c5 ≠ c6) : Met l yX4_step wsX4_step rn_X4_step (va_Pc [.ref md, .int x9, .int k9, .int a9, .int b9, .int y9] (KW G B μ)) (va_Qi (fun r μ2 => ∃ (fl9 st9 : Nat) (j1 j2 j3 j4 j5 j6 : Nat → Int32), μ2 = mu (mu (mu (mu (mu (mu (mu μ md (.inr (4, [.int (nI fl9), .ref ab, .ref av, .int (nI st9), .ref c1, .ref c2, .ref c3, .ref c4, .ref c5, .ref c6, .ref c7, .ref c8, .ref c9]))) c1 (.inl (G.2 1, 20, .inl j1))) c2 (.inl (G.2 1, 20, .inl j2))) c3 (.inl (G.2 1, 20, .inl j3))) c4 (.inl (G.2 1, 20, .inl j4))) c5 (.inl (G.2 1, 20, .inl j5))) c6 (.inl (G.2 1, 20, .inl j6)) ∧ (st9 ≤ 20 ∧ SM j1 j2 j3 j4 j5 j6 st9) ∧ ((fl9 = 0 ∧ (okW x9 ∧ okA k9 a9 b9 y9) ∧ st < 20 ∧ st9 = st + 1 ∧ r = nI st) ∨ (fl9 = 1 ∧ ¬ (okW x9 ∧ okA k9 a9 b9 y9) ∧ st9 = st) ∨ (fl9 = 2 ∧ (okW x9 ∧ okA k9 a9 b9 y9) ∧ st = 20 ∧ st9 = st))) (BB G B) (fun q => B ≤ q)) 0 0 (fun q => B ≤ q) := by
  refine Met.ofW (cc := cX4_step) (maxL := 6) (ret := (some .int)) (by decide) rfl ?_
  intro p e s m args below meth c s₁ B9 hml hv
  obtain ⟨hargs, hBs, hP, hKK⟩ := hv
  have hx := B9.exec
  have hb := B9.bytes
  have hr := B9.returns
  have hts := atoms_spec (ws := wsX4_step) B9.pre
  have hown : s.vm.findClass RX4 = some m.cls := findClass_of_methodNamed B9.named
  have hlocks := B9.notSynchronized
  have hK := hKK.k
  have hS : va_S (fun q => B ≤ q) s.heap s.heap [] := va_S.rf
  obtain ⟨Q, hQ⟩ : ∃ Q, Q = MQ below (va_Qi (fun r μ2 => ∃ (fl9 st9 : Nat) (j1 j2 j3 j4 j5 j6 : Nat → Int32), μ2 = mu (mu (mu (mu (mu (mu (mu μ md (.inr (4, [.int (nI fl9), .ref ab, .ref av, .int (nI st9), .ref c1, .ref c2, .ref c3, .ref c4, .ref c5, .ref c6, .ref c7, .ref c8, .ref c9]))) c1 (.inl (G.2 1, 20, .inl j1))) c2 (.inl (G.2 1, 20, .inl j2))) c3 (.inl (G.2 1, 20, .inl j3))) c4 (.inl (G.2 1, 20, .inl j4))) c5 (.inl (G.2 1, 20, .inl j5))) c6 (.inl (G.2 1, 20, .inl j6)) ∧ (st9 ≤ 20 ∧ SM j1 j2 j3 j4 j5 j6 st9) ∧ ((fl9 = 0 ∧ (okW x9 ∧ okA k9 a9 b9 y9) ∧ st < 20 ∧ st9 = st + 1 ∧ r = nI st) ∨ (fl9 = 1 ∧ ¬ (okW x9 ∧ okA k9 a9 b9 y9) ∧ st9 = st) ∨ (fl9 = 2 ∧ (okW x9 ∧ okA k9 a9 b9 y9) ∧ st = 20 ∧ st9 = st))) (BB G B) (fun q => B ≤ q)) args s 0 0 (fun q => B ≤ q) := ⟨_, rfl⟩
  rw [← hQ]
  have ne0_1 : md ≠ ab := mp_ne hm hab (by simp)
  have ne0_2 : md ≠ av := mp_ne hm hav (by simp)
  have ne0_3 : md ≠ c1 := mp_ne hm hc_1 (by simp)
  have ne0_4 : md ≠ c2 := mp_ne hm hc_2 (by simp)
  have ne0_5 : md ≠ c3 := mp_ne hm hc_3 (by simp)
  have ne0_6 : md ≠ c4 := mp_ne hm hc_4 (by simp)
  have ne0_7 : md ≠ c5 := mp_ne hm hc_5 (by simp)
  have ne0_8 : md ≠ c6 := mp_ne hm hc_6 (by simp)
  have in_X4_step_X4 : ∀ w ∈ wsX40, w ∈ wsX4_step := by decide +kernel
  have hP : mw G.1 vwCl B (mu (mu (mu (mu (mu (mu (mu μ md (.inr (4, [.int (nI fl), .ref ab, .ref av, .int (nI st), .ref c1, .ref c2, .ref c3, .ref c4, .ref c5, .ref c6, .ref c7, .ref c8, .ref c9]))) c1 (.inl (G.2 1, 20, .inl i1))) c2 (.inl (G.2 1, 20, .inl i2))) c3 (.inl (G.2 1, 20, .inl i3))) c4 (.inl (G.2 1, 20, .inl i4))) c5 (.inl (G.2 1, 20, .inl i5))) c6 (.inl (G.2 1, 20, .inl i6))) s.heap := mw_eq ((congrArg (fun z => mu z c6 (.inl (G.2 1, 20, .inl i6))) ((congrArg (fun z => mu z c5 (.inl (G.2 1, 20, .inl i5))) ((congrArg (fun z => mu z c4 (.inl (G.2 1, 20, .inl i4))) ((congrArg (fun z => mu z c3 (.inl (G.2 1, 20, .inl i3))) ((congrArg (fun z => mu z c2 (.inl (G.2 1, 20, .inl i2))) ((congrArg (fun z => mu z c1 (.inl (G.2 1, 20, .inl i1))) (mu_i hm)).trans (mu_i hc_1))).trans (mu_i hc_2))).trans (mu_i hc_3))).trans (mu_i hc_4))).trans (mu_i hc_5))).trans (mu_i hc_6)).symm hP
  have hl := lv_entry ([.ref md, .int x9, .int k9, .int a9, .int b9, .int y9]) (n := 6) (Nat.le_of_ble_eq_true rfl)
  have he9 : entryFrame m args 6 = entryFrame m ([.ref md, .int x9, .int k9, .int a9, .int b9, .int y9] : List Value).toArray 6 := by rw [hargs]
  rw [he9, lg_entry_eq]
  generalize (lg_sl ([.ref md, .int x9, .int k9, .int a9, .int b9, .int y9]) ++ List.replicate (6 - (lg_sl ([.ref md, .int x9, .int k9, .int a9, .int b9, .int y9])).length) Slot.unset).toArray = ls at hl ⊢
  have hl : lv_has ls 6 [(0, .ref md), (1, .int x9), (2, .int k9), (3, .int a9), (4, .int b9), (5, .int y9)] := hl
  refine lv_aload_n hx hb dX4_step_0 rfl (lv_at hl 0 rfl) ?_
  refine lv_iload_n hx hb dX4_step_1 rfl (lv_at hl 1 rfl) ?_
  refine lv_iconst (v := nI 0) hx hb dX4_step_2 (by decide) ?_
  refine lv_bipush (v := nI 63) hx hb dX4_step_3 (by decide) ?_
  refine kc_i (va_runS (As := [.int x9, .int (nI 0), .int (nI 63)]) (rest := [.ref md]) ⟨hx, hb, hml, hown, hts⟩ (c_X4_isIn l G B (mu (mu (mu (mu (mu (mu (mu μ md (.inr (4, [.int (nI fl), .ref ab, .ref av, .int (nI st), .ref c1, .ref c2, .ref c3, .ref c4, .ref c5, .ref c6, .ref c7, .ref c8, .ref c9]))) c1 (.inl (G.2 1, 20, .inl i1))) c2 (.inl (G.2 1, 20, .inl i2))) c3 (.inl (G.2 1, 20, .inl i3))) c4 (.inl (G.2 1, 20, .inl i4))) c5 (.inl (G.2 1, 20, .inl i5))) c6 (.inl (G.2 1, 20, .inl i6))) x9 (nI 0) (nI 63)) (va_cwS 3 hts gX4_step_X4_isIn rfl rfl rfl (by decide +kernel) ⟨Nat.le_of_ble_eq_true rfl, Nat.le_of_ble_eq_true rfl⟩) ⟨KW.blind, fun U9 hU9 hW9 => ⟨rfl, KW.pre hBs hKK hS hP U9 hU9 hW9⟩⟩ rfl rfl hl.1 rfl (lv_room (Nat.le_of_ble_eq_true rfl)) dX4_step_5 ⟨(Nat.le_of_ble_eq_true rfl), (Nat.le_of_ble_eq_true rfl)⟩) hS (fun r5 m5 H locs hq9 hP hz9 hS => ?_)
  obtain ⟨he9, hy5⟩ := hq9
  rw [he9] at hP
  refine lv_if_eq (tgt := 23) hx hb dX4_step_8 (by decide) (fun hc8 => ?_) (fun hc8 => ?_)
  · refine lv_iconst (v := nI 1) hx hb dX4_step_23 (by decide) ?_
    refine lv_goto (tgt := 41) hx hb dX4_step_24 (by decide) ?_
    refine kc_i (va_runV (As := [.int (nI 1)]) (rest := []) ⟨hx, hb, hml, hown, hts⟩ (c_X4_refused l G B (mu (mu (mu (mu (mu (mu (mu μ md (.inr (4, [.int (nI fl), .ref ab, .ref av, .int (nI st), .ref c1, .ref c2, .ref c3, .ref c4, .ref c5, .ref c6, .ref c7, .ref c8, .ref c9]))) c1 (.inl (G.2 1, 20, .inl i1))) c2 (.inl (G.2 1, 20, .inl i2))) c3 (.inl (G.2 1, 20, .inl i3))) c4 (.inl (G.2 1, 20, .inl i4))) c5 (.inl (G.2 1, 20, .inl i5))) c6 (.inl (G.2 1, 20, .inl i6))) md ab av c1 c2 c3 c4 c5 c6 c7 c8 c9 fl st f v 1 ((mu_n ne0_8).trans ((mu_n ne0_7).trans ((mu_n ne0_6).trans ((mu_n ne0_5).trans ((mu_n ne0_4).trans ((mu_n ne0_3).trans (mu_s _ _ _))))))) ((mu_n ((mp_ne hab hc_6 (by simp)))).trans ((mu_n ((mp_ne hab hc_5 (by simp)))).trans ((mu_n ((mp_ne hab hc_4 (by simp)))).trans ((mu_n ((mp_ne hab hc_3 (by simp)))).trans ((mu_n ((mp_ne hab hc_2 (by simp)))).trans ((mu_n ((mp_ne hab hc_1 (by simp)))).trans ((mu_n ((Ne.symm ne0_1))).trans (hab)))))))) ((mu_n ((mp_ne hav hc_6 (by simp)))).trans ((mu_n ((mp_ne hav hc_5 (by simp)))).trans ((mu_n ((mp_ne hav hc_4 (by simp)))).trans ((mu_n ((mp_ne hav hc_3 (by simp)))).trans ((mu_n ((mp_ne hav hc_2 (by simp)))).trans ((mu_n ((mp_ne hav hc_1 (by simp)))).trans ((mu_n ((Ne.symm ne0_2))).trans (hav)))))))) (by omega)) (cwV 1 hts gX4_step_X4_refused rfl rfl rfl (by decide +kernel) ⟨Nat.le_of_ble_eq_true rfl, Nat.le_of_ble_eq_true rfl⟩) ⟨KW.blind, hP.recv hK rfl ((mu_n ne0_8).trans ((mu_n ne0_7).trans ((mu_n ne0_6).trans ((mu_n ne0_5).trans ((mu_n ne0_4).trans ((mu_n ne0_3).trans (mu_s _ _ _))))))), fun U9 hU9 hW9 => ⟨rfl, KW.pre hBs hKK hS hP U9 hU9 hW9⟩⟩ rfl rfl hl.1 rfl (lv_room (Nat.le_of_ble_eq_true rfl)) dX4_step_41 ⟨(Nat.le_of_ble_eq_true rfl), (Nat.le_of_ble_eq_true rfl)⟩) hS (fun r41 m41 H locs hq9 hP hz9 hS => ?_)
    obtain ⟨he9, hw0, hw1⟩ := hq9
    rw [he9] at hP
    have hP : mw G.1 vwCl B (mu (mu (mu (mu (mu (mu (mu μ md (.inr (4, [.int (nI 1), .ref ab, .ref av, .int (nI st), .ref c1, .ref c2, .ref c3, .ref c4, .ref c5, .ref c6, .ref c7, .ref c8, .ref c9]))) c1 (.inl (G.2 1, 20, .inl i1))) c2 (.inl (G.2 1, 20, .inl i2))) c3 (.inl (G.2 1, 20, .inl i3))) c4 (.inl (G.2 1, 20, .inl i4))) c5 (.inl (G.2 1, 20, .inl i5))) c6 (.inl (G.2 1, 20, .inl i6))) _ := mw_eq ((mu_c _ _ ((Ne.symm ne0_8))).trans (congrArg (fun z => mu z c6 (.inl (G.2 1, 20, .inl i6))) ((mu_c _ _ ((Ne.symm ne0_7))).trans (congrArg (fun z => mu z c5 (.inl (G.2 1, 20, .inl i5))) ((mu_c _ _ ((Ne.symm ne0_6))).trans (congrArg (fun z => mu z c4 (.inl (G.2 1, 20, .inl i4))) ((mu_c _ _ ((Ne.symm ne0_5))).trans (congrArg (fun z => mu z c3 (.inl (G.2 1, 20, .inl i3))) ((mu_c _ _ ((Ne.symm ne0_4))).trans (congrArg (fun z => mu z c2 (.inl (G.2 1, 20, .inl i2))) ((mu_c _ _ ((Ne.symm ne0_3))).trans (congrArg (fun z => mu z c1 (.inl (G.2 1, 20, .inl i1))) (mu_u _ _ _ _))))))))))))) hP
    obtain rfl : r41 = nI 1 := hw1 (by decide)
    refine lv_if_eq (tgt := 49) hx hb dX4_step_44 (by decide) (fun hc44 => ?_) (fun hc44 => ?_)
    · exact absurd hc44 (by decide)
    · refine lv_iconst (v := nI 0) hx hb dX4_step_47 (by decide) ?_
      rw [hQ]
      exact W.iret (v := nI 0) hx hb hr (fun t99 ht99 hW99 => ⟨⟨nI 0, mu (mu (mu (mu (mu (mu (mu μ md (.inr (4, [.int (nI 1), .ref ab, .ref av, .int (nI st), .ref c1, .ref c2, .ref c3, .ref c4, .ref c5, .ref c6, .ref c7, .ref c8, .ref c9]))) c1 (.inl (G.2 1, 20, .inl i1))) c2 (.inl (G.2 1, 20, .inl i2))) c3 (.inl (G.2 1, 20, .inl i3))) c4 (.inl (G.2 1, 20, .inl i4))) c5 (.inl (G.2 1, 20, .inl i5))) c6 (.inl (G.2 1, 20, .inl i6)), rfl, (⟨_, _, _, _, _, _, _, _, rfl, ⟨hst, hSM⟩, Or.inr (Or.inl ⟨rfl, fun h9 => by first | exact yn_f hy5 hc8 (isI_W.mpr h9.1) | exact yn_f hy17 hc20 h9.2, rfl⟩)⟩), by show mw _ _ _ _ t99.heap; rw [ht99]; exact hP⟩, hS.F ht99⟩) hS.2.2 dX4_step_48
  · refine lv_iload_n hx hb dX4_step_11 rfl (lv_at hl 2 rfl) ?_
    refine lv_iload_n hx hb dX4_step_12 rfl (lv_at hl 3 rfl) ?_
    refine lv_iload hx hb dX4_step_13 (lv_at hl 4 rfl) ?_
    refine lv_iload hx hb dX4_step_15 (lv_at hl 5 rfl) ?_
    refine kc_i (va_runS (As := [.int k9, .int a9, .int b9, .int y9]) (rest := [.ref md]) ⟨hx, hb, hml, hown, hts⟩ (c_X4_isAction l G B (mu (mu (mu (mu (mu (mu (mu μ md (.inr (4, [.int (nI fl), .ref ab, .ref av, .int (nI st), .ref c1, .ref c2, .ref c3, .ref c4, .ref c5, .ref c6, .ref c7, .ref c8, .ref c9]))) c1 (.inl (G.2 1, 20, .inl i1))) c2 (.inl (G.2 1, 20, .inl i2))) c3 (.inl (G.2 1, 20, .inl i3))) c4 (.inl (G.2 1, 20, .inl i4))) c5 (.inl (G.2 1, 20, .inl i5))) c6 (.inl (G.2 1, 20, .inl i6))) k9 a9 b9 y9) (va_cwS 4 hts gX4_step_X4_isAction rfl rfl rfl (by decide +kernel) ⟨Nat.le_of_ble_eq_true rfl, Nat.le_of_ble_eq_true rfl⟩) ⟨KW.blind, fun U9 hU9 hW9 => ⟨rfl, KW.pre hBs hKK hS hP U9 hU9 hW9⟩⟩ rfl rfl hl.1 rfl (lv_room (Nat.le_of_ble_eq_true rfl)) dX4_step_17 ⟨(Nat.le_of_ble_eq_true rfl), (Nat.le_of_ble_eq_true rfl)⟩) hS (fun r17 m17 H locs hq9 hP hz9 hS => ?_)
    obtain ⟨he9, hy17⟩ := hq9
    rw [he9] at hP
    refine lv_if_ne (tgt := 27) hx hb dX4_step_20 (by decide) (fun hc20 => ?_) (fun hc20 => ?_)
    · have hok : okW x9 ∧ okA k9 a9 b9 y9 := ⟨isI_W.mp (yn_t hy5 hc8), yn_t hy17 hc20⟩
      obtain ⟨nx9, hnx9, enx9⟩ := ok_nat (n := 64) (by decide) hok.1
      subst enx9
      refine lv_aload_n hx hb dX4_step_27 rfl (lv_at hl 0 rfl) ?_
      refine mw_get (C := RX4) (T := TX4) (N := 13) hx hb hts in_X4_step_X4 hown hK hP ((mu_n ne0_8).trans ((mu_n ne0_7).trans ((mu_n ne0_6).trans ((mu_n ne0_5).trans ((mu_n ne0_4).trans ((mu_n ne0_3).trans (mu_s _ _ _))))))) rfl 3 (by decide) (hts (.fieldLink RX4 136 "OctagonDeskModel" "steps" "I") (by decide +kernel)) (fun _ h9 => h9) rfl dX4_step_28 ?_
      refine lv_bipush (v := nI 20) hx hb dX4_step_31 (by decide) ?_
      refine nv_icmp_ne (tgt := 40) hx hb (by omega) (by omega) dX4_step_33 (by decide) (fun hc33 => ?_) (fun hc33 => ?_)
      · refine lv_iconst (v := nI 0) hx hb dX4_step_40 (by decide) ?_
        refine kc_i (va_runV (As := [.int (nI 0)]) (rest := []) ⟨hx, hb, hml, hown, hts⟩ (c_X4_refused l G B (mu (mu (mu (mu (mu (mu (mu μ md (.inr (4, [.int (nI fl), .ref ab, .ref av, .int (nI st), .ref c1, .ref c2, .ref c3, .ref c4, .ref c5, .ref c6, .ref c7, .ref c8, .ref c9]))) c1 (.inl (G.2 1, 20, .inl i1))) c2 (.inl (G.2 1, 20, .inl i2))) c3 (.inl (G.2 1, 20, .inl i3))) c4 (.inl (G.2 1, 20, .inl i4))) c5 (.inl (G.2 1, 20, .inl i5))) c6 (.inl (G.2 1, 20, .inl i6))) md ab av c1 c2 c3 c4 c5 c6 c7 c8 c9 fl st f v 0 ((mu_n ne0_8).trans ((mu_n ne0_7).trans ((mu_n ne0_6).trans ((mu_n ne0_5).trans ((mu_n ne0_4).trans ((mu_n ne0_3).trans (mu_s _ _ _))))))) ((mu_n ((mp_ne hab hc_6 (by simp)))).trans ((mu_n ((mp_ne hab hc_5 (by simp)))).trans ((mu_n ((mp_ne hab hc_4 (by simp)))).trans ((mu_n ((mp_ne hab hc_3 (by simp)))).trans ((mu_n ((mp_ne hab hc_2 (by simp)))).trans ((mu_n ((mp_ne hab hc_1 (by simp)))).trans ((mu_n ((Ne.symm ne0_1))).trans (hab)))))))) ((mu_n ((mp_ne hav hc_6 (by simp)))).trans ((mu_n ((mp_ne hav hc_5 (by simp)))).trans ((mu_n ((mp_ne hav hc_4 (by simp)))).trans ((mu_n ((mp_ne hav hc_3 (by simp)))).trans ((mu_n ((mp_ne hav hc_2 (by simp)))).trans ((mu_n ((mp_ne hav hc_1 (by simp)))).trans ((mu_n ((Ne.symm ne0_2))).trans (hav)))))))) (by omega)) (cwV 1 hts gX4_step_X4_refused rfl rfl rfl (by decide +kernel) ⟨Nat.le_of_ble_eq_true rfl, Nat.le_of_ble_eq_true rfl⟩) ⟨KW.blind, hP.recv hK rfl ((mu_n ne0_8).trans ((mu_n ne0_7).trans ((mu_n ne0_6).trans ((mu_n ne0_5).trans ((mu_n ne0_4).trans ((mu_n ne0_3).trans (mu_s _ _ _))))))), fun U9 hU9 hW9 => ⟨rfl, KW.pre hBs hKK hS hP U9 hU9 hW9⟩⟩ rfl rfl hl.1 rfl (lv_room (Nat.le_of_ble_eq_true rfl)) dX4_step_41 ⟨(Nat.le_of_ble_eq_true rfl), (Nat.le_of_ble_eq_true rfl)⟩) hS (fun r41 m41 H locs hq9 hP hz9 hS => ?_)
        obtain ⟨he9, hw0, hw1⟩ := hq9
        rw [he9] at hP
        have hP : mw G.1 vwCl B (mu (mu (mu (mu (mu (mu (mu μ md (.inr (4, [.int (nI 0), .ref ab, .ref av, .int (nI st), .ref c1, .ref c2, .ref c3, .ref c4, .ref c5, .ref c6, .ref c7, .ref c8, .ref c9]))) c1 (.inl (G.2 1, 20, .inl i1))) c2 (.inl (G.2 1, 20, .inl i2))) c3 (.inl (G.2 1, 20, .inl i3))) c4 (.inl (G.2 1, 20, .inl i4))) c5 (.inl (G.2 1, 20, .inl i5))) c6 (.inl (G.2 1, 20, .inl i6))) _ := mw_eq ((mu_c _ _ ((Ne.symm ne0_8))).trans (congrArg (fun z => mu z c6 (.inl (G.2 1, 20, .inl i6))) ((mu_c _ _ ((Ne.symm ne0_7))).trans (congrArg (fun z => mu z c5 (.inl (G.2 1, 20, .inl i5))) ((mu_c _ _ ((Ne.symm ne0_6))).trans (congrArg (fun z => mu z c4 (.inl (G.2 1, 20, .inl i4))) ((mu_c _ _ ((Ne.symm ne0_5))).trans (congrArg (fun z => mu z c3 (.inl (G.2 1, 20, .inl i3))) ((mu_c _ _ ((Ne.symm ne0_4))).trans (congrArg (fun z => mu z c2 (.inl (G.2 1, 20, .inl i2))) ((mu_c _ _ ((Ne.symm ne0_3))).trans (congrArg (fun z => mu z c1 (.inl (G.2 1, 20, .inl i1))) (mu_u _ _ _ _))))))))))))) hP
        obtain rfl : r41 = nI 0 := hw0 rfl
        refine lv_if_eq (tgt := 49) hx hb dX4_step_44 (by decide) (fun hc44 => ?_) (fun hc44 => ?_)
        · refine lv_aload_n hx hb dX4_step_49 rfl (lv_at hl 0 rfl) ?_
          refine mw_get (C := RX4) (T := TX4) (N := 13) hx hb hts in_X4_step_X4 hown hK hP ((mu_n ne0_8).trans ((mu_n ne0_7).trans ((mu_n ne0_6).trans ((mu_n ne0_5).trans ((mu_n ne0_4).trans ((mu_n ne0_3).trans (mu_s _ _ _))))))) rfl 4 (by decide) (hts (.fieldLink RX4 17 "OctagonDeskModel" "fromPoint" "[I") (by decide +kernel)) (fun _ h9 => h9) rfl dX4_step_50 ?_
          refine lv_aload_n hx hb dX4_step_53 rfl (lv_at hl 0 rfl) ?_
          refine mw_get (C := RX4) (T := TX4) (N := 13) hx hb hts in_X4_step_X4 hown hK hP ((mu_n ne0_8).trans ((mu_n ne0_7).trans ((mu_n ne0_6).trans ((mu_n ne0_5).trans ((mu_n ne0_4).trans ((mu_n ne0_3).trans (mu_s _ _ _))))))) rfl 3 (by decide) (hts (.fieldLink RX4 136 "OctagonDeskModel" "steps" "I") (by decide +kernel)) (fun _ h9 => h9) rfl dX4_step_54 ?_
          refine lv_iload_n hx hb dX4_step_57 rfl (lv_at hl 1 rfl) ?_
          refine lv_bipush (v := nI 8) hx hb dX4_step_58 (by decide) ?_
          refine nv_idiv hx hb (by omega) (by decide) (by decide) dX4_step_60 ?_
          refine mw_iast hx hb hK hP hS 1 ((mu_n n16).trans ((mu_n n15).trans ((mu_n n14).trans ((mu_n n13).trans ((mu_n n12).trans (mu_s _ _ _)))))) rfl (by omega) (by omega) dX4_step_61 (fun H locs hP hS => ?_)
          have hP : mw G.1 vwCl B (mu (mu (mu (mu (mu (mu (mu μ md (.inr (4, [.int (nI 0), .ref ab, .ref av, .int (nI st), .ref c1, .ref c2, .ref c3, .ref c4, .ref c5, .ref c6, .ref c7, .ref c8, .ref c9]))) c1 (.inl (G.2 1, 20, .inl (upd i1 st (nI (nx9 / 8)))))) c2 (.inl (G.2 1, 20, .inl i2))) c3 (.inl (G.2 1, 20, .inl i3))) c4 (.inl (G.2 1, 20, .inl i4))) c5 (.inl (G.2 1, 20, .inl i5))) c6 (.inl (G.2 1, 20, .inl i6))) _ := mw_eq ((mu_c _ _ ((Ne.symm n16))).trans (congrArg (fun z => mu z c6 (.inl (G.2 1, 20, .inl i6))) ((mu_c _ _ ((Ne.symm n15))).trans (congrArg (fun z => mu z c5 (.inl (G.2 1, 20, .inl i5))) ((mu_c _ _ ((Ne.symm n14))).trans (congrArg (fun z => mu z c4 (.inl (G.2 1, 20, .inl i4))) ((mu_c _ _ ((Ne.symm n13))).trans (congrArg (fun z => mu z c3 (.inl (G.2 1, 20, .inl i3))) ((mu_c _ _ ((Ne.symm n12))).trans (congrArg (fun z => mu z c2 (.inl (G.2 1, 20, .inl i2))) (mu_u _ _ _ _))))))))))) hP
          refine lv_aload_n hx hb dX4_step_62 rfl (lv_at hl 0 rfl) ?_
          refine mw_get (C := RX4) (T := TX4) (N := 13) hx hb hts in_X4_step_X4 hown hK hP ((mu_n ne0_8).trans ((mu_n ne0_7).trans ((mu_n ne0_6).trans ((mu_n ne0_5).trans ((mu_n ne0_4).trans ((mu_n ne0_3).trans (mu_s _ _ _))))))) rfl 5 (by decide) (hts (.fieldLink RX4 21 "OctagonDeskModel" "toPoint" "[I") (by decide +kernel)) (fun _ h9 => h9) rfl dX4_step_63 ?_
          refine lv_aload_n hx hb dX4_step_66 rfl (lv_at hl 0 rfl) ?_
          refine mw_get (C := RX4) (T := TX4) (N := 13) hx hb hts in_X4_step_X4 hown hK hP ((mu_n ne0_8).trans ((mu_n ne0_7).trans ((mu_n ne0_6).trans ((mu_n ne0_5).trans ((mu_n ne0_4).trans ((mu_n ne0_3).trans (mu_s _ _ _))))))) rfl 3 (by decide) (hts (.fieldLink RX4 136 "OctagonDeskModel" "steps" "I") (by decide +kernel)) (fun _ h9 => h9) rfl dX4_step_67 ?_
          refine lv_iload_n hx hb dX4_step_70 rfl (lv_at hl 1 rfl) ?_
          refine lv_bipush (v := nI 8) hx hb dX4_step_71 (by decide) ?_
          refine nv_irem hx hb (by omega) (by decide) (by decide) dX4_step_73 ?_
          refine mw_iast hx hb hK hP hS 1 ((mu_n n26).trans ((mu_n n25).trans ((mu_n n24).trans ((mu_n n23).trans (mu_s _ _ _))))) rfl (by omega) (by omega) dX4_step_74 (fun H locs hP hS => ?_)
          have hP : mw G.1 vwCl B (mu (mu (mu (mu (mu (mu (mu μ md (.inr (4, [.int (nI 0), .ref ab, .ref av, .int (nI st), .ref c1, .ref c2, .ref c3, .ref c4, .ref c5, .ref c6, .ref c7, .ref c8, .ref c9]))) c1 (.inl (G.2 1, 20, .inl (upd i1 st (nI (nx9 / 8)))))) c2 (.inl (G.2 1, 20, .inl (upd i2 st (nI (nx9 % 8)))))) c3 (.inl (G.2 1, 20, .inl i3))) c4 (.inl (G.2 1, 20, .inl i4))) c5 (.inl (G.2 1, 20, .inl i5))) c6 (.inl (G.2 1, 20, .inl i6))) _ := mw_eq ((mu_c _ _ ((Ne.symm n26))).trans (congrArg (fun z => mu z c6 (.inl (G.2 1, 20, .inl i6))) ((mu_c _ _ ((Ne.symm n25))).trans (congrArg (fun z => mu z c5 (.inl (G.2 1, 20, .inl i5))) ((mu_c _ _ ((Ne.symm n24))).trans (congrArg (fun z => mu z c4 (.inl (G.2 1, 20, .inl i4))) ((mu_c _ _ ((Ne.symm n23))).trans (congrArg (fun z => mu z c3 (.inl (G.2 1, 20, .inl i3))) (mu_u _ _ _ _))))))))) hP
          refine lv_aload_n hx hb dX4_step_75 rfl (lv_at hl 0 rfl) ?_
          refine mw_get (C := RX4) (T := TX4) (N := 13) hx hb hts in_X4_step_X4 hown hK hP ((mu_n ne0_8).trans ((mu_n ne0_7).trans ((mu_n ne0_6).trans ((mu_n ne0_5).trans ((mu_n ne0_4).trans ((mu_n ne0_3).trans (mu_s _ _ _))))))) rfl 6 (by decide) (hts (.fieldLink RX4 24 "OctagonDeskModel" "kinds" "[I") (by decide +kernel)) (fun _ h9 => h9) rfl dX4_step_76 ?_
          refine lv_aload_n hx hb dX4_step_79 rfl (lv_at hl 0 rfl) ?_
          refine mw_get (C := RX4) (T := TX4) (N := 13) hx hb hts in_X4_step_X4 hown hK hP ((mu_n ne0_8).trans ((mu_n ne0_7).trans ((mu_n ne0_6).trans ((mu_n ne0_5).trans ((mu_n ne0_4).trans ((mu_n ne0_3).trans (mu_s _ _ _))))))) rfl 3 (by decide) (hts (.fieldLink RX4 136 "OctagonDeskModel" "steps" "I") (by decide +kernel)) (fun _ h9 => h9) rfl dX4_step_80 ?_
          refine lv_iload_n hx hb dX4_step_83 rfl (lv_at hl 2 rfl) ?_
          refine mw_iast hx hb hK hP hS 1 ((mu_n n36).trans ((mu_n n35).trans ((mu_n n34).trans (mu_s _ _ _)))) rfl (by omega) (by omega) dX4_step_84 (fun H locs hP hS => ?_)
          have hP : mw G.1 vwCl B (mu (mu (mu (mu (mu (mu (mu μ md (.inr (4, [.int (nI 0), .ref ab, .ref av, .int (nI st), .ref c1, .ref c2, .ref c3, .ref c4, .ref c5, .ref c6, .ref c7, .ref c8, .ref c9]))) c1 (.inl (G.2 1, 20, .inl (upd i1 st (nI (nx9 / 8)))))) c2 (.inl (G.2 1, 20, .inl (upd i2 st (nI (nx9 % 8)))))) c3 (.inl (G.2 1, 20, .inl (upd i3 st k9)))) c4 (.inl (G.2 1, 20, .inl i4))) c5 (.inl (G.2 1, 20, .inl i5))) c6 (.inl (G.2 1, 20, .inl i6))) _ := mw_eq ((mu_c _ _ ((Ne.symm n36))).trans (congrArg (fun z => mu z c6 (.inl (G.2 1, 20, .inl i6))) ((mu_c _ _ ((Ne.symm n35))).trans (congrArg (fun z => mu z c5 (.inl (G.2 1, 20, .inl i5))) ((mu_c _ _ ((Ne.symm n34))).trans (congrArg (fun z => mu z c4 (.inl (G.2 1, 20, .inl i4))) (mu_u _ _ _ _))))))) hP
          refine lv_aload_n hx hb dX4_step_85 rfl (lv_at hl 0 rfl) ?_
          refine mw_get (C := RX4) (T := TX4) (N := 13) hx hb hts in_X4_step_X4 hown hK hP ((mu_n ne0_8).trans ((mu_n ne0_7).trans ((mu_n ne0_6).trans ((mu_n ne0_5).trans ((mu_n ne0_4).trans ((mu_n ne0_3).trans (mu_s _ _ _))))))) rfl 7 (by decide) (hts (.fieldLink RX4 27 "OctagonDeskModel" "firsts" "[I") (by decide +kernel)) (fun _ h9 => h9) rfl dX4_step_86 ?_
          refine lv_aload_n hx hb dX4_step_89 rfl (lv_at hl 0 rfl) ?_
          refine mw_get (C := RX4) (T := TX4) (N := 13) hx hb hts in_X4_step_X4 hown hK hP ((mu_n ne0_8).trans ((mu_n ne0_7).trans ((mu_n ne0_6).trans ((mu_n ne0_5).trans ((mu_n ne0_4).trans ((mu_n ne0_3).trans (mu_s _ _ _))))))) rfl 3 (by decide) (hts (.fieldLink RX4 136 "OctagonDeskModel" "steps" "I") (by decide +kernel)) (fun _ h9 => h9) rfl dX4_step_90 ?_
          refine lv_iload_n hx hb dX4_step_93 rfl (lv_at hl 3 rfl) ?_
          refine mw_iast hx hb hK hP hS 1 ((mu_n n46).trans ((mu_n n45).trans (mu_s _ _ _))) rfl (by omega) (by omega) dX4_step_94 (fun H locs hP hS => ?_)
          have hP : mw G.1 vwCl B (mu (mu (mu (mu (mu (mu (mu μ md (.inr (4, [.int (nI 0), .ref ab, .ref av, .int (nI st), .ref c1, .ref c2, .ref c3, .ref c4, .ref c5, .ref c6, .ref c7, .ref c8, .ref c9]))) c1 (.inl (G.2 1, 20, .inl (upd i1 st (nI (nx9 / 8)))))) c2 (.inl (G.2 1, 20, .inl (upd i2 st (nI (nx9 % 8)))))) c3 (.inl (G.2 1, 20, .inl (upd i3 st k9)))) c4 (.inl (G.2 1, 20, .inl (upd i4 st a9)))) c5 (.inl (G.2 1, 20, .inl i5))) c6 (.inl (G.2 1, 20, .inl i6))) _ := mw_eq ((mu_c _ _ ((Ne.symm n46))).trans (congrArg (fun z => mu z c6 (.inl (G.2 1, 20, .inl i6))) ((mu_c _ _ ((Ne.symm n45))).trans (congrArg (fun z => mu z c5 (.inl (G.2 1, 20, .inl i5))) (mu_u _ _ _ _))))) hP
          refine lv_aload_n hx hb dX4_step_95 rfl (lv_at hl 0 rfl) ?_
          refine mw_get (C := RX4) (T := TX4) (N := 13) hx hb hts in_X4_step_X4 hown hK hP ((mu_n ne0_8).trans ((mu_n ne0_7).trans ((mu_n ne0_6).trans ((mu_n ne0_5).trans ((mu_n ne0_4).trans ((mu_n ne0_3).trans (mu_s _ _ _))))))) rfl 8 (by decide) (hts (.fieldLink RX4 30 "OctagonDeskModel" "seconds" "[I") (by decide +kernel)) (fun _ h9 => h9) rfl dX4_step_96 ?_
          refine lv_aload_n hx hb dX4_step_99 rfl (lv_at hl 0 rfl) ?_
          refine mw_get (C := RX4) (T := TX4) (N := 13) hx hb hts in_X4_step_X4 hown hK hP ((mu_n ne0_8).trans ((mu_n ne0_7).trans ((mu_n ne0_6).trans ((mu_n ne0_5).trans ((mu_n ne0_4).trans ((mu_n ne0_3).trans (mu_s _ _ _))))))) rfl 3 (by decide) (hts (.fieldLink RX4 136 "OctagonDeskModel" "steps" "I") (by decide +kernel)) (fun _ h9 => h9) rfl dX4_step_100 ?_
          refine lv_iload hx hb dX4_step_103 (lv_at hl 4 rfl) ?_
          refine mw_iast hx hb hK hP hS 1 ((mu_n n56).trans (mu_s _ _ _)) rfl (by omega) (by omega) dX4_step_105 (fun H locs hP hS => ?_)
          have hP : mw G.1 vwCl B (mu (mu (mu (mu (mu (mu (mu μ md (.inr (4, [.int (nI 0), .ref ab, .ref av, .int (nI st), .ref c1, .ref c2, .ref c3, .ref c4, .ref c5, .ref c6, .ref c7, .ref c8, .ref c9]))) c1 (.inl (G.2 1, 20, .inl (upd i1 st (nI (nx9 / 8)))))) c2 (.inl (G.2 1, 20, .inl (upd i2 st (nI (nx9 % 8)))))) c3 (.inl (G.2 1, 20, .inl (upd i3 st k9)))) c4 (.inl (G.2 1, 20, .inl (upd i4 st a9)))) c5 (.inl (G.2 1, 20, .inl (upd i5 st b9)))) c6 (.inl (G.2 1, 20, .inl i6))) _ := mw_eq ((mu_c _ _ ((Ne.symm n56))).trans (congrArg (fun z => mu z c6 (.inl (G.2 1, 20, .inl i6))) (mu_u _ _ _ _))) hP
          refine lv_aload_n hx hb dX4_step_106 rfl (lv_at hl 0 rfl) ?_
          refine mw_get (C := RX4) (T := TX4) (N := 13) hx hb hts in_X4_step_X4 hown hK hP ((mu_n ne0_8).trans ((mu_n ne0_7).trans ((mu_n ne0_6).trans ((mu_n ne0_5).trans ((mu_n ne0_4).trans ((mu_n ne0_3).trans (mu_s _ _ _))))))) rfl 9 (by decide) (hts (.fieldLink RX4 33 "OctagonDeskModel" "thirds" "[I") (by decide +kernel)) (fun _ h9 => h9) rfl dX4_step_107 ?_
          refine lv_aload_n hx hb dX4_step_110 rfl (lv_at hl 0 rfl) ?_
          refine mw_get (C := RX4) (T := TX4) (N := 13) hx hb hts in_X4_step_X4 hown hK hP ((mu_n ne0_8).trans ((mu_n ne0_7).trans ((mu_n ne0_6).trans ((mu_n ne0_5).trans ((mu_n ne0_4).trans ((mu_n ne0_3).trans (mu_s _ _ _))))))) rfl 3 (by decide) (hts (.fieldLink RX4 136 "OctagonDeskModel" "steps" "I") (by decide +kernel)) (fun _ h9 => h9) rfl dX4_step_111 ?_
          refine lv_iload hx hb dX4_step_114 (lv_at hl 5 rfl) ?_
          refine mw_iast hx hb hK hP hS 1 (mu_s _ _ _) rfl (by omega) (by omega) dX4_step_116 (fun H locs hP hS => ?_)
          have hP : mw G.1 vwCl B (mu (mu (mu (mu (mu (mu (mu μ md (.inr (4, [.int (nI 0), .ref ab, .ref av, .int (nI st), .ref c1, .ref c2, .ref c3, .ref c4, .ref c5, .ref c6, .ref c7, .ref c8, .ref c9]))) c1 (.inl (G.2 1, 20, .inl (upd i1 st (nI (nx9 / 8)))))) c2 (.inl (G.2 1, 20, .inl (upd i2 st (nI (nx9 % 8)))))) c3 (.inl (G.2 1, 20, .inl (upd i3 st k9)))) c4 (.inl (G.2 1, 20, .inl (upd i4 st a9)))) c5 (.inl (G.2 1, 20, .inl (upd i5 st b9)))) c6 (.inl (G.2 1, 20, .inl (upd i6 st y9)))) _ := mw_eq (mu_u _ _ _ _) hP
          refine lv_aload_n hx hb dX4_step_117 rfl (lv_at hl 0 rfl) ?_
          refine lv_dup hx hb dX4_step_118 rfl ?_
          refine mw_get (C := RX4) (T := TX4) (N := 13) hx hb hts in_X4_step_X4 hown hK hP ((mu_n ne0_8).trans ((mu_n ne0_7).trans ((mu_n ne0_6).trans ((mu_n ne0_5).trans ((mu_n ne0_4).trans ((mu_n ne0_3).trans (mu_s _ _ _))))))) rfl 3 (by decide) (hts (.fieldLink RX4 136 "OctagonDeskModel" "steps" "I") (by decide +kernel)) (fun _ h9 => h9) rfl dX4_step_119 ?_
          refine lv_iconst (v := nI 1) hx hb dX4_step_122 (by decide) ?_
          refine nv_iadd hx hb dX4_step_123 ?_
          refine mw_put (ty := .int) (v := .int (nI (st + 1))) (C := RX4) (T := TX4) (N := 13) hx hb hts in_X4_step_X4 tyX4 tyX4_ok nmX4 hown hK hP hS ((mu_n ne0_8).trans ((mu_n ne0_7).trans ((mu_n ne0_6).trans ((mu_n ne0_5).trans ((mu_n ne0_4).trans ((mu_n ne0_3).trans (mu_s _ _ _))))))) rfl 3 (by decide) (hts (.fieldLink RX4 136 "OctagonDeskModel" "steps" "I") (by decide +kernel)) (fun _ h9 => h9) rfl (by decide +kernel) (by first | rfl | decide +kernel) (by first | rfl | decide +kernel) (Nat.le_of_ble_eq_true rfl) dX4_step_124 (fun H locs hP hS => ?_)
          have hP : mw G.1 vwCl B (mu (mu (mu (mu (mu (mu (mu μ md (.inr (4, [.int (nI 0), .ref ab, .ref av, .int (nI (st + 1)), .ref c1, .ref c2, .ref c3, .ref c4, .ref c5, .ref c6, .ref c7, .ref c8, .ref c9]))) c1 (.inl (G.2 1, 20, .inl (upd i1 st (nI (nx9 / 8)))))) c2 (.inl (G.2 1, 20, .inl (upd i2 st (nI (nx9 % 8)))))) c3 (.inl (G.2 1, 20, .inl (upd i3 st k9)))) c4 (.inl (G.2 1, 20, .inl (upd i4 st a9)))) c5 (.inl (G.2 1, 20, .inl (upd i5 st b9)))) c6 (.inl (G.2 1, 20, .inl (upd i6 st y9)))) _ := mw_eq ((mu_c _ _ ((Ne.symm ne0_8))).trans (congrArg (fun z => mu z c6 (.inl (G.2 1, 20, .inl (upd i6 st y9)))) ((mu_c _ _ ((Ne.symm ne0_7))).trans (congrArg (fun z => mu z c5 (.inl (G.2 1, 20, .inl (upd i5 st b9)))) ((mu_c _ _ ((Ne.symm ne0_6))).trans (congrArg (fun z => mu z c4 (.inl (G.2 1, 20, .inl (upd i4 st a9)))) ((mu_c _ _ ((Ne.symm ne0_5))).trans (congrArg (fun z => mu z c3 (.inl (G.2 1, 20, .inl (upd i3 st k9)))) ((mu_c _ _ ((Ne.symm ne0_4))).trans (congrArg (fun z => mu z c2 (.inl (G.2 1, 20, .inl (upd i2 st (nI (nx9 % 8)))))) ((mu_c _ _ ((Ne.symm ne0_3))).trans (congrArg (fun z => mu z c1 (.inl (G.2 1, 20, .inl (upd i1 st (nI (nx9 / 8)))))) (mu_u _ _ _ _))))))))))))) hP
          refine lv_aload_n hx hb dX4_step_127 rfl (lv_at hl 0 rfl) ?_
          refine mw_get (C := RX4) (T := TX4) (N := 13) hx hb hts in_X4_step_X4 hown hK hP ((mu_n ne0_8).trans ((mu_n ne0_7).trans ((mu_n ne0_6).trans ((mu_n ne0_5).trans ((mu_n ne0_4).trans ((mu_n ne0_3).trans (mu_s _ _ _))))))) rfl 3 (by decide) (hts (.fieldLink RX4 136 "OctagonDeskModel" "steps" "I") (by decide +kernel)) (fun _ h9 => h9) rfl dX4_step_128 ?_
          refine lv_iconst (v := nI 1) hx hb dX4_step_131 (by decide) ?_
          refine nv_isub hx hb (by omega) dX4_step_132 ?_
          rw [hQ]
          exact W.iret (v := nI ((st + 1) - 1)) hx hb hr (fun t99 ht99 hW99 => ⟨⟨nI ((st + 1) - 1), mu (mu (mu (mu (mu (mu (mu μ md (.inr (4, [.int (nI 0), .ref ab, .ref av, .int (nI (st + 1)), .ref c1, .ref c2, .ref c3, .ref c4, .ref c5, .ref c6, .ref c7, .ref c8, .ref c9]))) c1 (.inl (G.2 1, 20, .inl (upd i1 st (nI (nx9 / 8)))))) c2 (.inl (G.2 1, 20, .inl (upd i2 st (nI (nx9 % 8)))))) c3 (.inl (G.2 1, 20, .inl (upd i3 st k9)))) c4 (.inl (G.2 1, 20, .inl (upd i4 st a9)))) c5 (.inl (G.2 1, 20, .inl (upd i5 st b9)))) c6 (.inl (G.2 1, 20, .inl (upd i6 st y9))), rfl, (⟨_, _, _, _, _, _, _, _, rfl, ⟨by omega, hSM.s (by omega) (by omega) hok.2⟩, Or.inl ⟨rfl, hok, by omega, rfl, congrArg nI (by omega)⟩⟩), by show mw _ _ _ _ t99.heap; rw [ht99]; exact hP⟩, hS.F ht99⟩) hS.2.2 dX4_step_133
        · exact absurd rfl hc44
      · refine lv_iconst (v := nI 2) hx hb dX4_step_36 (by decide) ?_
        refine lv_goto (tgt := 41) hx hb dX4_step_37 (by decide) ?_
        refine kc_i (va_runV (As := [.int (nI 2)]) (rest := []) ⟨hx, hb, hml, hown, hts⟩ (c_X4_refused l G B (mu (mu (mu (mu (mu (mu (mu μ md (.inr (4, [.int (nI fl), .ref ab, .ref av, .int (nI st), .ref c1, .ref c2, .ref c3, .ref c4, .ref c5, .ref c6, .ref c7, .ref c8, .ref c9]))) c1 (.inl (G.2 1, 20, .inl i1))) c2 (.inl (G.2 1, 20, .inl i2))) c3 (.inl (G.2 1, 20, .inl i3))) c4 (.inl (G.2 1, 20, .inl i4))) c5 (.inl (G.2 1, 20, .inl i5))) c6 (.inl (G.2 1, 20, .inl i6))) md ab av c1 c2 c3 c4 c5 c6 c7 c8 c9 fl st f v 2 ((mu_n ne0_8).trans ((mu_n ne0_7).trans ((mu_n ne0_6).trans ((mu_n ne0_5).trans ((mu_n ne0_4).trans ((mu_n ne0_3).trans (mu_s _ _ _))))))) ((mu_n ((mp_ne hab hc_6 (by simp)))).trans ((mu_n ((mp_ne hab hc_5 (by simp)))).trans ((mu_n ((mp_ne hab hc_4 (by simp)))).trans ((mu_n ((mp_ne hab hc_3 (by simp)))).trans ((mu_n ((mp_ne hab hc_2 (by simp)))).trans ((mu_n ((mp_ne hab hc_1 (by simp)))).trans ((mu_n ((Ne.symm ne0_1))).trans (hab)))))))) ((mu_n ((mp_ne hav hc_6 (by simp)))).trans ((mu_n ((mp_ne hav hc_5 (by simp)))).trans ((mu_n ((mp_ne hav hc_4 (by simp)))).trans ((mu_n ((mp_ne hav hc_3 (by simp)))).trans ((mu_n ((mp_ne hav hc_2 (by simp)))).trans ((mu_n ((mp_ne hav hc_1 (by simp)))).trans ((mu_n ((Ne.symm ne0_2))).trans (hav)))))))) (by omega)) (cwV 1 hts gX4_step_X4_refused rfl rfl rfl (by decide +kernel) ⟨Nat.le_of_ble_eq_true rfl, Nat.le_of_ble_eq_true rfl⟩) ⟨KW.blind, hP.recv hK rfl ((mu_n ne0_8).trans ((mu_n ne0_7).trans ((mu_n ne0_6).trans ((mu_n ne0_5).trans ((mu_n ne0_4).trans ((mu_n ne0_3).trans (mu_s _ _ _))))))), fun U9 hU9 hW9 => ⟨rfl, KW.pre hBs hKK hS hP U9 hU9 hW9⟩⟩ rfl rfl hl.1 rfl (lv_room (Nat.le_of_ble_eq_true rfl)) dX4_step_41 ⟨(Nat.le_of_ble_eq_true rfl), (Nat.le_of_ble_eq_true rfl)⟩) hS (fun r41 m41 H locs hq9 hP hz9 hS => ?_)
        obtain ⟨he9, hw0, hw1⟩ := hq9
        rw [he9] at hP
        have hP : mw G.1 vwCl B (mu (mu (mu (mu (mu (mu (mu μ md (.inr (4, [.int (nI 2), .ref ab, .ref av, .int (nI st), .ref c1, .ref c2, .ref c3, .ref c4, .ref c5, .ref c6, .ref c7, .ref c8, .ref c9]))) c1 (.inl (G.2 1, 20, .inl i1))) c2 (.inl (G.2 1, 20, .inl i2))) c3 (.inl (G.2 1, 20, .inl i3))) c4 (.inl (G.2 1, 20, .inl i4))) c5 (.inl (G.2 1, 20, .inl i5))) c6 (.inl (G.2 1, 20, .inl i6))) _ := mw_eq ((mu_c _ _ ((Ne.symm ne0_8))).trans (congrArg (fun z => mu z c6 (.inl (G.2 1, 20, .inl i6))) ((mu_c _ _ ((Ne.symm ne0_7))).trans (congrArg (fun z => mu z c5 (.inl (G.2 1, 20, .inl i5))) ((mu_c _ _ ((Ne.symm ne0_6))).trans (congrArg (fun z => mu z c4 (.inl (G.2 1, 20, .inl i4))) ((mu_c _ _ ((Ne.symm ne0_5))).trans (congrArg (fun z => mu z c3 (.inl (G.2 1, 20, .inl i3))) ((mu_c _ _ ((Ne.symm ne0_4))).trans (congrArg (fun z => mu z c2 (.inl (G.2 1, 20, .inl i2))) ((mu_c _ _ ((Ne.symm ne0_3))).trans (congrArg (fun z => mu z c1 (.inl (G.2 1, 20, .inl i1))) (mu_u _ _ _ _))))))))))))) hP
        obtain rfl : r41 = nI 1 := hw1 (by decide)
        refine lv_if_eq (tgt := 49) hx hb dX4_step_44 (by decide) (fun hc44 => ?_) (fun hc44 => ?_)
        · exact absurd hc44 (by decide)
        · refine lv_iconst (v := nI 0) hx hb dX4_step_47 (by decide) ?_
          rw [hQ]
          exact W.iret (v := nI 0) hx hb hr (fun t99 ht99 hW99 => ⟨⟨nI 0, mu (mu (mu (mu (mu (mu (mu μ md (.inr (4, [.int (nI 2), .ref ab, .ref av, .int (nI st), .ref c1, .ref c2, .ref c3, .ref c4, .ref c5, .ref c6, .ref c7, .ref c8, .ref c9]))) c1 (.inl (G.2 1, 20, .inl i1))) c2 (.inl (G.2 1, 20, .inl i2))) c3 (.inl (G.2 1, 20, .inl i3))) c4 (.inl (G.2 1, 20, .inl i4))) c5 (.inl (G.2 1, 20, .inl i5))) c6 (.inl (G.2 1, 20, .inl i6)), rfl, (⟨_, _, _, _, _, _, _, _, rfl, ⟨hst, hSM⟩, Or.inr (Or.inr ⟨rfl, hok, by omega, rfl⟩)⟩), by show mw _ _ _ _ t99.heap; rw [ht99]; exact hP⟩, hS.F ht99⟩) hS.2.2 dX4_step_48
    · refine lv_iconst (v := nI 1) hx hb dX4_step_23 (by decide) ?_
      refine lv_goto (tgt := 41) hx hb dX4_step_24 (by decide) ?_
      refine kc_i (va_runV (As := [.int (nI 1)]) (rest := []) ⟨hx, hb, hml, hown, hts⟩ (c_X4_refused l G B (mu (mu (mu (mu (mu (mu (mu μ md (.inr (4, [.int (nI fl), .ref ab, .ref av, .int (nI st), .ref c1, .ref c2, .ref c3, .ref c4, .ref c5, .ref c6, .ref c7, .ref c8, .ref c9]))) c1 (.inl (G.2 1, 20, .inl i1))) c2 (.inl (G.2 1, 20, .inl i2))) c3 (.inl (G.2 1, 20, .inl i3))) c4 (.inl (G.2 1, 20, .inl i4))) c5 (.inl (G.2 1, 20, .inl i5))) c6 (.inl (G.2 1, 20, .inl i6))) md ab av c1 c2 c3 c4 c5 c6 c7 c8 c9 fl st f v 1 ((mu_n ne0_8).trans ((mu_n ne0_7).trans ((mu_n ne0_6).trans ((mu_n ne0_5).trans ((mu_n ne0_4).trans ((mu_n ne0_3).trans (mu_s _ _ _))))))) ((mu_n ((mp_ne hab hc_6 (by simp)))).trans ((mu_n ((mp_ne hab hc_5 (by simp)))).trans ((mu_n ((mp_ne hab hc_4 (by simp)))).trans ((mu_n ((mp_ne hab hc_3 (by simp)))).trans ((mu_n ((mp_ne hab hc_2 (by simp)))).trans ((mu_n ((mp_ne hab hc_1 (by simp)))).trans ((mu_n ((Ne.symm ne0_1))).trans (hab)))))))) ((mu_n ((mp_ne hav hc_6 (by simp)))).trans ((mu_n ((mp_ne hav hc_5 (by simp)))).trans ((mu_n ((mp_ne hav hc_4 (by simp)))).trans ((mu_n ((mp_ne hav hc_3 (by simp)))).trans ((mu_n ((mp_ne hav hc_2 (by simp)))).trans ((mu_n ((mp_ne hav hc_1 (by simp)))).trans ((mu_n ((Ne.symm ne0_2))).trans (hav)))))))) (by omega)) (cwV 1 hts gX4_step_X4_refused rfl rfl rfl (by decide +kernel) ⟨Nat.le_of_ble_eq_true rfl, Nat.le_of_ble_eq_true rfl⟩) ⟨KW.blind, hP.recv hK rfl ((mu_n ne0_8).trans ((mu_n ne0_7).trans ((mu_n ne0_6).trans ((mu_n ne0_5).trans ((mu_n ne0_4).trans ((mu_n ne0_3).trans (mu_s _ _ _))))))), fun U9 hU9 hW9 => ⟨rfl, KW.pre hBs hKK hS hP U9 hU9 hW9⟩⟩ rfl rfl hl.1 rfl (lv_room (Nat.le_of_ble_eq_true rfl)) dX4_step_41 ⟨(Nat.le_of_ble_eq_true rfl), (Nat.le_of_ble_eq_true rfl)⟩) hS (fun r41 m41 H locs hq9 hP hz9 hS => ?_)
      obtain ⟨he9, hw0, hw1⟩ := hq9
      rw [he9] at hP
      have hP : mw G.1 vwCl B (mu (mu (mu (mu (mu (mu (mu μ md (.inr (4, [.int (nI 1), .ref ab, .ref av, .int (nI st), .ref c1, .ref c2, .ref c3, .ref c4, .ref c5, .ref c6, .ref c7, .ref c8, .ref c9]))) c1 (.inl (G.2 1, 20, .inl i1))) c2 (.inl (G.2 1, 20, .inl i2))) c3 (.inl (G.2 1, 20, .inl i3))) c4 (.inl (G.2 1, 20, .inl i4))) c5 (.inl (G.2 1, 20, .inl i5))) c6 (.inl (G.2 1, 20, .inl i6))) _ := mw_eq ((mu_c _ _ ((Ne.symm ne0_8))).trans (congrArg (fun z => mu z c6 (.inl (G.2 1, 20, .inl i6))) ((mu_c _ _ ((Ne.symm ne0_7))).trans (congrArg (fun z => mu z c5 (.inl (G.2 1, 20, .inl i5))) ((mu_c _ _ ((Ne.symm ne0_6))).trans (congrArg (fun z => mu z c4 (.inl (G.2 1, 20, .inl i4))) ((mu_c _ _ ((Ne.symm ne0_5))).trans (congrArg (fun z => mu z c3 (.inl (G.2 1, 20, .inl i3))) ((mu_c _ _ ((Ne.symm ne0_4))).trans (congrArg (fun z => mu z c2 (.inl (G.2 1, 20, .inl i2))) ((mu_c _ _ ((Ne.symm ne0_3))).trans (congrArg (fun z => mu z c1 (.inl (G.2 1, 20, .inl i1))) (mu_u _ _ _ _))))))))))))) hP
      obtain rfl : r41 = nI 1 := hw1 (by decide)
      refine lv_if_eq (tgt := 49) hx hb dX4_step_44 (by decide) (fun hc44 => ?_) (fun hc44 => ?_)
      · exact absurd hc44 (by decide)
      · refine lv_iconst (v := nI 0) hx hb dX4_step_47 (by decide) ?_
        rw [hQ]
        exact W.iret (v := nI 0) hx hb hr (fun t99 ht99 hW99 => ⟨⟨nI 0, mu (mu (mu (mu (mu (mu (mu μ md (.inr (4, [.int (nI 1), .ref ab, .ref av, .int (nI st), .ref c1, .ref c2, .ref c3, .ref c4, .ref c5, .ref c6, .ref c7, .ref c8, .ref c9]))) c1 (.inl (G.2 1, 20, .inl i1))) c2 (.inl (G.2 1, 20, .inl i2))) c3 (.inl (G.2 1, 20, .inl i3))) c4 (.inl (G.2 1, 20, .inl i4))) c5 (.inl (G.2 1, 20, .inl i5))) c6 (.inl (G.2 1, 20, .inl i6)), rfl, (⟨_, _, _, _, _, _, _, _, rfl, ⟨hst, hSM⟩, Or.inr (Or.inl ⟨rfl, fun h9 => by first | exact yn_f hy5 hc8 (isI_W.mpr h9.1) | exact yn_f hy17 hc20 h9.2, rfl⟩)⟩), by show mw _ _ _ _ t99.heap; rw [ht99]; exact hP⟩, hS.F ht99⟩) hS.2.2 dX4_step_48

abbrev rn_X4_go : Room := { frames := 4, cells := 0, slots := 0, locals := 104 }
set_option maxHeartbeats 4000000 in
set_option maxRecDepth 100000 in
theorem m_X4_go (l : Launch) (G : GG) (B : Nat) (μ : mp) (md ab av c1 c2 c3 c4 c5 c6 c7 c8 c9 fl st : Nat) (f : Nat → Int64) (v : Nat → Int32) (i1 i2 i3 i4 i5 i6 : Nat → Int32) (k9 rn : Nat) (hm : μ md = some (.inr (4, [.int (nI fl), .ref ab, .ref av, .int (nI st), .ref c1, .ref c2, .ref c3, .ref c4, .ref c5, .ref c6, .ref c7, .ref c8, .ref c9]))) (hab : μ ab = some (.inl (G.2 0, 3744, .inr (.inl f)))) (hav : μ av = some (.inl (G.2 2, 26, .inl v))) (hc_1 : μ c1 = some (.inl (G.2 1, 20, .inl i1))) (hc_2 : μ c2 = some (.inl (G.2 1, 20, .inl i2))) (hc_3 : μ c3 = some (.inl (G.2 1, 20, .inl i3))) (hc_4 : μ c4 = some (.inl (G.2 1, 20, .inl i4))) (hc_5 : μ c5 = some (.inl (G.2 1, 20, .inl i5))) (hc_6 : μ c6 = some (.inl (G.2 1, 20, .inl i6))) (hk9 : k9 < st) (hrn : rn ≤ 30) (hst : st ≤ 20) (hSM : SM i1 i2 i3 i4 i5 i6 st) (hsy : Sym f) (hvb : VB v) : Met l yX4_go wsX4_go rn_X4_go (va_Pc [.ref md, .int (nI k9), .int (nI rn)] (KW G B μ)) (va_Qi (fun r μ2 => (r = 0 ∨ r = 1) ∧ ∃ (g9 : Nat → Int64) (w9 : Nat → Int32), μ2 = mu (mu μ ab (.inl (G.2 0, 3744, .inr (.inl g9)))) av (.inl (G.2 2, 26, .inl w9)) ∧ Sym g9 ∧ VB w9) (BB G B) (fun q => B ≤ q)) 0 0 (fun q => B ≤ q) := by
  refine Met.ofW (cc := cX4_go) (maxL := 4) (ret := (some .boolean)) (by decide) rfl ?_
  intro p e s m args below meth c s₁ B9 hml hv
  obtain ⟨hargs, hBs, hP, hKK⟩ := hv
  have hx := B9.exec
  have hb := B9.bytes
  have hr := B9.returns
  have hts := atoms_spec (ws := wsX4_go) B9.pre
  have hown : s.vm.findClass RX4 = some m.cls := findClass_of_methodNamed B9.named
  have hlocks := B9.notSynchronized
  have hK := hKK.k
  have hS : va_S (fun q => B ≤ q) s.heap s.heap [] := va_S.rf
  obtain ⟨Q, hQ⟩ : ∃ Q, Q = MQ below (va_Qi (fun r μ2 => (r = 0 ∨ r = 1) ∧ ∃ (g9 : Nat → Int64) (w9 : Nat → Int32), μ2 = mu (mu μ ab (.inl (G.2 0, 3744, .inr (.inl g9)))) av (.inl (G.2 2, 26, .inl w9)) ∧ Sym g9 ∧ VB w9) (BB G B) (fun q => B ≤ q)) args s 0 0 (fun q => B ≤ q) := ⟨_, rfl⟩
  rw [← hQ]
  have ne0_1 : md ≠ ab := mp_ne hm hab (by simp)
  have ne0_2 : md ≠ av := mp_ne hm hav (by simp)
  have ne0_3 : md ≠ c1 := mp_ne hm hc_1 (by simp)
  have ne0_4 : md ≠ c2 := mp_ne hm hc_2 (by simp)
  have ne0_5 : md ≠ c3 := mp_ne hm hc_3 (by simp)
  have ne0_6 : md ≠ c4 := mp_ne hm hc_4 (by simp)
  have ne0_7 : md ≠ c5 := mp_ne hm hc_5 (by simp)
  have ne0_8 : md ≠ c6 := mp_ne hm hc_6 (by simp)
  have in_X4_go_X4 : ∀ w ∈ wsX40, w ∈ wsX4_go := by decide +kernel
  have hP : mw G.1 vwCl B (mu (mu μ ab (.inl (G.2 0, 3744, .inr (.inl f)))) av (.inl (G.2 2, 26, .inl v))) s.heap := mw_eq ((congrArg (fun z => mu z av (.inl (G.2 2, 26, .inl v))) (mu_i hab)).trans (mu_i hav)).symm hP
  have hl := lv_entry ([.ref md, .int (nI k9), .int (nI rn)]) (n := 4) (Nat.le_of_ble_eq_true rfl)
  have he9 : entryFrame m args 4 = entryFrame m ([.ref md, .int (nI k9), .int (nI rn)] : List Value).toArray 4 := by rw [hargs]
  rw [he9, lg_entry_eq]
  generalize (lg_sl ([.ref md, .int (nI k9), .int (nI rn)]) ++ List.replicate (4 - (lg_sl ([.ref md, .int (nI k9), .int (nI rn)])).length) Slot.unset).toArray = ls at hl ⊢
  have hl : lv_has ls 4 [(0, .ref md), (1, .int (nI k9)), (2, .int (nI rn))] := hl
  obtain ⟨pp, qq, hpp, hqq, e1, e2, hkN, hok⟩ := hSM k9 hk9
  rcases hok with ⟨ek9, hp1, hp2, hp3⟩ | ⟨ek9, hp1, hp2⟩ | ⟨ek9, hp1, hp2, hp3⟩
  · replace ek9 : i3 k9 = nI 0 := ek9.trans (by decide)
    obtain ⟨na, hna, ena⟩ := ok_nat (n := 12) (by decide) hp1
    obtain ⟨nb, hnb, enb⟩ := ok_nat (n := 12) (by decide) hp2
    refine lv_bipush (v := nI 14) hx hb dX4_go_0 (by decide) ?_
    refine lv_aload_n hx hb dX4_go_2 rfl (lv_at hl 0 rfl) ?_
    refine mw_get (C := RX4) (T := TX4) (N := 13) hx hb hts in_X4_go_X4 hown hK hP ((mu_n ne0_2).trans ((mu_n ne0_1).trans (hm))) rfl 5 (by decide) (hts (.fieldLink RX4 21 "OctagonDeskModel" "toPoint" "[I") (by decide +kernel)) (fun _ h9 => h9) rfl dX4_go_3 ?_
    refine lv_iload_n hx hb dX4_go_6 rfl (lv_at hl 1 rfl) ?_
    refine mw_iald hx hb hK hP 1 ((mu_n ((mp_ne hc_2 hav (by simp)))).trans ((mu_n ((mp_ne hc_2 hab (by simp)))).trans (hc_2))) rfl (by omega) (by omega) dX4_go_7 ?_
    refine nv_eqi (y := nI qq) e2 ?_
    refine nv_iadd hx hb dX4_go_8 ?_
    refine lv_istore_n (lv' := [(3, .int (nI (14 + qq))), (0, .ref md), (1, .int (nI k9)), (2, .int (nI rn))]) hx hb dX4_go_9 rfl hl (by decide) rfl (fun ls hl => ?_)
    refine lv_aload_n hx hb dX4_go_10 rfl (lv_at hl 1 rfl) ?_
    refine lv_bipush (v := nI 25) hx hb dX4_go_11 (by decide) ?_
    refine lv_bipush (v := nI 14) hx hb dX4_go_13 (by decide) ?_
    refine lv_aload_n hx hb dX4_go_15 rfl (lv_at hl 1 rfl) ?_
    refine mw_get (C := RX4) (T := TX4) (N := 13) hx hb hts in_X4_go_X4 hown hK hP ((mu_n ne0_2).trans ((mu_n ne0_1).trans (hm))) rfl 4 (by decide) (hts (.fieldLink RX4 17 "OctagonDeskModel" "fromPoint" "[I") (by decide +kernel)) (fun _ h9 => h9) rfl dX4_go_16 ?_
    refine lv_iload_n hx hb dX4_go_19 rfl (lv_at hl 2 rfl) ?_
    refine mw_iald hx hb hK hP 1 ((mu_n ((mp_ne hc_1 hav (by simp)))).trans ((mu_n ((mp_ne hc_1 hab (by simp)))).trans (hc_1))) rfl (by omega) (by omega) dX4_go_20 ?_
    refine nv_eqi (y := nI pp) e1 ?_
    refine nv_iadd hx hb dX4_go_21 ?_
    refine kc_v (va_runV (As := [.int (nI 25), .int (nI (14 + pp))]) (rest := []) ⟨hx, hb, hml, hown, hts⟩ (c_X4_load l G B (mu (mu μ ab (.inl (G.2 0, 3744, .inr (.inl f)))) av (.inl (G.2 2, 26, .inl v))) md ab av c1 c2 c3 c4 c5 c6 c7 c8 c9 fl st f v 25 (14 + pp) ((mu_n ne0_2).trans ((mu_n ne0_1).trans (hm))) ((mu_n ((mp_ne hab hav (by simp)))).trans (mu_s _ _ _)) (mu_s _ _ _) (by omega) (by omega) (hvb (14 + pp))) (cwV 2 hts gX4_go_X4_load rfl rfl rfl (by decide +kernel) ⟨Nat.le_of_ble_eq_true rfl, Nat.le_of_ble_eq_true rfl⟩) ⟨KW.blind, hP.recv hK rfl ((mu_n ne0_2).trans ((mu_n ne0_1).trans (hm))), fun U9 hU9 hW9 => ⟨rfl, KW.pre hBs hKK hS hP U9 hU9 hW9⟩⟩ rfl rfl hl.1 rfl (lv_room (Nat.le_of_ble_eq_true rfl)) dX4_go_22 ⟨(Nat.le_of_ble_eq_true rfl), (Nat.le_of_ble_eq_true rfl)⟩) hS (fun m22 H locs hq9 hP hz9 hS => ?_)
    obtain ⟨g22, he22, hL22⟩ := hq9
    rw [he22] at hP
    have hP : mw G.1 vwCl B (mu (mu μ ab (.inl (G.2 0, 3744, .inr (.inl g22)))) av (.inl (G.2 2, 26, .inl (upd v 25 (v (14 + pp)))))) _ := mw_eq ((congrArg (fun z => mu z av (.inl (G.2 2, 26, .inl (upd v 25 (v (14 + pp)))))) ((mu_c _ _ ((mp_ne hav hab (by simp)))).trans (congrArg (fun z => mu z av (.inl (G.2 2, 26, .inl v))) (mu_u _ _ _ _)))).trans (mu_u _ _ _ _)) hP
    refine lv_aload_n hx hb dX4_go_25 rfl (lv_at hl 1 rfl) ?_
    refine lv_bipush (v := nI 25) hx hb dX4_go_26 (by decide) ?_
    refine lv_aload_n hx hb dX4_go_28 rfl (lv_at hl 1 rfl) ?_
    refine mw_get (C := RX4) (T := TX4) (N := 13) hx hb hts in_X4_go_X4 hown hK hP ((mu_n ne0_2).trans ((mu_n ne0_1).trans (hm))) rfl 6 (by decide) (hts (.fieldLink RX4 24 "OctagonDeskModel" "kinds" "[I") (by decide +kernel)) (fun _ h9 => h9) rfl dX4_go_29 ?_
    refine lv_iload_n hx hb dX4_go_32 rfl (lv_at hl 2 rfl) ?_
    refine mw_iald hx hb hK hP 1 ((mu_n ((mp_ne hc_3 hav (by simp)))).trans ((mu_n ((mp_ne hc_3 hab (by simp)))).trans (hc_3))) rfl (by omega) (by omega) dX4_go_33 ?_
    refine nv_eqi (y := nI 0) ek9 ?_
    refine lv_aload_n hx hb dX4_go_34 rfl (lv_at hl 1 rfl) ?_
    refine mw_get (C := RX4) (T := TX4) (N := 13) hx hb hts in_X4_go_X4 hown hK hP ((mu_n ne0_2).trans ((mu_n ne0_1).trans (hm))) rfl 7 (by decide) (hts (.fieldLink RX4 27 "OctagonDeskModel" "firsts" "[I") (by decide +kernel)) (fun _ h9 => h9) rfl dX4_go_35 ?_
    refine lv_iload_n hx hb dX4_go_38 rfl (lv_at hl 2 rfl) ?_
    refine mw_iald hx hb hK hP 1 ((mu_n ((mp_ne hc_4 hav (by simp)))).trans ((mu_n ((mp_ne hc_4 hab (by simp)))).trans (hc_4))) rfl (by omega) (by omega) dX4_go_39 ?_
    refine nv_eqi (y := nI na) ena ?_
    refine lv_aload_n hx hb dX4_go_40 rfl (lv_at hl 1 rfl) ?_
    refine mw_get (C := RX4) (T := TX4) (N := 13) hx hb hts in_X4_go_X4 hown hK hP ((mu_n ne0_2).trans ((mu_n ne0_1).trans (hm))) rfl 8 (by decide) (hts (.fieldLink RX4 30 "OctagonDeskModel" "seconds" "[I") (by decide +kernel)) (fun _ h9 => h9) rfl dX4_go_41 ?_
    refine lv_iload_n hx hb dX4_go_44 rfl (lv_at hl 2 rfl) ?_
    refine mw_iald hx hb hK hP 1 ((mu_n ((mp_ne hc_5 hav (by simp)))).trans ((mu_n ((mp_ne hc_5 hab (by simp)))).trans (hc_5))) rfl (by omega) (by omega) dX4_go_45 ?_
    refine nv_eqi (y := nI nb) enb ?_
    refine lv_aload_n hx hb dX4_go_46 rfl (lv_at hl 1 rfl) ?_
    refine mw_get (C := RX4) (T := TX4) (N := 13) hx hb hts in_X4_go_X4 hown hK hP ((mu_n ne0_2).trans ((mu_n ne0_1).trans (hm))) rfl 9 (by decide) (hts (.fieldLink RX4 33 "OctagonDeskModel" "thirds" "[I") (by decide +kernel)) (fun _ h9 => h9) rfl dX4_go_47 ?_
    refine lv_iload_n hx hb dX4_go_50 rfl (lv_at hl 2 rfl) ?_
    refine mw_iald hx hb hK hP 1 ((mu_n ((mp_ne hc_6 hav (by simp)))).trans ((mu_n ((mp_ne hc_6 hab (by simp)))).trans (hc_6))) rfl (by omega) (by omega) dX4_go_51 ?_
    refine kc_v (va_runV (As := [.int (nI 25), .int (nI 0), .int (nI na), .int (nI nb), .int (i6 k9)]) (rest := []) ⟨hx, hb, hml, hown, hts⟩ (m_X4_make_0 l G B (mu (mu μ ab (.inl (G.2 0, 3744, .inr (.inl g22)))) av (.inl (G.2 2, 26, .inl (upd v 25 (v (14 + pp)))))) md ab av c1 c2 c3 c4 c5 c6 c7 c8 c9 fl st g22 (upd v 25 (v (14 + pp))) 25 na nb (i6 k9) ((mu_n ne0_2).trans ((mu_n ne0_1).trans (hm))) ((mu_n ((mp_ne hab hav (by simp)))).trans (mu_s _ _ _)) (mu_s _ _ _) (by omega) (by omega) (by omega) (hsy.ld hL22 (by omega)) (VB.u hvb (hvb (14 + pp)))) (cwV 5 hts gX4_go_X4_make rfl rfl rfl (by decide +kernel) ⟨Nat.le_of_ble_eq_true rfl, Nat.le_of_ble_eq_true rfl⟩) ⟨KW.blind, hP.recv hK rfl ((mu_n ne0_2).trans ((mu_n ne0_1).trans (hm))), fun U9 hU9 hW9 => ⟨rfl, KW.pre hBs hKK hS hP U9 hU9 hW9⟩⟩ rfl rfl hl.1 rfl (lv_room (Nat.le_of_ble_eq_true rfl)) dX4_go_52 ⟨(Nat.le_of_ble_eq_true rfl), (Nat.le_of_ble_eq_true rfl)⟩) hS (fun m52 H locs hq9 hP hz9 hS => ?_)
    obtain ⟨g52, w52, he52, hsy52, hvb52⟩ := hq9
    rw [he52] at hP
    have hP : mw G.1 vwCl B (mu (mu μ ab (.inl (G.2 0, 3744, .inr (.inl g52)))) av (.inl (G.2 2, 26, .inl w52))) _ := mw_eq ((congrArg (fun z => mu z av (.inl (G.2 2, 26, .inl w52))) ((mu_c _ _ ((mp_ne hav hab (by simp)))).trans (congrArg (fun z => mu z av (.inl (G.2 2, 26, .inl (upd v 25 (v (14 + pp)))))) (mu_u _ _ _ _)))).trans (mu_u _ _ _ _)) hP
    refine lv_aload_n hx hb dX4_go_55 rfl (lv_at hl 1 rfl) ?_
    refine lv_bipush (v := nI 25) hx hb dX4_go_56 (by decide) ?_
    refine lv_iload_n hx hb dX4_go_58 rfl (lv_at hl 0 rfl) ?_
    refine kc_i (va_runV (As := [.int (nI 25), .int (nI (14 + qq))]) (rest := []) ⟨hx, hb, hml, hown, hts⟩ (m_X4_isWithin l G B (mu (mu μ ab (.inl (G.2 0, 3744, .inr (.inl g52)))) av (.inl (G.2 2, 26, .inl w52))) md ab av c1 c2 c3 c4 c5 c6 c7 c8 c9 fl st g52 w52 25 (14 + qq) ((mu_n ne0_2).trans ((mu_n ne0_1).trans (hm))) ((mu_n ((mp_ne hab hav (by simp)))).trans (mu_s _ _ _)) (mu_s _ _ _) (by omega) (by omega) (hvb52)) (cwV 2 hts gX4_go_X4_isWithin rfl rfl rfl (by decide +kernel) ⟨Nat.le_of_ble_eq_true rfl, Nat.le_of_ble_eq_true rfl⟩) ⟨KW.blind, hP.recv hK rfl ((mu_n ne0_2).trans ((mu_n ne0_1).trans (hm))), fun U9 hU9 hW9 => ⟨rfl, KW.pre hBs hKK hS hP U9 hU9 hW9⟩⟩ rfl rfl hl.1 rfl (lv_room (Nat.le_of_ble_eq_true rfl)) dX4_go_59 ⟨(Nat.le_of_ble_eq_true rfl), (Nat.le_of_ble_eq_true rfl)⟩) hS (fun r59 m59 H locs hq9 hP hz9 hS => ?_)
    obtain ⟨he9, hbr59⟩ := hq9
    rw [he9] at hP
    refine lv_if_eq (tgt := 67) hx hb dX4_go_62 (by decide) (fun hc62 => ?_) (fun hc62 => ?_)
    · refine lv_aload_n hx hb dX4_go_67 rfl (lv_at hl 1 rfl) ?_
      refine lv_iload_n hx hb dX4_go_68 rfl (lv_at hl 0 rfl) ?_
      refine lv_bipush (v := nI 25) hx hb dX4_go_69 (by decide) ?_
      refine kc_v (va_runV (As := [.int (nI (14 + qq)), .int (nI 25)]) (rest := []) ⟨hx, hb, hml, hown, hts⟩ (m_X4_joined l G B (mu (mu μ ab (.inl (G.2 0, 3744, .inr (.inl g52)))) av (.inl (G.2 2, 26, .inl w52))) md ab av c1 c2 c3 c4 c5 c6 c7 c8 c9 fl st g52 w52 (14 + qq) 25 ((mu_n ne0_2).trans ((mu_n ne0_1).trans (hm))) ((mu_n ((mp_ne hab hav (by simp)))).trans (mu_s _ _ _)) (mu_s _ _ _) (by omega) (by omega) (by omega) (hsy52) (hvb52)) (cwV 2 hts gX4_go_X4_joined rfl rfl rfl (by decide +kernel) ⟨Nat.le_of_ble_eq_true rfl, Nat.le_of_ble_eq_true rfl⟩) ⟨KW.blind, hP.recv hK rfl ((mu_n ne0_2).trans ((mu_n ne0_1).trans (hm))), fun U9 hU9 hW9 => ⟨rfl, KW.pre hBs hKK hS hP U9 hU9 hW9⟩⟩ rfl rfl hl.1 rfl (lv_room (Nat.le_of_ble_eq_true rfl)) dX4_go_71 ⟨(Nat.le_of_ble_eq_true rfl), (Nat.le_of_ble_eq_true rfl)⟩) hS (fun m71 H locs hq9 hP hz9 hS => ?_)
      obtain ⟨g71, w71, he71, hsy71, hvb71⟩ := hq9
      rw [he71] at hP
      have hP : mw G.1 vwCl B (mu (mu μ ab (.inl (G.2 0, 3744, .inr (.inl g71)))) av (.inl (G.2 2, 26, .inl w71))) _ := mw_eq ((congrArg (fun z => mu z av (.inl (G.2 2, 26, .inl w71))) ((mu_c _ _ ((mp_ne hav hab (by simp)))).trans (congrArg (fun z => mu z av (.inl (G.2 2, 26, .inl w52))) (mu_u _ _ _ _)))).trans (mu_u _ _ _ _)) hP
      refine lv_iload_n hx hb dX4_go_74 rfl (lv_at hl 3 rfl) ?_
      refine lv_iconst (v := nI 3) hx hb dX4_go_75 (by decide) ?_
      refine nv_icmp_le (tgt := 111) hx hb (by omega) (by omega) dX4_go_76 (by decide) (fun hc76 => ?_) (fun hc76 => ?_)
      · refine lv_aload_n hx hb dX4_go_111 rfl (lv_at hl 1 rfl) ?_
        refine lv_iload_n hx hb dX4_go_112 rfl (lv_at hl 0 rfl) ?_
        refine lv_bipush (v := nI 22) hx hb dX4_go_113 (by decide) ?_
        refine kc_v (va_runV (As := [.int (nI (14 + qq)), .int (nI 22)]) (rest := []) ⟨hx, hb, hml, hown, hts⟩ (c_X4_load l G B (mu (mu μ ab (.inl (G.2 0, 3744, .inr (.inl g71)))) av (.inl (G.2 2, 26, .inl w71))) md ab av c1 c2 c3 c4 c5 c6 c7 c8 c9 fl st g71 w71 (14 + qq) 22 ((mu_n ne0_2).trans ((mu_n ne0_1).trans (hm))) ((mu_n ((mp_ne hab hav (by simp)))).trans (mu_s _ _ _)) (mu_s _ _ _) (by omega) (by omega) (hvb71 22)) (cwV 2 hts gX4_go_X4_load rfl rfl rfl (by decide +kernel) ⟨Nat.le_of_ble_eq_true rfl, Nat.le_of_ble_eq_true rfl⟩) ⟨KW.blind, hP.recv hK rfl ((mu_n ne0_2).trans ((mu_n ne0_1).trans (hm))), fun U9 hU9 hW9 => ⟨rfl, KW.pre hBs hKK hS hP U9 hU9 hW9⟩⟩ rfl rfl hl.1 rfl (lv_room (Nat.le_of_ble_eq_true rfl)) dX4_go_115 ⟨(Nat.le_of_ble_eq_true rfl), (Nat.le_of_ble_eq_true rfl)⟩) hS (fun m115 H locs hq9 hP hz9 hS => ?_)
        obtain ⟨g115, he115, hL115⟩ := hq9
        rw [he115] at hP
        have hP : mw G.1 vwCl B (mu (mu μ ab (.inl (G.2 0, 3744, .inr (.inl g115)))) av (.inl (G.2 2, 26, .inl (upd w71 (14 + qq) (w71 22))))) _ := mw_eq ((congrArg (fun z => mu z av (.inl (G.2 2, 26, .inl (upd w71 (14 + qq) (w71 22))))) ((mu_c _ _ ((mp_ne hav hab (by simp)))).trans (congrArg (fun z => mu z av (.inl (G.2 2, 26, .inl w71))) (mu_u _ _ _ _)))).trans (mu_u _ _ _ _)) hP
        refine lv_iconst (v := nI 1) hx hb dX4_go_118 (by decide) ?_
        rw [hQ]
        exact W.zret (v := nI 1) (ty := .boolean) hx hb hr (by first | rfl | decide) (fun t99 ht99 hW99 => ⟨⟨nI 1, mu (mu μ ab (.inl (G.2 0, 3744, .inr (.inl g115)))) av (.inl (G.2 2, 26, .inl (upd w71 (14 + qq) (w71 22)))), rfl, (⟨Or.inr rfl, _, _, rfl, (hsy71.ld hL115 (by omega)), (VB.u hvb71 (hvb71 22))⟩), by show mw _ _ _ _ t99.heap; rw [ht99]; exact hP⟩, hS.F ht99⟩) hS.2.2 dX4_go_119
      · refine lv_aload_n hx hb dX4_go_79 rfl (lv_at hl 1 rfl) ?_
        refine mw_get (C := RX4) (T := TX4) (N := 13) hx hb hts in_X4_go_X4 hown hK hP ((mu_n ne0_2).trans ((mu_n ne0_1).trans (hm))) rfl 5 (by decide) (hts (.fieldLink RX4 21 "OctagonDeskModel" "toPoint" "[I") (by decide +kernel)) (fun _ h9 => h9) rfl dX4_go_80 ?_
        refine lv_iload_n hx hb dX4_go_83 rfl (lv_at hl 2 rfl) ?_
        refine mw_iald hx hb hK hP 1 ((mu_n ((mp_ne hc_2 hav (by simp)))).trans ((mu_n ((mp_ne hc_2 hab (by simp)))).trans (hc_2))) rfl (by omega) (by omega) dX4_go_84 ?_
        refine nv_eqi (y := nI qq) e2 ?_
        refine lv_aload_n hx hb dX4_go_85 rfl (lv_at hl 1 rfl) ?_
        refine mw_get (C := RX4) (T := TX4) (N := 13) hx hb hts in_X4_go_X4 hown hK hP ((mu_n ne0_2).trans ((mu_n ne0_1).trans (hm))) rfl 4 (by decide) (hts (.fieldLink RX4 17 "OctagonDeskModel" "fromPoint" "[I") (by decide +kernel)) (fun _ h9 => h9) rfl dX4_go_86 ?_
        refine lv_iload_n hx hb dX4_go_89 rfl (lv_at hl 2 rfl) ?_
        refine mw_iald hx hb hK hP 1 ((mu_n ((mp_ne hc_1 hav (by simp)))).trans ((mu_n ((mp_ne hc_1 hab (by simp)))).trans (hc_1))) rfl (by omega) (by omega) dX4_go_90 ?_
        refine nv_eqi (y := nI pp) e1 ?_
        refine nv_icmp_gt (tgt := 111) hx hb (by omega) (by omega) dX4_go_91 (by decide) (fun hc91 => ?_) (fun hc91 => ?_)
        · refine lv_aload_n hx hb dX4_go_111 rfl (lv_at hl 1 rfl) ?_
          refine lv_iload_n hx hb dX4_go_112 rfl (lv_at hl 0 rfl) ?_
          refine lv_bipush (v := nI 22) hx hb dX4_go_113 (by decide) ?_
          refine kc_v (va_runV (As := [.int (nI (14 + qq)), .int (nI 22)]) (rest := []) ⟨hx, hb, hml, hown, hts⟩ (c_X4_load l G B (mu (mu μ ab (.inl (G.2 0, 3744, .inr (.inl g71)))) av (.inl (G.2 2, 26, .inl w71))) md ab av c1 c2 c3 c4 c5 c6 c7 c8 c9 fl st g71 w71 (14 + qq) 22 ((mu_n ne0_2).trans ((mu_n ne0_1).trans (hm))) ((mu_n ((mp_ne hab hav (by simp)))).trans (mu_s _ _ _)) (mu_s _ _ _) (by omega) (by omega) (hvb71 22)) (cwV 2 hts gX4_go_X4_load rfl rfl rfl (by decide +kernel) ⟨Nat.le_of_ble_eq_true rfl, Nat.le_of_ble_eq_true rfl⟩) ⟨KW.blind, hP.recv hK rfl ((mu_n ne0_2).trans ((mu_n ne0_1).trans (hm))), fun U9 hU9 hW9 => ⟨rfl, KW.pre hBs hKK hS hP U9 hU9 hW9⟩⟩ rfl rfl hl.1 rfl (lv_room (Nat.le_of_ble_eq_true rfl)) dX4_go_115 ⟨(Nat.le_of_ble_eq_true rfl), (Nat.le_of_ble_eq_true rfl)⟩) hS (fun m115 H locs hq9 hP hz9 hS => ?_)
          obtain ⟨g115, he115, hL115⟩ := hq9
          rw [he115] at hP
          have hP : mw G.1 vwCl B (mu (mu μ ab (.inl (G.2 0, 3744, .inr (.inl g115)))) av (.inl (G.2 2, 26, .inl (upd w71 (14 + qq) (w71 22))))) _ := mw_eq ((congrArg (fun z => mu z av (.inl (G.2 2, 26, .inl (upd w71 (14 + qq) (w71 22))))) ((mu_c _ _ ((mp_ne hav hab (by simp)))).trans (congrArg (fun z => mu z av (.inl (G.2 2, 26, .inl w71))) (mu_u _ _ _ _)))).trans (mu_u _ _ _ _)) hP
          refine lv_iconst (v := nI 1) hx hb dX4_go_118 (by decide) ?_
          rw [hQ]
          exact W.zret (v := nI 1) (ty := .boolean) hx hb hr (by first | rfl | decide) (fun t99 ht99 hW99 => ⟨⟨nI 1, mu (mu μ ab (.inl (G.2 0, 3744, .inr (.inl g115)))) av (.inl (G.2 2, 26, .inl (upd w71 (14 + qq) (w71 22)))), rfl, (⟨Or.inr rfl, _, _, rfl, (hsy71.ld hL115 (by omega)), (VB.u hvb71 (hvb71 22))⟩), by show mw _ _ _ _ t99.heap; rw [ht99]; exact hP⟩, hS.F ht99⟩) hS.2.2 dX4_go_119
        · refine lv_aload_n hx hb dX4_go_94 rfl (lv_at hl 1 rfl) ?_
          refine lv_iload_n hx hb dX4_go_95 rfl (lv_at hl 0 rfl) ?_
          refine lv_bipush (v := nI 22) hx hb dX4_go_96 (by decide) ?_
          refine kc_v (va_runV (As := [.int (nI (14 + qq)), .int (nI 22)]) (rest := []) ⟨hx, hb, hml, hown, hts⟩ (m_X4_widened l G B (mu (mu μ ab (.inl (G.2 0, 3744, .inr (.inl g71)))) av (.inl (G.2 2, 26, .inl w71))) md ab av c1 c2 c3 c4 c5 c6 c7 c8 c9 fl st g71 w71 (14 + qq) 22 ((mu_n ne0_2).trans ((mu_n ne0_1).trans (hm))) ((mu_n ((mp_ne hab hav (by simp)))).trans (mu_s _ _ _)) (mu_s _ _ _) (by omega) (by omega) (by omega) (by omega) (hsy71) (hvb71)) (cwV 2 hts gX4_go_X4_widened rfl rfl rfl (by decide +kernel) ⟨Nat.le_of_ble_eq_true rfl, Nat.le_of_ble_eq_true rfl⟩) ⟨KW.blind, hP.recv hK rfl ((mu_n ne0_2).trans ((mu_n ne0_1).trans (hm))), fun U9 hU9 hW9 => ⟨rfl, KW.pre hBs hKK hS hP U9 hU9 hW9⟩⟩ rfl rfl hl.1 rfl (lv_room (Nat.le_of_ble_eq_true rfl)) dX4_go_98 ⟨(Nat.le_of_ble_eq_true rfl), (Nat.le_of_ble_eq_true rfl)⟩) hS (fun m98 H locs hq9 hP hz9 hS => ?_)
          obtain ⟨g98, w98, he98, hsy98, hvb98⟩ := hq9
          rw [he98] at hP
          have hP : mw G.1 vwCl B (mu (mu μ ab (.inl (G.2 0, 3744, .inr (.inl g98)))) av (.inl (G.2 2, 26, .inl w98))) _ := mw_eq ((congrArg (fun z => mu z av (.inl (G.2 2, 26, .inl w98))) ((mu_c _ _ ((mp_ne hav hab (by simp)))).trans (congrArg (fun z => mu z av (.inl (G.2 2, 26, .inl w71))) (mu_u _ _ _ _)))).trans (mu_u _ _ _ _)) hP
          refine lv_aload_n hx hb dX4_go_101 rfl (lv_at hl 1 rfl) ?_
          refine lv_iload_n hx hb dX4_go_102 rfl (lv_at hl 0 rfl) ?_
          refine lv_bipush (v := nI 23) hx hb dX4_go_103 (by decide) ?_
          refine kc_v (va_runV (As := [.int (nI (14 + qq)), .int (nI 23)]) (rest := []) ⟨hx, hb, hml, hown, hts⟩ (c_X4_load l G B (mu (mu μ ab (.inl (G.2 0, 3744, .inr (.inl g98)))) av (.inl (G.2 2, 26, .inl w98))) md ab av c1 c2 c3 c4 c5 c6 c7 c8 c9 fl st g98 w98 (14 + qq) 23 ((mu_n ne0_2).trans ((mu_n ne0_1).trans (hm))) ((mu_n ((mp_ne hab hav (by simp)))).trans (mu_s _ _ _)) (mu_s _ _ _) (by omega) (by omega) (hvb98 23)) (cwV 2 hts gX4_go_X4_load rfl rfl rfl (by decide +kernel) ⟨Nat.le_of_ble_eq_true rfl, Nat.le_of_ble_eq_true rfl⟩) ⟨KW.blind, hP.recv hK rfl ((mu_n ne0_2).trans ((mu_n ne0_1).trans (hm))), fun U9 hU9 hW9 => ⟨rfl, KW.pre hBs hKK hS hP U9 hU9 hW9⟩⟩ rfl rfl hl.1 rfl (lv_room (Nat.le_of_ble_eq_true rfl)) dX4_go_105 ⟨(Nat.le_of_ble_eq_true rfl), (Nat.le_of_ble_eq_true rfl)⟩) hS (fun m105 H locs hq9 hP hz9 hS => ?_)
          obtain ⟨g105, he105, hL105⟩ := hq9
          rw [he105] at hP
          have hP : mw G.1 vwCl B (mu (mu μ ab (.inl (G.2 0, 3744, .inr (.inl g105)))) av (.inl (G.2 2, 26, .inl (upd w98 (14 + qq) (w98 23))))) _ := mw_eq ((congrArg (fun z => mu z av (.inl (G.2 2, 26, .inl (upd w98 (14 + qq) (w98 23))))) ((mu_c _ _ ((mp_ne hav hab (by simp)))).trans (congrArg (fun z => mu z av (.inl (G.2 2, 26, .inl w98))) (mu_u _ _ _ _)))).trans (mu_u _ _ _ _)) hP
          refine lv_goto (tgt := 118) hx hb dX4_go_108 (by decide) ?_
          refine lv_iconst (v := nI 1) hx hb dX4_go_118 (by decide) ?_
          rw [hQ]
          exact W.zret (v := nI 1) (ty := .boolean) hx hb hr (by first | rfl | decide) (fun t99 ht99 hW99 => ⟨⟨nI 1, mu (mu μ ab (.inl (G.2 0, 3744, .inr (.inl g105)))) av (.inl (G.2 2, 26, .inl (upd w98 (14 + qq) (w98 23)))), rfl, (⟨Or.inr rfl, _, _, rfl, (hsy98.ld hL105 (by omega)), (VB.u hvb98 (hvb98 23))⟩), by show mw _ _ _ _ t99.heap; rw [ht99]; exact hP⟩, hS.F ht99⟩) hS.2.2 dX4_go_119
    · refine lv_iconst (v := nI 0) hx hb dX4_go_65 (by decide) ?_
      rw [hQ]
      exact W.zret (v := nI 0) (ty := .boolean) hx hb hr (by first | rfl | decide) (fun t99 ht99 hW99 => ⟨⟨nI 0, mu (mu μ ab (.inl (G.2 0, 3744, .inr (.inl g52)))) av (.inl (G.2 2, 26, .inl w52)), rfl, (⟨Or.inl rfl, _, _, rfl, hsy52, hvb52⟩), by show mw _ _ _ _ t99.heap; rw [ht99]; exact hP⟩, hS.F ht99⟩) hS.2.2 dX4_go_66
  · replace ek9 : i3 k9 = nI 1 := ek9.trans (by decide)
    obtain ⟨na, hna, ena⟩ := ok_nat (n := 6) (by decide) hp1
    obtain ⟨nb, hnb, enb⟩ := ok_nat (n := 12) (by decide) hp2
    refine lv_bipush (v := nI 14) hx hb dX4_go_0 (by decide) ?_
    refine lv_aload_n hx hb dX4_go_2 rfl (lv_at hl 0 rfl) ?_
    refine mw_get (C := RX4) (T := TX4) (N := 13) hx hb hts in_X4_go_X4 hown hK hP ((mu_n ne0_2).trans ((mu_n ne0_1).trans (hm))) rfl 5 (by decide) (hts (.fieldLink RX4 21 "OctagonDeskModel" "toPoint" "[I") (by decide +kernel)) (fun _ h9 => h9) rfl dX4_go_3 ?_
    refine lv_iload_n hx hb dX4_go_6 rfl (lv_at hl 1 rfl) ?_
    refine mw_iald hx hb hK hP 1 ((mu_n ((mp_ne hc_2 hav (by simp)))).trans ((mu_n ((mp_ne hc_2 hab (by simp)))).trans (hc_2))) rfl (by omega) (by omega) dX4_go_7 ?_
    refine nv_eqi (y := nI qq) e2 ?_
    refine nv_iadd hx hb dX4_go_8 ?_
    refine lv_istore_n (lv' := [(3, .int (nI (14 + qq))), (0, .ref md), (1, .int (nI k9)), (2, .int (nI rn))]) hx hb dX4_go_9 rfl hl (by decide) rfl (fun ls hl => ?_)
    refine lv_aload_n hx hb dX4_go_10 rfl (lv_at hl 1 rfl) ?_
    refine lv_bipush (v := nI 25) hx hb dX4_go_11 (by decide) ?_
    refine lv_bipush (v := nI 14) hx hb dX4_go_13 (by decide) ?_
    refine lv_aload_n hx hb dX4_go_15 rfl (lv_at hl 1 rfl) ?_
    refine mw_get (C := RX4) (T := TX4) (N := 13) hx hb hts in_X4_go_X4 hown hK hP ((mu_n ne0_2).trans ((mu_n ne0_1).trans (hm))) rfl 4 (by decide) (hts (.fieldLink RX4 17 "OctagonDeskModel" "fromPoint" "[I") (by decide +kernel)) (fun _ h9 => h9) rfl dX4_go_16 ?_
    refine lv_iload_n hx hb dX4_go_19 rfl (lv_at hl 2 rfl) ?_
    refine mw_iald hx hb hK hP 1 ((mu_n ((mp_ne hc_1 hav (by simp)))).trans ((mu_n ((mp_ne hc_1 hab (by simp)))).trans (hc_1))) rfl (by omega) (by omega) dX4_go_20 ?_
    refine nv_eqi (y := nI pp) e1 ?_
    refine nv_iadd hx hb dX4_go_21 ?_
    refine kc_v (va_runV (As := [.int (nI 25), .int (nI (14 + pp))]) (rest := []) ⟨hx, hb, hml, hown, hts⟩ (c_X4_load l G B (mu (mu μ ab (.inl (G.2 0, 3744, .inr (.inl f)))) av (.inl (G.2 2, 26, .inl v))) md ab av c1 c2 c3 c4 c5 c6 c7 c8 c9 fl st f v 25 (14 + pp) ((mu_n ne0_2).trans ((mu_n ne0_1).trans (hm))) ((mu_n ((mp_ne hab hav (by simp)))).trans (mu_s _ _ _)) (mu_s _ _ _) (by omega) (by omega) (hvb (14 + pp))) (cwV 2 hts gX4_go_X4_load rfl rfl rfl (by decide +kernel) ⟨Nat.le_of_ble_eq_true rfl, Nat.le_of_ble_eq_true rfl⟩) ⟨KW.blind, hP.recv hK rfl ((mu_n ne0_2).trans ((mu_n ne0_1).trans (hm))), fun U9 hU9 hW9 => ⟨rfl, KW.pre hBs hKK hS hP U9 hU9 hW9⟩⟩ rfl rfl hl.1 rfl (lv_room (Nat.le_of_ble_eq_true rfl)) dX4_go_22 ⟨(Nat.le_of_ble_eq_true rfl), (Nat.le_of_ble_eq_true rfl)⟩) hS (fun m22 H locs hq9 hP hz9 hS => ?_)
    obtain ⟨g22, he22, hL22⟩ := hq9
    rw [he22] at hP
    have hP : mw G.1 vwCl B (mu (mu μ ab (.inl (G.2 0, 3744, .inr (.inl g22)))) av (.inl (G.2 2, 26, .inl (upd v 25 (v (14 + pp)))))) _ := mw_eq ((congrArg (fun z => mu z av (.inl (G.2 2, 26, .inl (upd v 25 (v (14 + pp)))))) ((mu_c _ _ ((mp_ne hav hab (by simp)))).trans (congrArg (fun z => mu z av (.inl (G.2 2, 26, .inl v))) (mu_u _ _ _ _)))).trans (mu_u _ _ _ _)) hP
    refine lv_aload_n hx hb dX4_go_25 rfl (lv_at hl 1 rfl) ?_
    refine lv_bipush (v := nI 25) hx hb dX4_go_26 (by decide) ?_
    refine lv_aload_n hx hb dX4_go_28 rfl (lv_at hl 1 rfl) ?_
    refine mw_get (C := RX4) (T := TX4) (N := 13) hx hb hts in_X4_go_X4 hown hK hP ((mu_n ne0_2).trans ((mu_n ne0_1).trans (hm))) rfl 6 (by decide) (hts (.fieldLink RX4 24 "OctagonDeskModel" "kinds" "[I") (by decide +kernel)) (fun _ h9 => h9) rfl dX4_go_29 ?_
    refine lv_iload_n hx hb dX4_go_32 rfl (lv_at hl 2 rfl) ?_
    refine mw_iald hx hb hK hP 1 ((mu_n ((mp_ne hc_3 hav (by simp)))).trans ((mu_n ((mp_ne hc_3 hab (by simp)))).trans (hc_3))) rfl (by omega) (by omega) dX4_go_33 ?_
    refine nv_eqi (y := nI 1) ek9 ?_
    refine lv_aload_n hx hb dX4_go_34 rfl (lv_at hl 1 rfl) ?_
    refine mw_get (C := RX4) (T := TX4) (N := 13) hx hb hts in_X4_go_X4 hown hK hP ((mu_n ne0_2).trans ((mu_n ne0_1).trans (hm))) rfl 7 (by decide) (hts (.fieldLink RX4 27 "OctagonDeskModel" "firsts" "[I") (by decide +kernel)) (fun _ h9 => h9) rfl dX4_go_35 ?_
    refine lv_iload_n hx hb dX4_go_38 rfl (lv_at hl 2 rfl) ?_
    refine mw_iald hx hb hK hP 1 ((mu_n ((mp_ne hc_4 hav (by simp)))).trans ((mu_n ((mp_ne hc_4 hab (by simp)))).trans (hc_4))) rfl (by omega) (by omega) dX4_go_39 ?_
    refine nv_eqi (y := nI na) ena ?_
    refine lv_aload_n hx hb dX4_go_40 rfl (lv_at hl 1 rfl) ?_
    refine mw_get (C := RX4) (T := TX4) (N := 13) hx hb hts in_X4_go_X4 hown hK hP ((mu_n ne0_2).trans ((mu_n ne0_1).trans (hm))) rfl 8 (by decide) (hts (.fieldLink RX4 30 "OctagonDeskModel" "seconds" "[I") (by decide +kernel)) (fun _ h9 => h9) rfl dX4_go_41 ?_
    refine lv_iload_n hx hb dX4_go_44 rfl (lv_at hl 2 rfl) ?_
    refine mw_iald hx hb hK hP 1 ((mu_n ((mp_ne hc_5 hav (by simp)))).trans ((mu_n ((mp_ne hc_5 hab (by simp)))).trans (hc_5))) rfl (by omega) (by omega) dX4_go_45 ?_
    refine nv_eqi (y := nI nb) enb ?_
    refine lv_aload_n hx hb dX4_go_46 rfl (lv_at hl 1 rfl) ?_
    refine mw_get (C := RX4) (T := TX4) (N := 13) hx hb hts in_X4_go_X4 hown hK hP ((mu_n ne0_2).trans ((mu_n ne0_1).trans (hm))) rfl 9 (by decide) (hts (.fieldLink RX4 33 "OctagonDeskModel" "thirds" "[I") (by decide +kernel)) (fun _ h9 => h9) rfl dX4_go_47 ?_
    refine lv_iload_n hx hb dX4_go_50 rfl (lv_at hl 2 rfl) ?_
    refine mw_iald hx hb hK hP 1 ((mu_n ((mp_ne hc_6 hav (by simp)))).trans ((mu_n ((mp_ne hc_6 hab (by simp)))).trans (hc_6))) rfl (by omega) (by omega) dX4_go_51 ?_
    refine kc_v (va_runV (As := [.int (nI 25), .int (nI 1), .int (nI na), .int (nI nb), .int (i6 k9)]) (rest := []) ⟨hx, hb, hml, hown, hts⟩ (m_X4_make_1 l G B (mu (mu μ ab (.inl (G.2 0, 3744, .inr (.inl g22)))) av (.inl (G.2 2, 26, .inl (upd v 25 (v (14 + pp)))))) md ab av c1 c2 c3 c4 c5 c6 c7 c8 c9 fl st g22 (upd v 25 (v (14 + pp))) 25 na nb (i6 k9) ((mu_n ne0_2).trans ((mu_n ne0_1).trans (hm))) ((mu_n ((mp_ne hab hav (by simp)))).trans (mu_s _ _ _)) (mu_s _ _ _) (by omega) (by omega) (by omega) (hsy.ld hL22 (by omega)) (VB.u hvb (hvb (14 + pp)))) (cwV 5 hts gX4_go_X4_make rfl rfl rfl (by decide +kernel) ⟨Nat.le_of_ble_eq_true rfl, Nat.le_of_ble_eq_true rfl⟩) ⟨KW.blind, hP.recv hK rfl ((mu_n ne0_2).trans ((mu_n ne0_1).trans (hm))), fun U9 hU9 hW9 => ⟨rfl, KW.pre hBs hKK hS hP U9 hU9 hW9⟩⟩ rfl rfl hl.1 rfl (lv_room (Nat.le_of_ble_eq_true rfl)) dX4_go_52 ⟨(Nat.le_of_ble_eq_true rfl), (Nat.le_of_ble_eq_true rfl)⟩) hS (fun m52 H locs hq9 hP hz9 hS => ?_)
    obtain ⟨g52, w52, he52, hsy52, hvb52⟩ := hq9
    rw [he52] at hP
    have hP : mw G.1 vwCl B (mu (mu μ ab (.inl (G.2 0, 3744, .inr (.inl g52)))) av (.inl (G.2 2, 26, .inl w52))) _ := mw_eq ((congrArg (fun z => mu z av (.inl (G.2 2, 26, .inl w52))) ((mu_c _ _ ((mp_ne hav hab (by simp)))).trans (congrArg (fun z => mu z av (.inl (G.2 2, 26, .inl (upd v 25 (v (14 + pp)))))) (mu_u _ _ _ _)))).trans (mu_u _ _ _ _)) hP
    refine lv_aload_n hx hb dX4_go_55 rfl (lv_at hl 1 rfl) ?_
    refine lv_bipush (v := nI 25) hx hb dX4_go_56 (by decide) ?_
    refine lv_iload_n hx hb dX4_go_58 rfl (lv_at hl 0 rfl) ?_
    refine kc_i (va_runV (As := [.int (nI 25), .int (nI (14 + qq))]) (rest := []) ⟨hx, hb, hml, hown, hts⟩ (m_X4_isWithin l G B (mu (mu μ ab (.inl (G.2 0, 3744, .inr (.inl g52)))) av (.inl (G.2 2, 26, .inl w52))) md ab av c1 c2 c3 c4 c5 c6 c7 c8 c9 fl st g52 w52 25 (14 + qq) ((mu_n ne0_2).trans ((mu_n ne0_1).trans (hm))) ((mu_n ((mp_ne hab hav (by simp)))).trans (mu_s _ _ _)) (mu_s _ _ _) (by omega) (by omega) (hvb52)) (cwV 2 hts gX4_go_X4_isWithin rfl rfl rfl (by decide +kernel) ⟨Nat.le_of_ble_eq_true rfl, Nat.le_of_ble_eq_true rfl⟩) ⟨KW.blind, hP.recv hK rfl ((mu_n ne0_2).trans ((mu_n ne0_1).trans (hm))), fun U9 hU9 hW9 => ⟨rfl, KW.pre hBs hKK hS hP U9 hU9 hW9⟩⟩ rfl rfl hl.1 rfl (lv_room (Nat.le_of_ble_eq_true rfl)) dX4_go_59 ⟨(Nat.le_of_ble_eq_true rfl), (Nat.le_of_ble_eq_true rfl)⟩) hS (fun r59 m59 H locs hq9 hP hz9 hS => ?_)
    obtain ⟨he9, hbr59⟩ := hq9
    rw [he9] at hP
    refine lv_if_eq (tgt := 67) hx hb dX4_go_62 (by decide) (fun hc62 => ?_) (fun hc62 => ?_)
    · refine lv_aload_n hx hb dX4_go_67 rfl (lv_at hl 1 rfl) ?_
      refine lv_iload_n hx hb dX4_go_68 rfl (lv_at hl 0 rfl) ?_
      refine lv_bipush (v := nI 25) hx hb dX4_go_69 (by decide) ?_
      refine kc_v (va_runV (As := [.int (nI (14 + qq)), .int (nI 25)]) (rest := []) ⟨hx, hb, hml, hown, hts⟩ (m_X4_joined l G B (mu (mu μ ab (.inl (G.2 0, 3744, .inr (.inl g52)))) av (.inl (G.2 2, 26, .inl w52))) md ab av c1 c2 c3 c4 c5 c6 c7 c8 c9 fl st g52 w52 (14 + qq) 25 ((mu_n ne0_2).trans ((mu_n ne0_1).trans (hm))) ((mu_n ((mp_ne hab hav (by simp)))).trans (mu_s _ _ _)) (mu_s _ _ _) (by omega) (by omega) (by omega) (hsy52) (hvb52)) (cwV 2 hts gX4_go_X4_joined rfl rfl rfl (by decide +kernel) ⟨Nat.le_of_ble_eq_true rfl, Nat.le_of_ble_eq_true rfl⟩) ⟨KW.blind, hP.recv hK rfl ((mu_n ne0_2).trans ((mu_n ne0_1).trans (hm))), fun U9 hU9 hW9 => ⟨rfl, KW.pre hBs hKK hS hP U9 hU9 hW9⟩⟩ rfl rfl hl.1 rfl (lv_room (Nat.le_of_ble_eq_true rfl)) dX4_go_71 ⟨(Nat.le_of_ble_eq_true rfl), (Nat.le_of_ble_eq_true rfl)⟩) hS (fun m71 H locs hq9 hP hz9 hS => ?_)
      obtain ⟨g71, w71, he71, hsy71, hvb71⟩ := hq9
      rw [he71] at hP
      have hP : mw G.1 vwCl B (mu (mu μ ab (.inl (G.2 0, 3744, .inr (.inl g71)))) av (.inl (G.2 2, 26, .inl w71))) _ := mw_eq ((congrArg (fun z => mu z av (.inl (G.2 2, 26, .inl w71))) ((mu_c _ _ ((mp_ne hav hab (by simp)))).trans (congrArg (fun z => mu z av (.inl (G.2 2, 26, .inl w52))) (mu_u _ _ _ _)))).trans (mu_u _ _ _ _)) hP
      refine lv_iload_n hx hb dX4_go_74 rfl (lv_at hl 3 rfl) ?_
      refine lv_iconst (v := nI 3) hx hb dX4_go_75 (by decide) ?_
      refine nv_icmp_le (tgt := 111) hx hb (by omega) (by omega) dX4_go_76 (by decide) (fun hc76 => ?_) (fun hc76 => ?_)
      · refine lv_aload_n hx hb dX4_go_111 rfl (lv_at hl 1 rfl) ?_
        refine lv_iload_n hx hb dX4_go_112 rfl (lv_at hl 0 rfl) ?_
        refine lv_bipush (v := nI 22) hx hb dX4_go_113 (by decide) ?_
        refine kc_v (va_runV (As := [.int (nI (14 + qq)), .int (nI 22)]) (rest := []) ⟨hx, hb, hml, hown, hts⟩ (c_X4_load l G B (mu (mu μ ab (.inl (G.2 0, 3744, .inr (.inl g71)))) av (.inl (G.2 2, 26, .inl w71))) md ab av c1 c2 c3 c4 c5 c6 c7 c8 c9 fl st g71 w71 (14 + qq) 22 ((mu_n ne0_2).trans ((mu_n ne0_1).trans (hm))) ((mu_n ((mp_ne hab hav (by simp)))).trans (mu_s _ _ _)) (mu_s _ _ _) (by omega) (by omega) (hvb71 22)) (cwV 2 hts gX4_go_X4_load rfl rfl rfl (by decide +kernel) ⟨Nat.le_of_ble_eq_true rfl, Nat.le_of_ble_eq_true rfl⟩) ⟨KW.blind, hP.recv hK rfl ((mu_n ne0_2).trans ((mu_n ne0_1).trans (hm))), fun U9 hU9 hW9 => ⟨rfl, KW.pre hBs hKK hS hP U9 hU9 hW9⟩⟩ rfl rfl hl.1 rfl (lv_room (Nat.le_of_ble_eq_true rfl)) dX4_go_115 ⟨(Nat.le_of_ble_eq_true rfl), (Nat.le_of_ble_eq_true rfl)⟩) hS (fun m115 H locs hq9 hP hz9 hS => ?_)
        obtain ⟨g115, he115, hL115⟩ := hq9
        rw [he115] at hP
        have hP : mw G.1 vwCl B (mu (mu μ ab (.inl (G.2 0, 3744, .inr (.inl g115)))) av (.inl (G.2 2, 26, .inl (upd w71 (14 + qq) (w71 22))))) _ := mw_eq ((congrArg (fun z => mu z av (.inl (G.2 2, 26, .inl (upd w71 (14 + qq) (w71 22))))) ((mu_c _ _ ((mp_ne hav hab (by simp)))).trans (congrArg (fun z => mu z av (.inl (G.2 2, 26, .inl w71))) (mu_u _ _ _ _)))).trans (mu_u _ _ _ _)) hP
        refine lv_iconst (v := nI 1) hx hb dX4_go_118 (by decide) ?_
        rw [hQ]
        exact W.zret (v := nI 1) (ty := .boolean) hx hb hr (by first | rfl | decide) (fun t99 ht99 hW99 => ⟨⟨nI 1, mu (mu μ ab (.inl (G.2 0, 3744, .inr (.inl g115)))) av (.inl (G.2 2, 26, .inl (upd w71 (14 + qq) (w71 22)))), rfl, (⟨Or.inr rfl, _, _, rfl, (hsy71.ld hL115 (by omega)), (VB.u hvb71 (hvb71 22))⟩), by show mw _ _ _ _ t99.heap; rw [ht99]; exact hP⟩, hS.F ht99⟩) hS.2.2 dX4_go_119
      · refine lv_aload_n hx hb dX4_go_79 rfl (lv_at hl 1 rfl) ?_
        refine mw_get (C := RX4) (T := TX4) (N := 13) hx hb hts in_X4_go_X4 hown hK hP ((mu_n ne0_2).trans ((mu_n ne0_1).trans (hm))) rfl 5 (by decide) (hts (.fieldLink RX4 21 "OctagonDeskModel" "toPoint" "[I") (by decide +kernel)) (fun _ h9 => h9) rfl dX4_go_80 ?_
        refine lv_iload_n hx hb dX4_go_83 rfl (lv_at hl 2 rfl) ?_
        refine mw_iald hx hb hK hP 1 ((mu_n ((mp_ne hc_2 hav (by simp)))).trans ((mu_n ((mp_ne hc_2 hab (by simp)))).trans (hc_2))) rfl (by omega) (by omega) dX4_go_84 ?_
        refine nv_eqi (y := nI qq) e2 ?_
        refine lv_aload_n hx hb dX4_go_85 rfl (lv_at hl 1 rfl) ?_
        refine mw_get (C := RX4) (T := TX4) (N := 13) hx hb hts in_X4_go_X4 hown hK hP ((mu_n ne0_2).trans ((mu_n ne0_1).trans (hm))) rfl 4 (by decide) (hts (.fieldLink RX4 17 "OctagonDeskModel" "fromPoint" "[I") (by decide +kernel)) (fun _ h9 => h9) rfl dX4_go_86 ?_
        refine lv_iload_n hx hb dX4_go_89 rfl (lv_at hl 2 rfl) ?_
        refine mw_iald hx hb hK hP 1 ((mu_n ((mp_ne hc_1 hav (by simp)))).trans ((mu_n ((mp_ne hc_1 hab (by simp)))).trans (hc_1))) rfl (by omega) (by omega) dX4_go_90 ?_
        refine nv_eqi (y := nI pp) e1 ?_
        refine nv_icmp_gt (tgt := 111) hx hb (by omega) (by omega) dX4_go_91 (by decide) (fun hc91 => ?_) (fun hc91 => ?_)
        · refine lv_aload_n hx hb dX4_go_111 rfl (lv_at hl 1 rfl) ?_
          refine lv_iload_n hx hb dX4_go_112 rfl (lv_at hl 0 rfl) ?_
          refine lv_bipush (v := nI 22) hx hb dX4_go_113 (by decide) ?_
          refine kc_v (va_runV (As := [.int (nI (14 + qq)), .int (nI 22)]) (rest := []) ⟨hx, hb, hml, hown, hts⟩ (c_X4_load l G B (mu (mu μ ab (.inl (G.2 0, 3744, .inr (.inl g71)))) av (.inl (G.2 2, 26, .inl w71))) md ab av c1 c2 c3 c4 c5 c6 c7 c8 c9 fl st g71 w71 (14 + qq) 22 ((mu_n ne0_2).trans ((mu_n ne0_1).trans (hm))) ((mu_n ((mp_ne hab hav (by simp)))).trans (mu_s _ _ _)) (mu_s _ _ _) (by omega) (by omega) (hvb71 22)) (cwV 2 hts gX4_go_X4_load rfl rfl rfl (by decide +kernel) ⟨Nat.le_of_ble_eq_true rfl, Nat.le_of_ble_eq_true rfl⟩) ⟨KW.blind, hP.recv hK rfl ((mu_n ne0_2).trans ((mu_n ne0_1).trans (hm))), fun U9 hU9 hW9 => ⟨rfl, KW.pre hBs hKK hS hP U9 hU9 hW9⟩⟩ rfl rfl hl.1 rfl (lv_room (Nat.le_of_ble_eq_true rfl)) dX4_go_115 ⟨(Nat.le_of_ble_eq_true rfl), (Nat.le_of_ble_eq_true rfl)⟩) hS (fun m115 H locs hq9 hP hz9 hS => ?_)
          obtain ⟨g115, he115, hL115⟩ := hq9
          rw [he115] at hP
          have hP : mw G.1 vwCl B (mu (mu μ ab (.inl (G.2 0, 3744, .inr (.inl g115)))) av (.inl (G.2 2, 26, .inl (upd w71 (14 + qq) (w71 22))))) _ := mw_eq ((congrArg (fun z => mu z av (.inl (G.2 2, 26, .inl (upd w71 (14 + qq) (w71 22))))) ((mu_c _ _ ((mp_ne hav hab (by simp)))).trans (congrArg (fun z => mu z av (.inl (G.2 2, 26, .inl w71))) (mu_u _ _ _ _)))).trans (mu_u _ _ _ _)) hP
          refine lv_iconst (v := nI 1) hx hb dX4_go_118 (by decide) ?_
          rw [hQ]
          exact W.zret (v := nI 1) (ty := .boolean) hx hb hr (by first | rfl | decide) (fun t99 ht99 hW99 => ⟨⟨nI 1, mu (mu μ ab (.inl (G.2 0, 3744, .inr (.inl g115)))) av (.inl (G.2 2, 26, .inl (upd w71 (14 + qq) (w71 22)))), rfl, (⟨Or.inr rfl, _, _, rfl, (hsy71.ld hL115 (by omega)), (VB.u hvb71 (hvb71 22))⟩), by show mw _ _ _ _ t99.heap; rw [ht99]; exact hP⟩, hS.F ht99⟩) hS.2.2 dX4_go_119
        · refine lv_aload_n hx hb dX4_go_94 rfl (lv_at hl 1 rfl) ?_
          refine lv_iload_n hx hb dX4_go_95 rfl (lv_at hl 0 rfl) ?_
          refine lv_bipush (v := nI 22) hx hb dX4_go_96 (by decide) ?_
          refine kc_v (va_runV (As := [.int (nI (14 + qq)), .int (nI 22)]) (rest := []) ⟨hx, hb, hml, hown, hts⟩ (m_X4_widened l G B (mu (mu μ ab (.inl (G.2 0, 3744, .inr (.inl g71)))) av (.inl (G.2 2, 26, .inl w71))) md ab av c1 c2 c3 c4 c5 c6 c7 c8 c9 fl st g71 w71 (14 + qq) 22 ((mu_n ne0_2).trans ((mu_n ne0_1).trans (hm))) ((mu_n ((mp_ne hab hav (by simp)))).trans (mu_s _ _ _)) (mu_s _ _ _) (by omega) (by omega) (by omega) (by omega) (hsy71) (hvb71)) (cwV 2 hts gX4_go_X4_widened rfl rfl rfl (by decide +kernel) ⟨Nat.le_of_ble_eq_true rfl, Nat.le_of_ble_eq_true rfl⟩) ⟨KW.blind, hP.recv hK rfl ((mu_n ne0_2).trans ((mu_n ne0_1).trans (hm))), fun U9 hU9 hW9 => ⟨rfl, KW.pre hBs hKK hS hP U9 hU9 hW9⟩⟩ rfl rfl hl.1 rfl (lv_room (Nat.le_of_ble_eq_true rfl)) dX4_go_98 ⟨(Nat.le_of_ble_eq_true rfl), (Nat.le_of_ble_eq_true rfl)⟩) hS (fun m98 H locs hq9 hP hz9 hS => ?_)
          obtain ⟨g98, w98, he98, hsy98, hvb98⟩ := hq9
          rw [he98] at hP
          have hP : mw G.1 vwCl B (mu (mu μ ab (.inl (G.2 0, 3744, .inr (.inl g98)))) av (.inl (G.2 2, 26, .inl w98))) _ := mw_eq ((congrArg (fun z => mu z av (.inl (G.2 2, 26, .inl w98))) ((mu_c _ _ ((mp_ne hav hab (by simp)))).trans (congrArg (fun z => mu z av (.inl (G.2 2, 26, .inl w71))) (mu_u _ _ _ _)))).trans (mu_u _ _ _ _)) hP
          refine lv_aload_n hx hb dX4_go_101 rfl (lv_at hl 1 rfl) ?_
          refine lv_iload_n hx hb dX4_go_102 rfl (lv_at hl 0 rfl) ?_
          refine lv_bipush (v := nI 23) hx hb dX4_go_103 (by decide) ?_
          refine kc_v (va_runV (As := [.int (nI (14 + qq)), .int (nI 23)]) (rest := []) ⟨hx, hb, hml, hown, hts⟩ (c_X4_load l G B (mu (mu μ ab (.inl (G.2 0, 3744, .inr (.inl g98)))) av (.inl (G.2 2, 26, .inl w98))) md ab av c1 c2 c3 c4 c5 c6 c7 c8 c9 fl st g98 w98 (14 + qq) 23 ((mu_n ne0_2).trans ((mu_n ne0_1).trans (hm))) ((mu_n ((mp_ne hab hav (by simp)))).trans (mu_s _ _ _)) (mu_s _ _ _) (by omega) (by omega) (hvb98 23)) (cwV 2 hts gX4_go_X4_load rfl rfl rfl (by decide +kernel) ⟨Nat.le_of_ble_eq_true rfl, Nat.le_of_ble_eq_true rfl⟩) ⟨KW.blind, hP.recv hK rfl ((mu_n ne0_2).trans ((mu_n ne0_1).trans (hm))), fun U9 hU9 hW9 => ⟨rfl, KW.pre hBs hKK hS hP U9 hU9 hW9⟩⟩ rfl rfl hl.1 rfl (lv_room (Nat.le_of_ble_eq_true rfl)) dX4_go_105 ⟨(Nat.le_of_ble_eq_true rfl), (Nat.le_of_ble_eq_true rfl)⟩) hS (fun m105 H locs hq9 hP hz9 hS => ?_)
          obtain ⟨g105, he105, hL105⟩ := hq9
          rw [he105] at hP
          have hP : mw G.1 vwCl B (mu (mu μ ab (.inl (G.2 0, 3744, .inr (.inl g105)))) av (.inl (G.2 2, 26, .inl (upd w98 (14 + qq) (w98 23))))) _ := mw_eq ((congrArg (fun z => mu z av (.inl (G.2 2, 26, .inl (upd w98 (14 + qq) (w98 23))))) ((mu_c _ _ ((mp_ne hav hab (by simp)))).trans (congrArg (fun z => mu z av (.inl (G.2 2, 26, .inl w98))) (mu_u _ _ _ _)))).trans (mu_u _ _ _ _)) hP
          refine lv_goto (tgt := 118) hx hb dX4_go_108 (by decide) ?_
          refine lv_iconst (v := nI 1) hx hb dX4_go_118 (by decide) ?_
          rw [hQ]
          exact W.zret (v := nI 1) (ty := .boolean) hx hb hr (by first | rfl | decide) (fun t99 ht99 hW99 => ⟨⟨nI 1, mu (mu μ ab (.inl (G.2 0, 3744, .inr (.inl g105)))) av (.inl (G.2 2, 26, .inl (upd w98 (14 + qq) (w98 23)))), rfl, (⟨Or.inr rfl, _, _, rfl, (hsy98.ld hL105 (by omega)), (VB.u hvb98 (hvb98 23))⟩), by show mw _ _ _ _ t99.heap; rw [ht99]; exact hP⟩, hS.F ht99⟩) hS.2.2 dX4_go_119
    · refine lv_iconst (v := nI 0) hx hb dX4_go_65 (by decide) ?_
      rw [hQ]
      exact W.zret (v := nI 0) (ty := .boolean) hx hb hr (by first | rfl | decide) (fun t99 ht99 hW99 => ⟨⟨nI 0, mu (mu μ ab (.inl (G.2 0, 3744, .inr (.inl g52)))) av (.inl (G.2 2, 26, .inl w52)), rfl, (⟨Or.inl rfl, _, _, rfl, hsy52, hvb52⟩), by show mw _ _ _ _ t99.heap; rw [ht99]; exact hP⟩, hS.F ht99⟩) hS.2.2 dX4_go_66
  · replace ek9 : i3 k9 = nI 2 := ek9.trans (by decide)
    obtain ⟨na, hna, ena⟩ := ok_nat (n := 6) (by decide) hp1
    refine lv_bipush (v := nI 14) hx hb dX4_go_0 (by decide) ?_
    refine lv_aload_n hx hb dX4_go_2 rfl (lv_at hl 0 rfl) ?_
    refine mw_get (C := RX4) (T := TX4) (N := 13) hx hb hts in_X4_go_X4 hown hK hP ((mu_n ne0_2).trans ((mu_n ne0_1).trans (hm))) rfl 5 (by decide) (hts (.fieldLink RX4 21 "OctagonDeskModel" "toPoint" "[I") (by decide +kernel)) (fun _ h9 => h9) rfl dX4_go_3 ?_
    refine lv_iload_n hx hb dX4_go_6 rfl (lv_at hl 1 rfl) ?_
    refine mw_iald hx hb hK hP 1 ((mu_n ((mp_ne hc_2 hav (by simp)))).trans ((mu_n ((mp_ne hc_2 hab (by simp)))).trans (hc_2))) rfl (by omega) (by omega) dX4_go_7 ?_
    refine nv_eqi (y := nI qq) e2 ?_
    refine nv_iadd hx hb dX4_go_8 ?_
    refine lv_istore_n (lv' := [(3, .int (nI (14 + qq))), (0, .ref md), (1, .int (nI k9)), (2, .int (nI rn))]) hx hb dX4_go_9 rfl hl (by decide) rfl (fun ls hl => ?_)
    refine lv_aload_n hx hb dX4_go_10 rfl (lv_at hl 1 rfl) ?_
    refine lv_bipush (v := nI 25) hx hb dX4_go_11 (by decide) ?_
    refine lv_bipush (v := nI 14) hx hb dX4_go_13 (by decide) ?_
    refine lv_aload_n hx hb dX4_go_15 rfl (lv_at hl 1 rfl) ?_
    refine mw_get (C := RX4) (T := TX4) (N := 13) hx hb hts in_X4_go_X4 hown hK hP ((mu_n ne0_2).trans ((mu_n ne0_1).trans (hm))) rfl 4 (by decide) (hts (.fieldLink RX4 17 "OctagonDeskModel" "fromPoint" "[I") (by decide +kernel)) (fun _ h9 => h9) rfl dX4_go_16 ?_
    refine lv_iload_n hx hb dX4_go_19 rfl (lv_at hl 2 rfl) ?_
    refine mw_iald hx hb hK hP 1 ((mu_n ((mp_ne hc_1 hav (by simp)))).trans ((mu_n ((mp_ne hc_1 hab (by simp)))).trans (hc_1))) rfl (by omega) (by omega) dX4_go_20 ?_
    refine nv_eqi (y := nI pp) e1 ?_
    refine nv_iadd hx hb dX4_go_21 ?_
    refine kc_v (va_runV (As := [.int (nI 25), .int (nI (14 + pp))]) (rest := []) ⟨hx, hb, hml, hown, hts⟩ (c_X4_load l G B (mu (mu μ ab (.inl (G.2 0, 3744, .inr (.inl f)))) av (.inl (G.2 2, 26, .inl v))) md ab av c1 c2 c3 c4 c5 c6 c7 c8 c9 fl st f v 25 (14 + pp) ((mu_n ne0_2).trans ((mu_n ne0_1).trans (hm))) ((mu_n ((mp_ne hab hav (by simp)))).trans (mu_s _ _ _)) (mu_s _ _ _) (by omega) (by omega) (hvb (14 + pp))) (cwV 2 hts gX4_go_X4_load rfl rfl rfl (by decide +kernel) ⟨Nat.le_of_ble_eq_true rfl, Nat.le_of_ble_eq_true rfl⟩) ⟨KW.blind, hP.recv hK rfl ((mu_n ne0_2).trans ((mu_n ne0_1).trans (hm))), fun U9 hU9 hW9 => ⟨rfl, KW.pre hBs hKK hS hP U9 hU9 hW9⟩⟩ rfl rfl hl.1 rfl (lv_room (Nat.le_of_ble_eq_true rfl)) dX4_go_22 ⟨(Nat.le_of_ble_eq_true rfl), (Nat.le_of_ble_eq_true rfl)⟩) hS (fun m22 H locs hq9 hP hz9 hS => ?_)
    obtain ⟨g22, he22, hL22⟩ := hq9
    rw [he22] at hP
    have hP : mw G.1 vwCl B (mu (mu μ ab (.inl (G.2 0, 3744, .inr (.inl g22)))) av (.inl (G.2 2, 26, .inl (upd v 25 (v (14 + pp)))))) _ := mw_eq ((congrArg (fun z => mu z av (.inl (G.2 2, 26, .inl (upd v 25 (v (14 + pp)))))) ((mu_c _ _ ((mp_ne hav hab (by simp)))).trans (congrArg (fun z => mu z av (.inl (G.2 2, 26, .inl v))) (mu_u _ _ _ _)))).trans (mu_u _ _ _ _)) hP
    refine lv_aload_n hx hb dX4_go_25 rfl (lv_at hl 1 rfl) ?_
    refine lv_bipush (v := nI 25) hx hb dX4_go_26 (by decide) ?_
    refine lv_aload_n hx hb dX4_go_28 rfl (lv_at hl 1 rfl) ?_
    refine mw_get (C := RX4) (T := TX4) (N := 13) hx hb hts in_X4_go_X4 hown hK hP ((mu_n ne0_2).trans ((mu_n ne0_1).trans (hm))) rfl 6 (by decide) (hts (.fieldLink RX4 24 "OctagonDeskModel" "kinds" "[I") (by decide +kernel)) (fun _ h9 => h9) rfl dX4_go_29 ?_
    refine lv_iload_n hx hb dX4_go_32 rfl (lv_at hl 2 rfl) ?_
    refine mw_iald hx hb hK hP 1 ((mu_n ((mp_ne hc_3 hav (by simp)))).trans ((mu_n ((mp_ne hc_3 hab (by simp)))).trans (hc_3))) rfl (by omega) (by omega) dX4_go_33 ?_
    refine nv_eqi (y := nI 2) ek9 ?_
    refine lv_aload_n hx hb dX4_go_34 rfl (lv_at hl 1 rfl) ?_
    refine mw_get (C := RX4) (T := TX4) (N := 13) hx hb hts in_X4_go_X4 hown hK hP ((mu_n ne0_2).trans ((mu_n ne0_1).trans (hm))) rfl 7 (by decide) (hts (.fieldLink RX4 27 "OctagonDeskModel" "firsts" "[I") (by decide +kernel)) (fun _ h9 => h9) rfl dX4_go_35 ?_
    refine lv_iload_n hx hb dX4_go_38 rfl (lv_at hl 2 rfl) ?_
    refine mw_iald hx hb hK hP 1 ((mu_n ((mp_ne hc_4 hav (by simp)))).trans ((mu_n ((mp_ne hc_4 hab (by simp)))).trans (hc_4))) rfl (by omega) (by omega) dX4_go_39 ?_
    refine nv_eqi (y := nI na) ena ?_
    refine lv_aload_n hx hb dX4_go_40 rfl (lv_at hl 1 rfl) ?_
    refine mw_get (C := RX4) (T := TX4) (N := 13) hx hb hts in_X4_go_X4 hown hK hP ((mu_n ne0_2).trans ((mu_n ne0_1).trans (hm))) rfl 8 (by decide) (hts (.fieldLink RX4 30 "OctagonDeskModel" "seconds" "[I") (by decide +kernel)) (fun _ h9 => h9) rfl dX4_go_41 ?_
    refine lv_iload_n hx hb dX4_go_44 rfl (lv_at hl 2 rfl) ?_
    refine mw_iald hx hb hK hP 1 ((mu_n ((mp_ne hc_5 hav (by simp)))).trans ((mu_n ((mp_ne hc_5 hab (by simp)))).trans (hc_5))) rfl (by omega) (by omega) dX4_go_45 ?_
    refine lv_aload_n hx hb dX4_go_46 rfl (lv_at hl 1 rfl) ?_
    refine mw_get (C := RX4) (T := TX4) (N := 13) hx hb hts in_X4_go_X4 hown hK hP ((mu_n ne0_2).trans ((mu_n ne0_1).trans (hm))) rfl 9 (by decide) (hts (.fieldLink RX4 33 "OctagonDeskModel" "thirds" "[I") (by decide +kernel)) (fun _ h9 => h9) rfl dX4_go_47 ?_
    refine lv_iload_n hx hb dX4_go_50 rfl (lv_at hl 2 rfl) ?_
    refine mw_iald hx hb hK hP 1 ((mu_n ((mp_ne hc_6 hav (by simp)))).trans ((mu_n ((mp_ne hc_6 hab (by simp)))).trans (hc_6))) rfl (by omega) (by omega) dX4_go_51 ?_
    refine kc_v (va_runV (As := [.int (nI 25), .int (nI 2), .int (nI na), .int (i5 k9), .int (i6 k9)]) (rest := []) ⟨hx, hb, hml, hown, hts⟩ (m_X4_make_2 l G B (mu (mu μ ab (.inl (G.2 0, 3744, .inr (.inl g22)))) av (.inl (G.2 2, 26, .inl (upd v 25 (v (14 + pp)))))) md ab av c1 c2 c3 c4 c5 c6 c7 c8 c9 fl st g22 (upd v 25 (v (14 + pp))) 25 na (i5 k9) (i6 k9) ((mu_n ne0_2).trans ((mu_n ne0_1).trans (hm))) ((mu_n ((mp_ne hab hav (by simp)))).trans (mu_s _ _ _)) (mu_s _ _ _) (by omega) (by omega) (hsy.ld hL22 (by omega)) (VB.u hvb (hvb (14 + pp)))) (cwV 5 hts gX4_go_X4_make rfl rfl rfl (by decide +kernel) ⟨Nat.le_of_ble_eq_true rfl, Nat.le_of_ble_eq_true rfl⟩) ⟨KW.blind, hP.recv hK rfl ((mu_n ne0_2).trans ((mu_n ne0_1).trans (hm))), fun U9 hU9 hW9 => ⟨rfl, KW.pre hBs hKK hS hP U9 hU9 hW9⟩⟩ rfl rfl hl.1 rfl (lv_room (Nat.le_of_ble_eq_true rfl)) dX4_go_52 ⟨(Nat.le_of_ble_eq_true rfl), (Nat.le_of_ble_eq_true rfl)⟩) hS (fun m52 H locs hq9 hP hz9 hS => ?_)
    obtain ⟨g52, w52, he52, hsy52, hvb52⟩ := hq9
    rw [he52] at hP
    have hP : mw G.1 vwCl B (mu (mu μ ab (.inl (G.2 0, 3744, .inr (.inl g52)))) av (.inl (G.2 2, 26, .inl w52))) _ := mw_eq ((congrArg (fun z => mu z av (.inl (G.2 2, 26, .inl w52))) ((mu_c _ _ ((mp_ne hav hab (by simp)))).trans (congrArg (fun z => mu z av (.inl (G.2 2, 26, .inl (upd v 25 (v (14 + pp)))))) (mu_u _ _ _ _)))).trans (mu_u _ _ _ _)) hP
    refine lv_aload_n hx hb dX4_go_55 rfl (lv_at hl 1 rfl) ?_
    refine lv_bipush (v := nI 25) hx hb dX4_go_56 (by decide) ?_
    refine lv_iload_n hx hb dX4_go_58 rfl (lv_at hl 0 rfl) ?_
    refine kc_i (va_runV (As := [.int (nI 25), .int (nI (14 + qq))]) (rest := []) ⟨hx, hb, hml, hown, hts⟩ (m_X4_isWithin l G B (mu (mu μ ab (.inl (G.2 0, 3744, .inr (.inl g52)))) av (.inl (G.2 2, 26, .inl w52))) md ab av c1 c2 c3 c4 c5 c6 c7 c8 c9 fl st g52 w52 25 (14 + qq) ((mu_n ne0_2).trans ((mu_n ne0_1).trans (hm))) ((mu_n ((mp_ne hab hav (by simp)))).trans (mu_s _ _ _)) (mu_s _ _ _) (by omega) (by omega) (hvb52)) (cwV 2 hts gX4_go_X4_isWithin rfl rfl rfl (by decide +kernel) ⟨Nat.le_of_ble_eq_true rfl, Nat.le_of_ble_eq_true rfl⟩) ⟨KW.blind, hP.recv hK rfl ((mu_n ne0_2).trans ((mu_n ne0_1).trans (hm))), fun U9 hU9 hW9 => ⟨rfl, KW.pre hBs hKK hS hP U9 hU9 hW9⟩⟩ rfl rfl hl.1 rfl (lv_room (Nat.le_of_ble_eq_true rfl)) dX4_go_59 ⟨(Nat.le_of_ble_eq_true rfl), (Nat.le_of_ble_eq_true rfl)⟩) hS (fun r59 m59 H locs hq9 hP hz9 hS => ?_)
    obtain ⟨he9, hbr59⟩ := hq9
    rw [he9] at hP
    refine lv_if_eq (tgt := 67) hx hb dX4_go_62 (by decide) (fun hc62 => ?_) (fun hc62 => ?_)
    · refine lv_aload_n hx hb dX4_go_67 rfl (lv_at hl 1 rfl) ?_
      refine lv_iload_n hx hb dX4_go_68 rfl (lv_at hl 0 rfl) ?_
      refine lv_bipush (v := nI 25) hx hb dX4_go_69 (by decide) ?_
      refine kc_v (va_runV (As := [.int (nI (14 + qq)), .int (nI 25)]) (rest := []) ⟨hx, hb, hml, hown, hts⟩ (m_X4_joined l G B (mu (mu μ ab (.inl (G.2 0, 3744, .inr (.inl g52)))) av (.inl (G.2 2, 26, .inl w52))) md ab av c1 c2 c3 c4 c5 c6 c7 c8 c9 fl st g52 w52 (14 + qq) 25 ((mu_n ne0_2).trans ((mu_n ne0_1).trans (hm))) ((mu_n ((mp_ne hab hav (by simp)))).trans (mu_s _ _ _)) (mu_s _ _ _) (by omega) (by omega) (by omega) (hsy52) (hvb52)) (cwV 2 hts gX4_go_X4_joined rfl rfl rfl (by decide +kernel) ⟨Nat.le_of_ble_eq_true rfl, Nat.le_of_ble_eq_true rfl⟩) ⟨KW.blind, hP.recv hK rfl ((mu_n ne0_2).trans ((mu_n ne0_1).trans (hm))), fun U9 hU9 hW9 => ⟨rfl, KW.pre hBs hKK hS hP U9 hU9 hW9⟩⟩ rfl rfl hl.1 rfl (lv_room (Nat.le_of_ble_eq_true rfl)) dX4_go_71 ⟨(Nat.le_of_ble_eq_true rfl), (Nat.le_of_ble_eq_true rfl)⟩) hS (fun m71 H locs hq9 hP hz9 hS => ?_)
      obtain ⟨g71, w71, he71, hsy71, hvb71⟩ := hq9
      rw [he71] at hP
      have hP : mw G.1 vwCl B (mu (mu μ ab (.inl (G.2 0, 3744, .inr (.inl g71)))) av (.inl (G.2 2, 26, .inl w71))) _ := mw_eq ((congrArg (fun z => mu z av (.inl (G.2 2, 26, .inl w71))) ((mu_c _ _ ((mp_ne hav hab (by simp)))).trans (congrArg (fun z => mu z av (.inl (G.2 2, 26, .inl w52))) (mu_u _ _ _ _)))).trans (mu_u _ _ _ _)) hP
      refine lv_iload_n hx hb dX4_go_74 rfl (lv_at hl 3 rfl) ?_
      refine lv_iconst (v := nI 3) hx hb dX4_go_75 (by decide) ?_
      refine nv_icmp_le (tgt := 111) hx hb (by omega) (by omega) dX4_go_76 (by decide) (fun hc76 => ?_) (fun hc76 => ?_)
      · refine lv_aload_n hx hb dX4_go_111 rfl (lv_at hl 1 rfl) ?_
        refine lv_iload_n hx hb dX4_go_112 rfl (lv_at hl 0 rfl) ?_
        refine lv_bipush (v := nI 22) hx hb dX4_go_113 (by decide) ?_
        refine kc_v (va_runV (As := [.int (nI (14 + qq)), .int (nI 22)]) (rest := []) ⟨hx, hb, hml, hown, hts⟩ (c_X4_load l G B (mu (mu μ ab (.inl (G.2 0, 3744, .inr (.inl g71)))) av (.inl (G.2 2, 26, .inl w71))) md ab av c1 c2 c3 c4 c5 c6 c7 c8 c9 fl st g71 w71 (14 + qq) 22 ((mu_n ne0_2).trans ((mu_n ne0_1).trans (hm))) ((mu_n ((mp_ne hab hav (by simp)))).trans (mu_s _ _ _)) (mu_s _ _ _) (by omega) (by omega) (hvb71 22)) (cwV 2 hts gX4_go_X4_load rfl rfl rfl (by decide +kernel) ⟨Nat.le_of_ble_eq_true rfl, Nat.le_of_ble_eq_true rfl⟩) ⟨KW.blind, hP.recv hK rfl ((mu_n ne0_2).trans ((mu_n ne0_1).trans (hm))), fun U9 hU9 hW9 => ⟨rfl, KW.pre hBs hKK hS hP U9 hU9 hW9⟩⟩ rfl rfl hl.1 rfl (lv_room (Nat.le_of_ble_eq_true rfl)) dX4_go_115 ⟨(Nat.le_of_ble_eq_true rfl), (Nat.le_of_ble_eq_true rfl)⟩) hS (fun m115 H locs hq9 hP hz9 hS => ?_)
        obtain ⟨g115, he115, hL115⟩ := hq9
        rw [he115] at hP
        have hP : mw G.1 vwCl B (mu (mu μ ab (.inl (G.2 0, 3744, .inr (.inl g115)))) av (.inl (G.2 2, 26, .inl (upd w71 (14 + qq) (w71 22))))) _ := mw_eq ((congrArg (fun z => mu z av (.inl (G.2 2, 26, .inl (upd w71 (14 + qq) (w71 22))))) ((mu_c _ _ ((mp_ne hav hab (by simp)))).trans (congrArg (fun z => mu z av (.inl (G.2 2, 26, .inl w71))) (mu_u _ _ _ _)))).trans (mu_u _ _ _ _)) hP
        refine lv_iconst (v := nI 1) hx hb dX4_go_118 (by decide) ?_
        rw [hQ]
        exact W.zret (v := nI 1) (ty := .boolean) hx hb hr (by first | rfl | decide) (fun t99 ht99 hW99 => ⟨⟨nI 1, mu (mu μ ab (.inl (G.2 0, 3744, .inr (.inl g115)))) av (.inl (G.2 2, 26, .inl (upd w71 (14 + qq) (w71 22)))), rfl, (⟨Or.inr rfl, _, _, rfl, (hsy71.ld hL115 (by omega)), (VB.u hvb71 (hvb71 22))⟩), by show mw _ _ _ _ t99.heap; rw [ht99]; exact hP⟩, hS.F ht99⟩) hS.2.2 dX4_go_119
      · refine lv_aload_n hx hb dX4_go_79 rfl (lv_at hl 1 rfl) ?_
        refine mw_get (C := RX4) (T := TX4) (N := 13) hx hb hts in_X4_go_X4 hown hK hP ((mu_n ne0_2).trans ((mu_n ne0_1).trans (hm))) rfl 5 (by decide) (hts (.fieldLink RX4 21 "OctagonDeskModel" "toPoint" "[I") (by decide +kernel)) (fun _ h9 => h9) rfl dX4_go_80 ?_
        refine lv_iload_n hx hb dX4_go_83 rfl (lv_at hl 2 rfl) ?_
        refine mw_iald hx hb hK hP 1 ((mu_n ((mp_ne hc_2 hav (by simp)))).trans ((mu_n ((mp_ne hc_2 hab (by simp)))).trans (hc_2))) rfl (by omega) (by omega) dX4_go_84 ?_
        refine nv_eqi (y := nI qq) e2 ?_
        refine lv_aload_n hx hb dX4_go_85 rfl (lv_at hl 1 rfl) ?_
        refine mw_get (C := RX4) (T := TX4) (N := 13) hx hb hts in_X4_go_X4 hown hK hP ((mu_n ne0_2).trans ((mu_n ne0_1).trans (hm))) rfl 4 (by decide) (hts (.fieldLink RX4 17 "OctagonDeskModel" "fromPoint" "[I") (by decide +kernel)) (fun _ h9 => h9) rfl dX4_go_86 ?_
        refine lv_iload_n hx hb dX4_go_89 rfl (lv_at hl 2 rfl) ?_
        refine mw_iald hx hb hK hP 1 ((mu_n ((mp_ne hc_1 hav (by simp)))).trans ((mu_n ((mp_ne hc_1 hab (by simp)))).trans (hc_1))) rfl (by omega) (by omega) dX4_go_90 ?_
        refine nv_eqi (y := nI pp) e1 ?_
        refine nv_icmp_gt (tgt := 111) hx hb (by omega) (by omega) dX4_go_91 (by decide) (fun hc91 => ?_) (fun hc91 => ?_)
        · refine lv_aload_n hx hb dX4_go_111 rfl (lv_at hl 1 rfl) ?_
          refine lv_iload_n hx hb dX4_go_112 rfl (lv_at hl 0 rfl) ?_
          refine lv_bipush (v := nI 22) hx hb dX4_go_113 (by decide) ?_
          refine kc_v (va_runV (As := [.int (nI (14 + qq)), .int (nI 22)]) (rest := []) ⟨hx, hb, hml, hown, hts⟩ (c_X4_load l G B (mu (mu μ ab (.inl (G.2 0, 3744, .inr (.inl g71)))) av (.inl (G.2 2, 26, .inl w71))) md ab av c1 c2 c3 c4 c5 c6 c7 c8 c9 fl st g71 w71 (14 + qq) 22 ((mu_n ne0_2).trans ((mu_n ne0_1).trans (hm))) ((mu_n ((mp_ne hab hav (by simp)))).trans (mu_s _ _ _)) (mu_s _ _ _) (by omega) (by omega) (hvb71 22)) (cwV 2 hts gX4_go_X4_load rfl rfl rfl (by decide +kernel) ⟨Nat.le_of_ble_eq_true rfl, Nat.le_of_ble_eq_true rfl⟩) ⟨KW.blind, hP.recv hK rfl ((mu_n ne0_2).trans ((mu_n ne0_1).trans (hm))), fun U9 hU9 hW9 => ⟨rfl, KW.pre hBs hKK hS hP U9 hU9 hW9⟩⟩ rfl rfl hl.1 rfl (lv_room (Nat.le_of_ble_eq_true rfl)) dX4_go_115 ⟨(Nat.le_of_ble_eq_true rfl), (Nat.le_of_ble_eq_true rfl)⟩) hS (fun m115 H locs hq9 hP hz9 hS => ?_)
          obtain ⟨g115, he115, hL115⟩ := hq9
          rw [he115] at hP
          have hP : mw G.1 vwCl B (mu (mu μ ab (.inl (G.2 0, 3744, .inr (.inl g115)))) av (.inl (G.2 2, 26, .inl (upd w71 (14 + qq) (w71 22))))) _ := mw_eq ((congrArg (fun z => mu z av (.inl (G.2 2, 26, .inl (upd w71 (14 + qq) (w71 22))))) ((mu_c _ _ ((mp_ne hav hab (by simp)))).trans (congrArg (fun z => mu z av (.inl (G.2 2, 26, .inl w71))) (mu_u _ _ _ _)))).trans (mu_u _ _ _ _)) hP
          refine lv_iconst (v := nI 1) hx hb dX4_go_118 (by decide) ?_
          rw [hQ]
          exact W.zret (v := nI 1) (ty := .boolean) hx hb hr (by first | rfl | decide) (fun t99 ht99 hW99 => ⟨⟨nI 1, mu (mu μ ab (.inl (G.2 0, 3744, .inr (.inl g115)))) av (.inl (G.2 2, 26, .inl (upd w71 (14 + qq) (w71 22)))), rfl, (⟨Or.inr rfl, _, _, rfl, (hsy71.ld hL115 (by omega)), (VB.u hvb71 (hvb71 22))⟩), by show mw _ _ _ _ t99.heap; rw [ht99]; exact hP⟩, hS.F ht99⟩) hS.2.2 dX4_go_119
        · refine lv_aload_n hx hb dX4_go_94 rfl (lv_at hl 1 rfl) ?_
          refine lv_iload_n hx hb dX4_go_95 rfl (lv_at hl 0 rfl) ?_
          refine lv_bipush (v := nI 22) hx hb dX4_go_96 (by decide) ?_
          refine kc_v (va_runV (As := [.int (nI (14 + qq)), .int (nI 22)]) (rest := []) ⟨hx, hb, hml, hown, hts⟩ (m_X4_widened l G B (mu (mu μ ab (.inl (G.2 0, 3744, .inr (.inl g71)))) av (.inl (G.2 2, 26, .inl w71))) md ab av c1 c2 c3 c4 c5 c6 c7 c8 c9 fl st g71 w71 (14 + qq) 22 ((mu_n ne0_2).trans ((mu_n ne0_1).trans (hm))) ((mu_n ((mp_ne hab hav (by simp)))).trans (mu_s _ _ _)) (mu_s _ _ _) (by omega) (by omega) (by omega) (by omega) (hsy71) (hvb71)) (cwV 2 hts gX4_go_X4_widened rfl rfl rfl (by decide +kernel) ⟨Nat.le_of_ble_eq_true rfl, Nat.le_of_ble_eq_true rfl⟩) ⟨KW.blind, hP.recv hK rfl ((mu_n ne0_2).trans ((mu_n ne0_1).trans (hm))), fun U9 hU9 hW9 => ⟨rfl, KW.pre hBs hKK hS hP U9 hU9 hW9⟩⟩ rfl rfl hl.1 rfl (lv_room (Nat.le_of_ble_eq_true rfl)) dX4_go_98 ⟨(Nat.le_of_ble_eq_true rfl), (Nat.le_of_ble_eq_true rfl)⟩) hS (fun m98 H locs hq9 hP hz9 hS => ?_)
          obtain ⟨g98, w98, he98, hsy98, hvb98⟩ := hq9
          rw [he98] at hP
          have hP : mw G.1 vwCl B (mu (mu μ ab (.inl (G.2 0, 3744, .inr (.inl g98)))) av (.inl (G.2 2, 26, .inl w98))) _ := mw_eq ((congrArg (fun z => mu z av (.inl (G.2 2, 26, .inl w98))) ((mu_c _ _ ((mp_ne hav hab (by simp)))).trans (congrArg (fun z => mu z av (.inl (G.2 2, 26, .inl w71))) (mu_u _ _ _ _)))).trans (mu_u _ _ _ _)) hP
          refine lv_aload_n hx hb dX4_go_101 rfl (lv_at hl 1 rfl) ?_
          refine lv_iload_n hx hb dX4_go_102 rfl (lv_at hl 0 rfl) ?_
          refine lv_bipush (v := nI 23) hx hb dX4_go_103 (by decide) ?_
          refine kc_v (va_runV (As := [.int (nI (14 + qq)), .int (nI 23)]) (rest := []) ⟨hx, hb, hml, hown, hts⟩ (c_X4_load l G B (mu (mu μ ab (.inl (G.2 0, 3744, .inr (.inl g98)))) av (.inl (G.2 2, 26, .inl w98))) md ab av c1 c2 c3 c4 c5 c6 c7 c8 c9 fl st g98 w98 (14 + qq) 23 ((mu_n ne0_2).trans ((mu_n ne0_1).trans (hm))) ((mu_n ((mp_ne hab hav (by simp)))).trans (mu_s _ _ _)) (mu_s _ _ _) (by omega) (by omega) (hvb98 23)) (cwV 2 hts gX4_go_X4_load rfl rfl rfl (by decide +kernel) ⟨Nat.le_of_ble_eq_true rfl, Nat.le_of_ble_eq_true rfl⟩) ⟨KW.blind, hP.recv hK rfl ((mu_n ne0_2).trans ((mu_n ne0_1).trans (hm))), fun U9 hU9 hW9 => ⟨rfl, KW.pre hBs hKK hS hP U9 hU9 hW9⟩⟩ rfl rfl hl.1 rfl (lv_room (Nat.le_of_ble_eq_true rfl)) dX4_go_105 ⟨(Nat.le_of_ble_eq_true rfl), (Nat.le_of_ble_eq_true rfl)⟩) hS (fun m105 H locs hq9 hP hz9 hS => ?_)
          obtain ⟨g105, he105, hL105⟩ := hq9
          rw [he105] at hP
          have hP : mw G.1 vwCl B (mu (mu μ ab (.inl (G.2 0, 3744, .inr (.inl g105)))) av (.inl (G.2 2, 26, .inl (upd w98 (14 + qq) (w98 23))))) _ := mw_eq ((congrArg (fun z => mu z av (.inl (G.2 2, 26, .inl (upd w98 (14 + qq) (w98 23))))) ((mu_c _ _ ((mp_ne hav hab (by simp)))).trans (congrArg (fun z => mu z av (.inl (G.2 2, 26, .inl w98))) (mu_u _ _ _ _)))).trans (mu_u _ _ _ _)) hP
          refine lv_goto (tgt := 118) hx hb dX4_go_108 (by decide) ?_
          refine lv_iconst (v := nI 1) hx hb dX4_go_118 (by decide) ?_
          rw [hQ]
          exact W.zret (v := nI 1) (ty := .boolean) hx hb hr (by first | rfl | decide) (fun t99 ht99 hW99 => ⟨⟨nI 1, mu (mu μ ab (.inl (G.2 0, 3744, .inr (.inl g105)))) av (.inl (G.2 2, 26, .inl (upd w98 (14 + qq) (w98 23)))), rfl, (⟨Or.inr rfl, _, _, rfl, (hsy98.ld hL105 (by omega)), (VB.u hvb98 (hvb98 23))⟩), by show mw _ _ _ _ t99.heap; rw [ht99]; exact hP⟩, hS.F ht99⟩) hS.2.2 dX4_go_119
    · refine lv_iconst (v := nI 0) hx hb dX4_go_65 (by decide) ?_
      rw [hQ]
      exact W.zret (v := nI 0) (ty := .boolean) hx hb hr (by first | rfl | decide) (fun t99 ht99 hW99 => ⟨⟨nI 0, mu (mu μ ab (.inl (G.2 0, 3744, .inr (.inl g52)))) av (.inl (G.2 2, 26, .inl w52)), rfl, (⟨Or.inl rfl, _, _, rfl, hsy52, hvb52⟩), by show mw _ _ _ _ t99.heap; rw [ht99]; exact hP⟩, hS.F ht99⟩) hS.2.2 dX4_go_66

abbrev rn_X4_run : Room := { frames := 5, cells := 0, slots := 0, locals := 127 }
set_option maxHeartbeats 4000000 in
set_option maxRecDepth 100000 in
theorem m_X4_run (l : Launch) (G : GG) (B : Nat) (μ : mp) (md ab av c1 c2 c3 c4 c5 c6 c7 c8 c9 fl st : Nat) (f : Nat → Int64) (v : Nat → Int32) (i1 i2 i3 i4 i5 i6 : Nat → Int32) (x9 : Int32) (hm : μ md = some (.inr (4, [.int (nI fl), .ref ab, .ref av, .int (nI st), .ref c1, .ref c2, .ref c3, .ref c4, .ref c5, .ref c6, .ref c7, .ref c8, .ref c9]))) (hab : μ ab = some (.inl (G.2 0, 3744, .inr (.inl f)))) (hav : μ av = some (.inl (G.2 2, 26, .inl v))) (hc_1 : μ c1 = some (.inl (G.2 1, 20, .inl i1))) (hc_2 : μ c2 = some (.inl (G.2 1, 20, .inl i2))) (hc_3 : μ c3 = some (.inl (G.2 1, 20, .inl i3))) (hc_4 : μ c4 = some (.inl (G.2 1, 20, .inl i4))) (hc_5 : μ c5 = some (.inl (G.2 1, 20, .inl i5))) (hc_6 : μ c6 = some (.inl (G.2 1, 20, .inl i6))) (hst : st ≤ 20) (hSM : SM i1 i2 i3 i4 i5 i6 st) (hsy : Sym f) (hvb : VB v) : Met l yX4_run wsX4_run rn_X4_run (va_Pc [.ref md, .int x9] (KW G B μ)) (va_Qi (fun r μ2 => ∃ (fl9 : Nat) (g9 : Nat → Int64) (w9 : Nat → Int32), μ2 = mu (mu (mu μ md (.inr (4, [.int (nI fl9), .ref ab, .ref av, .int (nI st), .ref c1, .ref c2, .ref c3, .ref c4, .ref c5, .ref c6, .ref c7, .ref c8, .ref c9]))) ab (.inl (G.2 0, 3744, .inr (.inl g9)))) av (.inl (G.2 2, 26, .inl w9)) ∧ (Sym g9 ∧ VB w9)) (BB G B) (fun q => B ≤ q)) 0 0 (fun q => B ≤ q) := by
  refine Met.ofW (cc := cX4_run) (maxL := 6) (ret := (some .int)) (by decide) rfl ?_
  intro p e s m args below meth c s₁ B9 hml hv
  obtain ⟨hargs, hBs, hP, hKK⟩ := hv
  have hx := B9.exec
  have hb := B9.bytes
  have hr := B9.returns
  have hts := atoms_spec (ws := wsX4_run) B9.pre
  have hown : s.vm.findClass RX4 = some m.cls := findClass_of_methodNamed B9.named
  have hlocks := B9.notSynchronized
  have hK := hKK.k
  have hS : va_S (fun q => B ≤ q) s.heap s.heap [] := va_S.rf
  obtain ⟨Q, hQ⟩ : ∃ Q, Q = MQ below (va_Qi (fun r μ2 => ∃ (fl9 : Nat) (g9 : Nat → Int64) (w9 : Nat → Int32), μ2 = mu (mu (mu μ md (.inr (4, [.int (nI fl9), .ref ab, .ref av, .int (nI st), .ref c1, .ref c2, .ref c3, .ref c4, .ref c5, .ref c6, .ref c7, .ref c8, .ref c9]))) ab (.inl (G.2 0, 3744, .inr (.inl g9)))) av (.inl (G.2 2, 26, .inl w9)) ∧ (Sym g9 ∧ VB w9)) (BB G B) (fun q => B ≤ q)) args s 0 0 (fun q => B ≤ q) := ⟨_, rfl⟩
  rw [← hQ]
  have ne0_1 : md ≠ ab := mp_ne hm hab (by simp)
  have ne0_2 : md ≠ av := mp_ne hm hav (by simp)
  have ne0_3 : md ≠ c1 := mp_ne hm hc_1 (by simp)
  have ne0_4 : md ≠ c2 := mp_ne hm hc_2 (by simp)
  have ne0_5 : md ≠ c3 := mp_ne hm hc_3 (by simp)
  have ne0_6 : md ≠ c4 := mp_ne hm hc_4 (by simp)
  have ne0_7 : md ≠ c5 := mp_ne hm hc_5 (by simp)
  have ne0_8 : md ≠ c6 := mp_ne hm hc_6 (by simp)
  have in_X4_run_X4 : ∀ w ∈ wsX40, w ∈ wsX4_run := by decide +kernel
  have hP : mw G.1 vwCl B (mu (mu (mu μ md (.inr (4, [.int (nI fl), .ref ab, .ref av, .int (nI st), .ref c1, .ref c2, .ref c3, .ref c4, .ref c5, .ref c6, .ref c7, .ref c8, .ref c9]))) ab (.inl (G.2 0, 3744, .inr (.inl f)))) av (.inl (G.2 2, 26, .inl v))) s.heap := mw_eq ((congrArg (fun z => mu z av (.inl (G.2 2, 26, .inl v))) ((congrArg (fun z => mu z ab (.inl (G.2 0, 3744, .inr (.inl f)))) (mu_i hm)).trans (mu_i hab))).trans (mu_i hav)).symm hP
  have L133 : ∀ (N133 : Nat) (p1 : Nat) (rn : Nat) (g1 : Nat → Int64) (v1 : Nat → Int32) (hN133 : 8 - p1 < N133) (hp1 : p1 ≤ 8) (hs1 : Sym g1) (hv1 : VB v1), ∀ (H : Heap) (locs : List Loc), mw G.1 vwCl B (mu (mu (mu μ md (.inr (4, [.int (nI 0), .ref ab, .ref av, .int (nI st), .ref c1, .ref c2, .ref c3, .ref c4, .ref c5, .ref c6, .ref c7, .ref c8, .ref c9]))) ab (.inl (G.2 0, 3744, .inr (.inl g1)))) av (.inl (G.2 2, 26, .inl v1))) H → va_S (fun q => B ≤ q) s.heap H locs → ∀ ls : Array Slot, lv_has ls 6 [(0, .ref md), (2, .int (nI rn)), (4, .int (nI p1))] → W p l e rn_X4_run s m args below meth c H locs 0 0 Q (F0 m 133 ls []) := by
    intro N133
    induction N133 with
    | zero => intro p1 rn g1 v1 hN133; exact absurd hN133 (Nat.not_lt_zero _)
    | succ N133 ih133 =>
      intro p1 rn g1 v1 hN133 hp1 hs1 hv1 H locs hP hS ls hl
      refine lv_iload hx hb dX4_run_133 (lv_at hl 2 rfl) ?_
      refine lv_bipush (v := nI 8) hx hb dX4_run_135 (by decide) ?_
      refine nv_icmp_ge (tgt := 160) hx hb (by omega) (by omega) dX4_run_137 (by decide) (fun hc137 => ?_) (fun hc137 => ?_)
      · refine lv_iload_n hx hb dX4_run_160 rfl (lv_at hl 1 rfl) ?_
        rw [hQ]
        exact W.iret (v := nI rn) hx hb hr (fun t99 ht99 hW99 => ⟨⟨nI rn, mu (mu (mu μ md (.inr (4, [.int (nI 0), .ref ab, .ref av, .int (nI st), .ref c1, .ref c2, .ref c3, .ref c4, .ref c5, .ref c6, .ref c7, .ref c8, .ref c9]))) ab (.inl (G.2 0, 3744, .inr (.inl g1)))) av (.inl (G.2 2, 26, .inl v1)), rfl, (⟨_, _, _, rfl, ⟨hs1, hv1⟩⟩), by show mw _ _ _ _ t99.heap; rw [ht99]; exact hP⟩, hS.F ht99⟩) hS.2.2 dX4_run_161
      · refine lv_aload_n hx hb dX4_run_140 rfl (lv_at hl 0 rfl) ?_
        refine lv_bipush (v := nI 6) hx hb dX4_run_141 (by decide) ?_
        refine lv_iload hx hb dX4_run_143 (lv_at hl 2 rfl) ?_
        refine nv_iadd hx hb dX4_run_145 ?_
        refine lv_bipush (v := nI 14) hx hb dX4_run_146 (by decide) ?_
        refine lv_iload hx hb dX4_run_148 (lv_at hl 2 rfl) ?_
        refine nv_iadd hx hb dX4_run_150 ?_
        refine kc_v (va_runV (As := [.int (nI (6 + p1)), .int (nI (14 + p1))]) (rest := []) ⟨hx, hb, hml, hown, hts⟩ (c_X4_load l G B (mu (mu (mu μ md (.inr (4, [.int (nI 0), .ref ab, .ref av, .int (nI st), .ref c1, .ref c2, .ref c3, .ref c4, .ref c5, .ref c6, .ref c7, .ref c8, .ref c9]))) ab (.inl (G.2 0, 3744, .inr (.inl g1)))) av (.inl (G.2 2, 26, .inl v1))) md ab av c1 c2 c3 c4 c5 c6 c7 c8 c9 0 st g1 v1 (6 + p1) (14 + p1) ((mu_n ne0_2).trans ((mu_n ne0_1).trans (mu_s _ _ _))) ((mu_n ((mp_ne hab hav (by simp)))).trans (mu_s _ _ _)) (mu_s _ _ _) (by omega) (by omega) (hv1 (14 + p1))) (cwV 2 hts gX4_run_X4_load rfl rfl rfl (by decide +kernel) ⟨Nat.le_of_ble_eq_true rfl, Nat.le_of_ble_eq_true rfl⟩) ⟨KW.blind, hP.recv hK rfl ((mu_n ne0_2).trans ((mu_n ne0_1).trans (mu_s _ _ _))), fun U9 hU9 hW9 => ⟨rfl, KW.pre hBs hKK hS hP U9 hU9 hW9⟩⟩ rfl rfl hl.1 rfl (lv_room (Nat.le_of_ble_eq_true rfl)) dX4_run_151 ⟨(Nat.le_of_ble_eq_true rfl), (Nat.le_of_ble_eq_true rfl)⟩) hS (fun m151 H locs hq9 hP hz9 hS => ?_)
        obtain ⟨g151, he151, hL151⟩ := hq9
        rw [he151] at hP
        have hP : mw G.1 vwCl B (mu (mu (mu μ md (.inr (4, [.int (nI 0), .ref ab, .ref av, .int (nI st), .ref c1, .ref c2, .ref c3, .ref c4, .ref c5, .ref c6, .ref c7, .ref c8, .ref c9]))) ab (.inl (G.2 0, 3744, .inr (.inl g151)))) av (.inl (G.2 2, 26, .inl (upd v1 (6 + p1) (v1 (14 + p1)))))) _ := mw_eq ((congrArg (fun z => mu z av (.inl (G.2 2, 26, .inl (upd v1 (6 + p1) (v1 (14 + p1)))))) ((mu_c _ _ ((mp_ne hav hab (by simp)))).trans (congrArg (fun z => mu z av (.inl (G.2 2, 26, .inl v1))) (mu_u _ _ _ _)))).trans (mu_u _ _ _ _)) hP
        refine lv_iinc (v := nI (p1 + 1)) (lv' := [(4, .int (nI (p1 + 1))), (0, .ref md), (2, .int (nI rn))]) hx hb dX4_run_154 hl (k := 2) rfl (nI_add _ _) (by decide) rfl (fun ls hl => ?_)
        refine lv_goto (tgt := 133) hx hb dX4_run_157 (by decide) ?_
        exact ih133 (p1 + 1) rn g151 (upd v1 (6 + p1) (v1 (14 + p1))) (by omega) (by omega) ((hs1.ld hL151 (by omega))) ((VB.u hv1 (hv1 (14 + p1)))) _ _ hP hS ls (lv_sub hl [1, 2, 0] rfl)
  have L64 : ∀ (N64 : Nat) (rn : Nat) (ch : Nat) (g1 : Nat → Int64) (v1 : Nat → Int32) (hN64 : 30 - rn < N64) (hrn : rn ≤ 30) (hch : ch ≤ 1) (hs1 : Sym g1) (hv1 : VB v1), ∀ (H : Heap) (locs : List Loc), mw G.1 vwCl B (mu (mu (mu μ md (.inr (4, [.int (nI 0), .ref ab, .ref av, .int (nI st), .ref c1, .ref c2, .ref c3, .ref c4, .ref c5, .ref c6, .ref c7, .ref c8, .ref c9]))) ab (.inl (G.2 0, 3744, .inr (.inl g1)))) av (.inl (G.2 2, 26, .inl v1))) H → va_S (fun q => B ≤ q) s.heap H locs → ∀ ls : Array Slot, lv_has ls 6 [(0, .ref md), (2, .int (nI rn)), (3, .int (nI ch))] → W p l e rn_X4_run s m args below meth c H locs 0 0 Q (F0 m 64 ls []) := by
    intro N64
    induction N64 with
    | zero => intro rn ch g1 v1 hN64; exact absurd hN64 (Nat.not_lt_zero _)
    | succ N64 ih64 =>
      intro rn ch g1 v1 hN64 hrn hch hs1 hv1 H locs hP hS ls hl
      have L82 : ∀ (N82 : Nat) (k1 : Nat) (ch : Nat) (g1 : Nat → Int64) (v1 : Nat → Int32) (hN82 : st - k1 < N82) (hk1 : k1 ≤ st) (hch : ch ≤ 1) (hr30 : rn + 1 ≤ 30) (hs1 : Sym g1) (hv1 : VB v1), ∀ (H : Heap) (locs : List Loc), mw G.1 vwCl B (mu (mu (mu μ md (.inr (4, [.int (nI 0), .ref ab, .ref av, .int (nI st), .ref c1, .ref c2, .ref c3, .ref c4, .ref c5, .ref c6, .ref c7, .ref c8, .ref c9]))) ab (.inl (G.2 0, 3744, .inr (.inl g1)))) av (.inl (G.2 2, 26, .inl v1))) H → va_S (fun q => B ≤ q) s.heap H locs → ∀ ls : Array Slot, lv_has ls 6 [(0, .ref md), (2, .int (nI (rn + 1))), (3, .int (nI ch)), (4, .int (nI k1))] → W p l e rn_X4_run s m args below meth c H locs 0 0 Q (F0 m 82 ls []) := by
        intro N82
        induction N82 with
        | zero => intro k1 ch g1 v1 hN82; exact absurd hN82 (Nat.not_lt_zero _)
        | succ N82 ih82 =>
          intro k1 ch g1 v1 hN82 hk1 hch hr30 hs1 hv1 H locs hP hS ls hl
          refine lv_iload hx hb dX4_run_82 (lv_at hl 3 rfl) ?_
          refine lv_aload_n hx hb dX4_run_84 rfl (lv_at hl 0 rfl) ?_
          refine mw_get (C := RX4) (T := TX4) (N := 13) hx hb hts in_X4_run_X4 hown hK hP ((mu_n ne0_2).trans ((mu_n ne0_1).trans (mu_s _ _ _))) rfl 3 (by decide) (hts (.fieldLink RX4 136 "OctagonDeskModel" "steps" "I") (by decide +kernel)) (fun _ h9 => h9) rfl dX4_run_85 ?_
          refine nv_icmp_ge (tgt := 121) hx hb (by omega) (by omega) dX4_run_88 (by decide) (fun hc88 => ?_) (fun hc88 => ?_)
          · refine lv_goto (tgt := 64) hx hb dX4_run_121 (by decide) ?_
            exact ih64 (rn + 1) ch g1 v1 (by omega) (by omega) (by omega) (hs1) (hv1) _ _ hP hS ls (lv_sub hl [0, 1, 2] rfl)
          · refine lv_aload_n hx hb dX4_run_91 rfl (lv_at hl 0 rfl) ?_
            refine lv_iload hx hb dX4_run_92 (lv_at hl 3 rfl) ?_
            refine lv_iload_n hx hb dX4_run_94 rfl (lv_at hl 1 rfl) ?_
            refine kc_i (va_runV (As := [.int (nI k1), .int (nI (rn + 1))]) (rest := []) ⟨hx, hb, hml, hown, hts⟩ (m_X4_go l G B (mu (mu (mu μ md (.inr (4, [.int (nI 0), .ref ab, .ref av, .int (nI st), .ref c1, .ref c2, .ref c3, .ref c4, .ref c5, .ref c6, .ref c7, .ref c8, .ref c9]))) ab (.inl (G.2 0, 3744, .inr (.inl g1)))) av (.inl (G.2 2, 26, .inl v1))) md ab av c1 c2 c3 c4 c5 c6 c7 c8 c9 0 st g1 v1 i1 i2 i3 i4 i5 i6 k1 (rn + 1) ((mu_n ne0_2).trans ((mu_n ne0_1).trans (mu_s _ _ _))) ((mu_n ((mp_ne hab hav (by simp)))).trans (mu_s _ _ _)) (mu_s _ _ _) ((mu_n ((mp_ne hc_1 hav (by simp)))).trans ((mu_n ((mp_ne hc_1 hab (by simp)))).trans ((mu_n ((Ne.symm ne0_3))).trans (hc_1)))) ((mu_n ((mp_ne hc_2 hav (by simp)))).trans ((mu_n ((mp_ne hc_2 hab (by simp)))).trans ((mu_n ((Ne.symm ne0_4))).trans (hc_2)))) ((mu_n ((mp_ne hc_3 hav (by simp)))).trans ((mu_n ((mp_ne hc_3 hab (by simp)))).trans ((mu_n ((Ne.symm ne0_5))).trans (hc_3)))) ((mu_n ((mp_ne hc_4 hav (by simp)))).trans ((mu_n ((mp_ne hc_4 hab (by simp)))).trans ((mu_n ((Ne.symm ne0_6))).trans (hc_4)))) ((mu_n ((mp_ne hc_5 hav (by simp)))).trans ((mu_n ((mp_ne hc_5 hab (by simp)))).trans ((mu_n ((Ne.symm ne0_7))).trans (hc_5)))) ((mu_n ((mp_ne hc_6 hav (by simp)))).trans ((mu_n ((mp_ne hc_6 hab (by simp)))).trans ((mu_n ((Ne.symm ne0_8))).trans (hc_6)))) (by omega) (by omega) hst hSM hs1 hv1) (cwV 2 hts gX4_run_X4_go rfl rfl rfl (by decide +kernel) ⟨Nat.le_of_ble_eq_true rfl, Nat.le_of_ble_eq_true rfl⟩) ⟨KW.blind, hP.recv hK rfl ((mu_n ne0_2).trans ((mu_n ne0_1).trans (mu_s _ _ _))), fun U9 hU9 hW9 => ⟨rfl, KW.pre hBs hKK hS hP U9 hU9 hW9⟩⟩ rfl rfl hl.1 rfl (lv_room (Nat.le_of_ble_eq_true rfl)) dX4_run_95 ⟨(Nat.le_of_ble_eq_true rfl), (Nat.le_of_ble_eq_true rfl)⟩) hS (fun r95 m95 H locs hq9 hP hz9 hS => ?_)
            obtain ⟨hbr95, hq9⟩ := hq9
            obtain ⟨g95, w95, he95, hsy95, hvb95⟩ := hq9
            rw [he95] at hP
            have hP : mw G.1 vwCl B (mu (mu (mu μ md (.inr (4, [.int (nI 0), .ref ab, .ref av, .int (nI st), .ref c1, .ref c2, .ref c3, .ref c4, .ref c5, .ref c6, .ref c7, .ref c8, .ref c9]))) ab (.inl (G.2 0, 3744, .inr (.inl g95)))) av (.inl (G.2 2, 26, .inl w95))) _ := mw_eq ((congrArg (fun z => mu z av (.inl (G.2 2, 26, .inl w95))) ((mu_c _ _ ((mp_ne hav hab (by simp)))).trans (congrArg (fun z => mu z av (.inl (G.2 2, 26, .inl v1))) (mu_u _ _ _ _)))).trans (mu_u _ _ _ _)) hP
            refine lv_istore (lv' := [(5, .int r95), (0, .ref md), (2, .int (nI (rn + 1))), (3, .int (nI ch)), (4, .int (nI k1))]) hx hb dX4_run_98 hl (by decide) rfl (fun ls hl => ?_)
            refine lv_iload_n hx hb dX4_run_100 rfl (lv_at hl 3 rfl) ?_
            refine lv_if_ne (tgt := 109) hx hb dX4_run_101 (by decide) (fun hc101 => ?_) (fun hc101 => ?_)
            · refine lv_iconst (v := nI 1) hx hb dX4_run_109 (by decide) ?_
              refine lv_goto (tgt := 114) hx hb dX4_run_110 (by decide) ?_
              refine lv_istore_n (lv' := [(3, .int (nI 1)), (5, .int r95), (0, .ref md), (2, .int (nI (rn + 1))), (4, .int (nI k1))]) hx hb dX4_run_114 rfl hl (by decide) rfl (fun ls hl => ?_)
              refine lv_iinc (v := nI (k1 + 1)) (lv' := [(4, .int (nI (k1 + 1))), (3, .int (nI 1)), (5, .int r95), (0, .ref md), (2, .int (nI (rn + 1)))]) hx hb dX4_run_115 hl (k := 4) rfl (nI_add _ _) (by decide) rfl (fun ls hl => ?_)
              refine lv_goto (tgt := 82) hx hb dX4_run_118 (by decide) ?_
              exact ih82 (k1 + 1) 1 g95 w95 (by omega) (by omega) (by omega) (by omega) (hsy95) (hvb95) _ _ hP hS ls (lv_sub hl [3, 4, 1, 0] rfl)
            · refine lv_iload hx hb dX4_run_104 (lv_at hl 0 rfl) ?_
              refine lv_if_eq (tgt := 113) hx hb dX4_run_106 (by decide) (fun hc106 => ?_) (fun hc106 => ?_)
              · refine lv_iconst (v := nI 0) hx hb dX4_run_113 (by decide) ?_
                refine lv_istore_n (lv' := [(3, .int (nI 0)), (5, .int r95), (0, .ref md), (2, .int (nI (rn + 1))), (4, .int (nI k1))]) hx hb dX4_run_114 rfl hl (by decide) rfl (fun ls hl => ?_)
                refine lv_iinc (v := nI (k1 + 1)) (lv' := [(4, .int (nI (k1 + 1))), (3, .int (nI 0)), (5, .int r95), (0, .ref md), (2, .int (nI (rn + 1)))]) hx hb dX4_run_115 hl (k := 4) rfl (nI_add _ _) (by decide) rfl (fun ls hl => ?_)
                refine lv_goto (tgt := 82) hx hb dX4_run_118 (by decide) ?_
                exact ih82 (k1 + 1) 0 g95 w95 (by omega) (by omega) (by omega) (by omega) (hsy95) (hvb95) _ _ hP hS ls (lv_sub hl [3, 4, 1, 0] rfl)
              · refine lv_iconst (v := nI 1) hx hb dX4_run_109 (by decide) ?_
                refine lv_goto (tgt := 114) hx hb dX4_run_110 (by decide) ?_
                refine lv_istore_n (lv' := [(3, .int (nI 1)), (5, .int r95), (0, .ref md), (2, .int (nI (rn + 1))), (4, .int (nI k1))]) hx hb dX4_run_114 rfl hl (by decide) rfl (fun ls hl => ?_)
                refine lv_iinc (v := nI (k1 + 1)) (lv' := [(4, .int (nI (k1 + 1))), (3, .int (nI 1)), (5, .int r95), (0, .ref md), (2, .int (nI (rn + 1)))]) hx hb dX4_run_115 hl (k := 4) rfl (nI_add _ _) (by decide) rfl (fun ls hl => ?_)
                refine lv_goto (tgt := 82) hx hb dX4_run_118 (by decide) ?_
                exact ih82 (k1 + 1) 1 g95 w95 (by omega) (by omega) (by omega) (by omega) (hsy95) (hvb95) _ _ hP hS ls (lv_sub hl [3, 4, 1, 0] rfl)
      refine lv_iload_n hx hb dX4_run_64 rfl (lv_at hl 2 rfl) ?_
      refine lv_if_eq (tgt := 124) hx hb dX4_run_65 (by decide) (fun hc65 => ?_) (fun hc65 => ?_)
      · refine lv_iload_n hx hb dX4_run_124 rfl (lv_at hl 2 rfl) ?_
        refine lv_if_eq (tgt := 130) hx hb dX4_run_125 (by decide) (fun hc125 => ?_) (fun hc125 => ?_)
        · refine lv_iconst (v := nI 0) hx hb dX4_run_130 (by decide) ?_
          refine lv_istore (lv' := [(4, .int (nI 0)), (0, .ref md), (2, .int (nI rn)), (3, .int (nI ch))]) hx hb dX4_run_131 hl (by decide) rfl (fun ls hl => ?_)
          exact L133 _ 0 rn g1 v1 (Nat.lt_succ_self _) (by omega) (hs1) (hv1) _ _ hP hS ls (lv_sub hl [1, 2, 0] rfl)
        · refine lv_iconst (v := (-1)) hx hb dX4_run_128 (by decide) ?_
          rw [hQ]
          exact W.iret (v := (-1)) hx hb hr (fun t99 ht99 hW99 => ⟨⟨(-1), mu (mu (mu μ md (.inr (4, [.int (nI 0), .ref ab, .ref av, .int (nI st), .ref c1, .ref c2, .ref c3, .ref c4, .ref c5, .ref c6, .ref c7, .ref c8, .ref c9]))) ab (.inl (G.2 0, 3744, .inr (.inl g1)))) av (.inl (G.2 2, 26, .inl v1)), rfl, (⟨_, _, _, rfl, ⟨hs1, hv1⟩⟩), by show mw _ _ _ _ t99.heap; rw [ht99]; exact hP⟩, hS.F ht99⟩) hS.2.2 dX4_run_129
      · refine lv_iload_n hx hb dX4_run_68 rfl (lv_at hl 1 rfl) ?_
        refine lv_bipush (v := nI 30) hx hb dX4_run_69 (by decide) ?_
        refine nv_icmp_ge (tgt := 124) hx hb (by omega) (by omega) dX4_run_71 (by decide) (fun hc71 => ?_) (fun hc71 => ?_)
        · refine lv_iload_n hx hb dX4_run_124 rfl (lv_at hl 2 rfl) ?_
          refine lv_if_eq (tgt := 130) hx hb dX4_run_125 (by decide) (fun hc125 => ?_) (fun hc125 => ?_)
          · refine lv_iconst (v := nI 0) hx hb dX4_run_130 (by decide) ?_
            refine lv_istore (lv' := [(4, .int (nI 0)), (0, .ref md), (2, .int (nI rn)), (3, .int (nI ch))]) hx hb dX4_run_131 hl (by decide) rfl (fun ls hl => ?_)
            exact L133 _ 0 rn g1 v1 (Nat.lt_succ_self _) (by omega) (hs1) (hv1) _ _ hP hS ls (lv_sub hl [1, 2, 0] rfl)
          · refine lv_iconst (v := (-1)) hx hb dX4_run_128 (by decide) ?_
            rw [hQ]
            exact W.iret (v := (-1)) hx hb hr (fun t99 ht99 hW99 => ⟨⟨(-1), mu (mu (mu μ md (.inr (4, [.int (nI 0), .ref ab, .ref av, .int (nI st), .ref c1, .ref c2, .ref c3, .ref c4, .ref c5, .ref c6, .ref c7, .ref c8, .ref c9]))) ab (.inl (G.2 0, 3744, .inr (.inl g1)))) av (.inl (G.2 2, 26, .inl v1)), rfl, (⟨_, _, _, rfl, ⟨hs1, hv1⟩⟩), by show mw _ _ _ _ t99.heap; rw [ht99]; exact hP⟩, hS.F ht99⟩) hS.2.2 dX4_run_129
        · refine lv_iinc (v := nI (rn + 1)) (lv' := [(2, .int (nI (rn + 1))), (0, .ref md), (3, .int (nI ch))]) hx hb dX4_run_74 hl (k := 1) rfl (nI_add _ _) (by decide) rfl (fun ls hl => ?_)
          refine lv_iconst (v := nI 0) hx hb dX4_run_77 (by decide) ?_
          refine lv_istore_n (lv' := [(3, .int (nI 0)), (2, .int (nI (rn + 1))), (0, .ref md)]) hx hb dX4_run_78 rfl hl (by decide) rfl (fun ls hl => ?_)
          refine lv_iconst (v := nI 0) hx hb dX4_run_79 (by decide) ?_
          refine lv_istore (lv' := [(4, .int (nI 0)), (3, .int (nI 0)), (2, .int (nI (rn + 1))), (0, .ref md)]) hx hb dX4_run_80 hl (by decide) rfl (fun ls hl => ?_)
          exact L82 _ 0 0 g1 v1 (Nat.lt_succ_self _) (by omega) (by omega) (by omega) (hs1) (hv1) _ _ hP hS ls (lv_sub hl [3, 2, 1, 0] rfl)
  have L23 : ∀ (N23 : Nat) (p1 : Nat) (n0 : Nat) (g1 : Nat → Int64) (v1 : Nat → Int32) (hN23 : 8 - p1 < N23) (hp1 : p1 ≤ 8) (hn0 : n0 < 6) (hs1 : Sym g1) (hv1 : VB v1), ∀ (H : Heap) (locs : List Loc), mw G.1 vwCl B (mu (mu (mu μ md (.inr (4, [.int (nI 0), .ref ab, .ref av, .int (nI st), .ref c1, .ref c2, .ref c3, .ref c4, .ref c5, .ref c6, .ref c7, .ref c8, .ref c9]))) ab (.inl (G.2 0, 3744, .inr (.inl g1)))) av (.inl (G.2 2, 26, .inl v1))) H → va_S (fun q => B ≤ q) s.heap H locs → ∀ ls : Array Slot, lv_has ls 6 [(0, .ref md), (1, .int (nI n0)), (2, .int (nI p1))] → W p l e rn_X4_run s m args below meth c H locs 0 0 Q (F0 m 23 ls []) := by
    intro N23
    induction N23 with
    | zero => intro p1 n0 g1 v1 hN23; exact absurd hN23 (Nat.not_lt_zero _)
    | succ N23 ih23 =>
      intro p1 n0 g1 v1 hN23 hp1 hn0 hs1 hv1 H locs hP hS ls hl
      refine lv_iload_n hx hb dX4_run_23 rfl (lv_at hl 2 rfl) ?_
      refine lv_bipush (v := nI 8) hx hb dX4_run_24 (by decide) ?_
      refine nv_icmp_ge (tgt := 53) hx hb (by omega) (by omega) dX4_run_26 (by decide) (fun hc26 => ?_) (fun hc26 => ?_)
      · refine lv_aload_n hx hb dX4_run_53 rfl (lv_at hl 0 rfl) ?_
        refine lv_bipush (v := nI 14) hx hb dX4_run_54 (by decide) ?_
        refine lv_iload_n hx hb dX4_run_56 rfl (lv_at hl 1 rfl) ?_
        refine kc_v (va_runV (As := [.int (nI 14), .int (nI n0)]) (rest := []) ⟨hx, hb, hml, hown, hts⟩ (c_X4_load l G B (mu (mu (mu μ md (.inr (4, [.int (nI 0), .ref ab, .ref av, .int (nI st), .ref c1, .ref c2, .ref c3, .ref c4, .ref c5, .ref c6, .ref c7, .ref c8, .ref c9]))) ab (.inl (G.2 0, 3744, .inr (.inl g1)))) av (.inl (G.2 2, 26, .inl v1))) md ab av c1 c2 c3 c4 c5 c6 c7 c8 c9 0 st g1 v1 14 n0 ((mu_n ne0_2).trans ((mu_n ne0_1).trans (mu_s _ _ _))) ((mu_n ((mp_ne hab hav (by simp)))).trans (mu_s _ _ _)) (mu_s _ _ _) (by omega) (by omega) (hv1 n0)) (cwV 2 hts gX4_run_X4_load rfl rfl rfl (by decide +kernel) ⟨Nat.le_of_ble_eq_true rfl, Nat.le_of_ble_eq_true rfl⟩) ⟨KW.blind, hP.recv hK rfl ((mu_n ne0_2).trans ((mu_n ne0_1).trans (mu_s _ _ _))), fun U9 hU9 hW9 => ⟨rfl, KW.pre hBs hKK hS hP U9 hU9 hW9⟩⟩ rfl rfl hl.1 rfl (lv_room (Nat.le_of_ble_eq_true rfl)) dX4_run_57 ⟨(Nat.le_of_ble_eq_true rfl), (Nat.le_of_ble_eq_true rfl)⟩) hS (fun m57 H locs hq9 hP hz9 hS => ?_)
        obtain ⟨g57, he57, hL57⟩ := hq9
        rw [he57] at hP
        have hP : mw G.1 vwCl B (mu (mu (mu μ md (.inr (4, [.int (nI 0), .ref ab, .ref av, .int (nI st), .ref c1, .ref c2, .ref c3, .ref c4, .ref c5, .ref c6, .ref c7, .ref c8, .ref c9]))) ab (.inl (G.2 0, 3744, .inr (.inl g57)))) av (.inl (G.2 2, 26, .inl (upd v1 14 (v1 n0))))) _ := mw_eq ((congrArg (fun z => mu z av (.inl (G.2 2, 26, .inl (upd v1 14 (v1 n0))))) ((mu_c _ _ ((mp_ne hav hab (by simp)))).trans (congrArg (fun z => mu z av (.inl (G.2 2, 26, .inl v1))) (mu_u _ _ _ _)))).trans (mu_u _ _ _ _)) hP
        refine lv_iconst (v := nI 0) hx hb dX4_run_60 (by decide) ?_
        refine lv_istore_n (lv' := [(2, .int (nI 0)), (0, .ref md), (1, .int (nI n0))]) hx hb dX4_run_61 rfl hl (by decide) rfl (fun ls hl => ?_)
        refine lv_iconst (v := nI 1) hx hb dX4_run_62 (by decide) ?_
        refine lv_istore_n (lv' := [(3, .int (nI 1)), (2, .int (nI 0)), (0, .ref md), (1, .int (nI n0))]) hx hb dX4_run_63 rfl hl (by decide) rfl (fun ls hl => ?_)
        exact L64 _ 0 1 g57 (upd v1 14 (v1 n0)) (Nat.lt_succ_self _) (by omega) (by omega) ((hs1.ld hL57 (by omega))) ((VB.u hv1 (hv1 n0))) _ _ hP hS ls (lv_sub hl [2, 1, 0] rfl)
      · refine lv_aload_n hx hb dX4_run_29 rfl (lv_at hl 0 rfl) ?_
        refine lv_bipush (v := nI 14) hx hb dX4_run_30 (by decide) ?_
        refine lv_iload_n hx hb dX4_run_32 rfl (lv_at hl 2 rfl) ?_
        refine nv_iadd hx hb dX4_run_33 ?_
        refine kc_v (va_runV (As := [.int (nI (14 + p1))]) (rest := []) ⟨hx, hb, hml, hown, hts⟩ (c_X4_all l G B (mu (mu (mu μ md (.inr (4, [.int (nI 0), .ref ab, .ref av, .int (nI st), .ref c1, .ref c2, .ref c3, .ref c4, .ref c5, .ref c6, .ref c7, .ref c8, .ref c9]))) ab (.inl (G.2 0, 3744, .inr (.inl g1)))) av (.inl (G.2 2, 26, .inl v1))) md ab av c1 c2 c3 c4 c5 c6 c7 c8 c9 0 st g1 v1 (14 + p1) ((mu_n ne0_2).trans ((mu_n ne0_1).trans (mu_s _ _ _))) ((mu_n ((mp_ne hab hav (by simp)))).trans (mu_s _ _ _)) (mu_s _ _ _) (by omega)) (cwV 1 hts gX4_run_X4_all rfl rfl rfl (by decide +kernel) ⟨Nat.le_of_ble_eq_true rfl, Nat.le_of_ble_eq_true rfl⟩) ⟨KW.blind, hP.recv hK rfl ((mu_n ne0_2).trans ((mu_n ne0_1).trans (mu_s _ _ _))), fun U9 hU9 hW9 => ⟨rfl, KW.pre hBs hKK hS hP U9 hU9 hW9⟩⟩ rfl rfl hl.1 rfl (lv_room (Nat.le_of_ble_eq_true rfl)) dX4_run_34 ⟨(Nat.le_of_ble_eq_true rfl), (Nat.le_of_ble_eq_true rfl)⟩) hS (fun m34 H locs hq9 hP hz9 hS => ?_)
        obtain ⟨g34, he34, hL34⟩ := hq9
        rw [he34] at hP
        have hP : mw G.1 vwCl B (mu (mu (mu μ md (.inr (4, [.int (nI 0), .ref ab, .ref av, .int (nI st), .ref c1, .ref c2, .ref c3, .ref c4, .ref c5, .ref c6, .ref c7, .ref c8, .ref c9]))) ab (.inl (G.2 0, 3744, .inr (.inl g34)))) av (.inl (G.2 2, 26, .inl (upd v1 (14 + p1) (nI 0))))) _ := mw_eq ((congrArg (fun z => mu z av (.inl (G.2 2, 26, .inl (upd v1 (14 + p1) (nI 0))))) ((mu_c _ _ ((mp_ne hav hab (by simp)))).trans (congrArg (fun z => mu z av (.inl (G.2 2, 26, .inl v1))) (mu_u _ _ _ _)))).trans (mu_u _ _ _ _)) hP
        refine lv_aload_n hx hb dX4_run_37 rfl (lv_at hl 0 rfl) ?_
        refine mw_get (C := RX4) (T := TX4) (N := 13) hx hb hts in_X4_run_X4 hown hK hP ((mu_n ne0_2).trans ((mu_n ne0_1).trans (mu_s _ _ _))) rfl 2 (by decide) (hts (.fieldLink RX4 13 "OctagonDeskModel" "isVoid" "[Z") (by decide +kernel)) (fun _ h9 => h9) rfl dX4_run_38 ?_
        refine lv_bipush (v := nI 14) hx hb dX4_run_41 (by decide) ?_
        refine lv_iload_n hx hb dX4_run_43 rfl (lv_at hl 2 rfl) ?_
        refine nv_iadd hx hb dX4_run_44 ?_
        refine lv_iconst (v := nI 1) hx hb dX4_run_45 (by decide) ?_
        refine mw_zast hx hb hK hP hS 2 (mu_s _ _ _) rfl (by decide) (by omega) (by omega) dX4_run_46 (fun H locs hP hS => ?_)
        have hP : mw G.1 vwCl B (mu (mu (mu μ md (.inr (4, [.int (nI 0), .ref ab, .ref av, .int (nI st), .ref c1, .ref c2, .ref c3, .ref c4, .ref c5, .ref c6, .ref c7, .ref c8, .ref c9]))) ab (.inl (G.2 0, 3744, .inr (.inl g34)))) av (.inl (G.2 2, 26, .inl (upd (upd v1 (14 + p1) (nI 0)) (14 + p1) (nI 1))))) _ := mw_eq (mu_u _ _ _ _) hP
        refine lv_iinc (v := nI (p1 + 1)) (lv' := [(2, .int (nI (p1 + 1))), (0, .ref md), (1, .int (nI n0))]) hx hb dX4_run_47 hl (k := 2) rfl (nI_add _ _) (by decide) rfl (fun ls hl => ?_)
        refine lv_goto (tgt := 23) hx hb dX4_run_50 (by decide) ?_
        exact ih23 (p1 + 1) n0 g34 (upd (upd v1 (14 + p1) (nI 0)) (14 + p1) (nI 1)) (by omega) (by omega) (by omega) ((hs1.al hL34)) ((VB.u (VB.u hv1 (Or.inl rfl)) (Or.inr rfl))) _ _ hP hS ls (lv_sub hl [1, 2, 0] rfl)
  have hl := lv_entry ([.ref md, .int x9]) (n := 6) (Nat.le_of_ble_eq_true rfl)
  have he9 : entryFrame m args 6 = entryFrame m ([.ref md, .int x9] : List Value).toArray 6 := by rw [hargs]
  rw [he9, lg_entry_eq]
  generalize (lg_sl ([.ref md, .int x9]) ++ List.replicate (6 - (lg_sl ([.ref md, .int x9])).length) Slot.unset).toArray = ls at hl ⊢
  have hl : lv_has ls 6 [(0, .ref md), (1, .int x9)] := hl
  refine lv_aload_n hx hb dX4_run_0 rfl (lv_at hl 0 rfl) ?_
  refine lv_iload_n hx hb dX4_run_1 rfl (lv_at hl 1 rfl) ?_
  refine kc_i (va_runS (As := [.int x9]) (rest := [.ref md]) ⟨hx, hb, hml, hown, hts⟩ (c_X4_isSlot l G B (mu (mu (mu μ md (.inr (4, [.int (nI fl), .ref ab, .ref av, .int (nI st), .ref c1, .ref c2, .ref c3, .ref c4, .ref c5, .ref c6, .ref c7, .ref c8, .ref c9]))) ab (.inl (G.2 0, 3744, .inr (.inl f)))) av (.inl (G.2 2, 26, .inl v))) x9) (va_cwS 1 hts gX4_run_X4_isSlot rfl rfl rfl (by decide +kernel) ⟨Nat.le_of_ble_eq_true rfl, Nat.le_of_ble_eq_true rfl⟩) ⟨KW.blind, fun U9 hU9 hW9 => ⟨rfl, KW.pre hBs hKK hS hP U9 hU9 hW9⟩⟩ rfl rfl hl.1 rfl (lv_room (Nat.le_of_ble_eq_true rfl)) dX4_run_2 ⟨(Nat.le_of_ble_eq_true rfl), (Nat.le_of_ble_eq_true rfl)⟩) hS (fun r2 m2 H locs hq9 hP hz9 hS => ?_)
  obtain ⟨he9, hy2⟩ := hq9
  rw [he9] at hP
  refine lv_if_eq (tgt := 12) hx hb dX4_run_5 (by decide) (fun hc5 => ?_) (fun hc5 => ?_)
  · refine lv_iconst (v := nI 1) hx hb dX4_run_12 (by decide) ?_
    refine kc_i (va_runV (As := [.int (nI 1)]) (rest := []) ⟨hx, hb, hml, hown, hts⟩ (c_X4_refused l G B (mu (mu (mu μ md (.inr (4, [.int (nI fl), .ref ab, .ref av, .int (nI st), .ref c1, .ref c2, .ref c3, .ref c4, .ref c5, .ref c6, .ref c7, .ref c8, .ref c9]))) ab (.inl (G.2 0, 3744, .inr (.inl f)))) av (.inl (G.2 2, 26, .inl v))) md ab av c1 c2 c3 c4 c5 c6 c7 c8 c9 fl st f v 1 ((mu_n ne0_2).trans ((mu_n ne0_1).trans (mu_s _ _ _))) ((mu_n ((mp_ne hab hav (by simp)))).trans (mu_s _ _ _)) (mu_s _ _ _) (by omega)) (cwV 1 hts gX4_run_X4_refused rfl rfl rfl (by decide +kernel) ⟨Nat.le_of_ble_eq_true rfl, Nat.le_of_ble_eq_true rfl⟩) ⟨KW.blind, hP.recv hK rfl ((mu_n ne0_2).trans ((mu_n ne0_1).trans (mu_s _ _ _))), fun U9 hU9 hW9 => ⟨rfl, KW.pre hBs hKK hS hP U9 hU9 hW9⟩⟩ rfl rfl hl.1 rfl (lv_room (Nat.le_of_ble_eq_true rfl)) dX4_run_13 ⟨(Nat.le_of_ble_eq_true rfl), (Nat.le_of_ble_eq_true rfl)⟩) hS (fun r13 m13 H locs hq9 hP hz9 hS => ?_)
    obtain ⟨he9, hw0, hw1⟩ := hq9
    rw [he9] at hP
    have hP : mw G.1 vwCl B (mu (mu (mu μ md (.inr (4, [.int (nI 1), .ref ab, .ref av, .int (nI st), .ref c1, .ref c2, .ref c3, .ref c4, .ref c5, .ref c6, .ref c7, .ref c8, .ref c9]))) ab (.inl (G.2 0, 3744, .inr (.inl f)))) av (.inl (G.2 2, 26, .inl v))) _ := mw_eq ((mu_c _ _ ((Ne.symm ne0_2))).trans (congrArg (fun z => mu z av (.inl (G.2 2, 26, .inl v))) ((mu_c _ _ ((Ne.symm ne0_1))).trans (congrArg (fun z => mu z ab (.inl (G.2 0, 3744, .inr (.inl f)))) (mu_u _ _ _ _))))) hP
    obtain rfl : r13 = nI 1 := hw1 (by decide)
    refine lv_if_eq (tgt := 21) hx hb dX4_run_16 (by decide) (fun hc16 => ?_) (fun hc16 => ?_)
    · exact absurd hc16 (by decide)
    · refine lv_iconst (v := nI 0) hx hb dX4_run_19 (by decide) ?_
      rw [hQ]
      exact W.iret (v := nI 0) hx hb hr (fun t99 ht99 hW99 => ⟨⟨nI 0, mu (mu (mu μ md (.inr (4, [.int (nI 1), .ref ab, .ref av, .int (nI st), .ref c1, .ref c2, .ref c3, .ref c4, .ref c5, .ref c6, .ref c7, .ref c8, .ref c9]))) ab (.inl (G.2 0, 3744, .inr (.inl f)))) av (.inl (G.2 2, 26, .inl v)), rfl, (⟨_, _, _, rfl, ⟨hsy, hvb⟩⟩), by show mw _ _ _ _ t99.heap; rw [ht99]; exact hP⟩, hS.F ht99⟩) hS.2.2 dX4_run_20
  · refine lv_iconst (v := nI 0) hx hb dX4_run_8 (by decide) ?_
    refine lv_goto (tgt := 13) hx hb dX4_run_9 (by decide) ?_
    refine kc_i (va_runV (As := [.int (nI 0)]) (rest := []) ⟨hx, hb, hml, hown, hts⟩ (c_X4_refused l G B (mu (mu (mu μ md (.inr (4, [.int (nI fl), .ref ab, .ref av, .int (nI st), .ref c1, .ref c2, .ref c3, .ref c4, .ref c5, .ref c6, .ref c7, .ref c8, .ref c9]))) ab (.inl (G.2 0, 3744, .inr (.inl f)))) av (.inl (G.2 2, 26, .inl v))) md ab av c1 c2 c3 c4 c5 c6 c7 c8 c9 fl st f v 0 ((mu_n ne0_2).trans ((mu_n ne0_1).trans (mu_s _ _ _))) ((mu_n ((mp_ne hab hav (by simp)))).trans (mu_s _ _ _)) (mu_s _ _ _) (by omega)) (cwV 1 hts gX4_run_X4_refused rfl rfl rfl (by decide +kernel) ⟨Nat.le_of_ble_eq_true rfl, Nat.le_of_ble_eq_true rfl⟩) ⟨KW.blind, hP.recv hK rfl ((mu_n ne0_2).trans ((mu_n ne0_1).trans (mu_s _ _ _))), fun U9 hU9 hW9 => ⟨rfl, KW.pre hBs hKK hS hP U9 hU9 hW9⟩⟩ rfl rfl hl.1 rfl (lv_room (Nat.le_of_ble_eq_true rfl)) dX4_run_13 ⟨(Nat.le_of_ble_eq_true rfl), (Nat.le_of_ble_eq_true rfl)⟩) hS (fun r13 m13 H locs hq9 hP hz9 hS => ?_)
    obtain ⟨he9, hw0, hw1⟩ := hq9
    rw [he9] at hP
    have hP : mw G.1 vwCl B (mu (mu (mu μ md (.inr (4, [.int (nI 0), .ref ab, .ref av, .int (nI st), .ref c1, .ref c2, .ref c3, .ref c4, .ref c5, .ref c6, .ref c7, .ref c8, .ref c9]))) ab (.inl (G.2 0, 3744, .inr (.inl f)))) av (.inl (G.2 2, 26, .inl v))) _ := mw_eq ((mu_c _ _ ((Ne.symm ne0_2))).trans (congrArg (fun z => mu z av (.inl (G.2 2, 26, .inl v))) ((mu_c _ _ ((Ne.symm ne0_1))).trans (congrArg (fun z => mu z ab (.inl (G.2 0, 3744, .inr (.inl f)))) (mu_u _ _ _ _))))) hP
    obtain rfl : r13 = nI 0 := hw0 rfl
    refine lv_if_eq (tgt := 21) hx hb dX4_run_16 (by decide) (fun hc16 => ?_) (fun hc16 => ?_)
    · have hok : okS x9 := yn_t hy2 hc5
      obtain ⟨nx9, hnx9, enx9⟩ := ok_nat (n := 6) (by decide) hok
      subst enx9
      refine lv_iconst (v := nI 0) hx hb dX4_run_21 (by decide) ?_
      refine lv_istore_n (lv' := [(2, .int (nI 0)), (0, .ref md), (1, .int (nI nx9))]) hx hb dX4_run_22 rfl hl (by decide) rfl (fun ls hl => ?_)
      exact L23 _ 0 nx9 f v (Nat.lt_succ_self _) (by omega) (by omega) (hsy) (hvb) _ _ hP hS ls (lv_sub hl [1, 2, 0] rfl)
    · exact absurd rfl hc16

abbrev rn_X4_holds : Room := { frames := 1, cells := 0, slots := 0, locals := 23 }
set_option maxHeartbeats 4000000 in
set_option maxRecDepth 100000 in
theorem m_X4_holds (l : Launch) (G : GG) (B : Nat) (μ : mp) (md ab av c1 c2 c3 c4 c5 c6 c7 c8 c9 fl st : Nat) (f : Nat → Int64) (v : Nat → Int32) (l9 : Nat → Int64) (s9 : Nat) (hm : μ md = some (.inr (4, [.int (nI fl), .ref ab, .ref av, .int (nI st), .ref c1, .ref c2, .ref c3, .ref c4, .ref c5, .ref c6, .ref c7, .ref c8, .ref c9]))) (hab : μ ab = some (.inl (G.2 0, 3744, .inr (.inl f)))) (hav : μ av = some (.inl (G.2 2, 26, .inl v))) (hl9 : μ c9 = some (.inl (G.2 0, 6, .inr (.inl l9)))) (hs9 : s9 < 26) : Met l yX4_holds wsX4_holds rn_X4_holds (va_Pc [.ref md, .int (nI s9)] (KW G B μ)) (va_Qi (fun r μ2 => μ2 = μ ∧ (r = 0 ∨ r = 1)) (BB G B) (fun q => B ≤ q)) 0 0 (fun q => B ≤ q) := by
  refine Met.ofW (cc := cX4_holds) (maxL := 9) (ret := (some .boolean)) (by decide) rfl ?_
  intro p e s m args below meth c s₁ B9 hml hv
  obtain ⟨hargs, hBs, hP, hKK⟩ := hv
  have hx := B9.exec
  have hb := B9.bytes
  have hr := B9.returns
  have hts := atoms_spec (ws := wsX4_holds) B9.pre
  have hown : s.vm.findClass RX4 = some m.cls := findClass_of_methodNamed B9.named
  have hlocks := B9.notSynchronized
  have hK := hKK.k
  have hS : va_S (fun q => B ≤ q) s.heap s.heap [] := va_S.rf
  obtain ⟨Q, hQ⟩ : ∃ Q, Q = MQ below (va_Qi (fun r μ2 => μ2 = μ ∧ (r = 0 ∨ r = 1)) (BB G B) (fun q => B ≤ q)) args s 0 0 (fun q => B ≤ q) := ⟨_, rfl⟩
  rw [← hQ]
  have ne0_1 : md ≠ ab := mp_ne hm hab (by simp)
  have ne0_2 : md ≠ av := mp_ne hm hav (by simp)
  have ne0_3 : md ≠ c9 := mp_ne hm hl9 (by simp)
  have in_X4_holds_X4 : ∀ w ∈ wsX40, w ∈ wsX4_holds := by decide +kernel
  have L2 : ∀ (N2 : Nat) (p1 : Nat) (hN2 : 12 - p1 < N2) (hp1 : p1 ≤ 12), ∀ (H : Heap) (locs : List Loc), mw G.1 vwCl B (μ) H → va_S (fun q => B ≤ q) s.heap H locs → ∀ ls : Array Slot, lv_has ls 9 [(0, .ref md), (1, .int (nI s9)), (2, .int (nI p1))] → W p l e rn_X4_holds s m args below meth c H locs 0 0 Q (F0 m 2 ls []) := by
    intro N2
    induction N2 with
    | zero => intro p1 hN2; exact absurd hN2 (Nat.not_lt_zero _)
    | succ N2 ih2 =>
      intro p1 hN2 hp1 H locs hP hS ls hl
      have L38 : ∀ (N38 : Nat) (q1 : Nat) (x : Int64) (hN38 : p1 + 1 - q1 < N38) (hpo : p1 < 12) (hq1 : q1 ≤ p1 + 1), ∀ (H : Heap) (locs : List Loc), mw G.1 vwCl B (μ) H → va_S (fun q => B ≤ q) s.heap H locs → ∀ ls : Array Slot, lv_has ls 9 [(0, .ref md), (1, .int (nI s9)), (2, .int (nI p1)), (3, .long x), (5, .int (nI q1))] → W p l e rn_X4_holds s m args below meth c H locs 0 0 Q (F0 m 38 ls []) := by
        intro N38
        induction N38 with
        | zero => intro q1 x hN38; exact absurd hN38 (Nat.not_lt_zero _)
        | succ N38 ih38 =>
          intro q1 x hN38 hpo hq1 H locs hP hS ls hl
          refine lv_iload hx hb dX4_holds_38 (lv_at hl 4 rfl) ?_
          refine lv_iload_n hx hb dX4_holds_40 rfl (lv_at hl 2 rfl) ?_
          refine nv_icmp_gt (tgt := 130) hx hb (by omega) (by omega) dX4_holds_41 (by decide) (fun hc41 => ?_) (fun hc41 => ?_)
          · refine lv_iinc (v := nI (p1 + 1)) (lv' := [(2, .int (nI (p1 + 1))), (0, .ref md), (1, .int (nI s9)), (3, .long x), (5, .int (nI q1))]) hx hb dX4_holds_130 hl (k := 2) rfl (nI_add _ _) (by decide) rfl (fun ls hl => ?_)
            refine lv_goto (tgt := 2) hx hb dX4_holds_133 (by decide) ?_
            exact ih2 (p1 + 1) (by omega) (by omega) _ _ hP hS ls (lv_sub hl [1, 2, 0] rfl)
          · refine lv_iload hx hb dX4_holds_44 (lv_at hl 4 rfl) ?_
            refine lv_iconst (v := nI 2) hx hb dX4_holds_46 (by decide) ?_
            refine nv_irem hx hb (by omega) (by decide) (by decide) dX4_holds_47 ?_
            refine lv_if_ne (tgt := 63) hx hb dX4_holds_48 (by decide) (fun hc48 => ?_) (fun hc48 => ?_)
            · refine lv_aload_n hx hb dX4_holds_63 rfl (lv_at hl 0 rfl) ?_
              refine mw_get (C := RX4) (T := TX4) (N := 13) hx hb hts in_X4_holds_X4 hown hK hP (hm) rfl 12 (by decide) (hts (.fieldLink RX4 42 "OctagonDeskModel" "value" "[J") (by decide +kernel)) (fun _ h9 => h9) rfl dX4_holds_64 ?_
              refine lv_iload hx hb dX4_holds_67 (lv_at hl 4 rfl) ?_
              refine lv_iconst (v := nI 2) hx hb dX4_holds_69 (by decide) ?_
              refine nv_idiv hx hb (by omega) (by decide) (by decide) dX4_holds_70 ?_
              refine mw_lald hx hb hK hP 0 (hl9) rfl (by omega) (by omega) dX4_holds_71 ?_
              refine lv_lneg hx hb dX4_holds_72 ?_
              refine lv_topl (fun v73 ev73 => ?_)
              refine lv_lstore (lv' := [(6, .long v73), (0, .ref md), (1, .int (nI s9)), (2, .int (nI p1)), (3, .long x), (5, .int (nI q1))]) hx hb dX4_holds_73 hl (by decide) rfl (fun ls hl => ?_)
              refine lv_iload hx hb dX4_holds_75 (lv_at hl 5 rfl) ?_
              refine lv_iload_n hx hb dX4_holds_77 rfl (lv_at hl 3 rfl) ?_
              refine kc_i (va_runS (As := [.int (nI p1)]) (rest := [.int (nI q1)]) ⟨hx, hb, hml, hown, hts⟩ (c_X4_minus l G B (μ) p1 (by omega)) (va_cwS 1 hts gX4_holds_X4_minus rfl rfl rfl (by decide +kernel) ⟨Nat.le_of_ble_eq_true rfl, Nat.le_of_ble_eq_true rfl⟩) ⟨KW.blind, fun U9 hU9 hW9 => ⟨rfl, KW.pre hBs hKK hS hP U9 hU9 hW9⟩⟩ rfl rfl hl.1 rfl (lv_room (Nat.le_of_ble_eq_true rfl)) dX4_holds_78 ⟨(Nat.le_of_ble_eq_true rfl), (Nat.le_of_ble_eq_true rfl)⟩) hS (fun r78 m78 H locs hq9 hP hz9 hS => ?_)
              obtain ⟨he9, rfl⟩ := hq9
              rw [he9] at hP
              have hne78 := ne_lt (p := p1) (by omega)
              refine nv_icmp_eq (tgt := 114) hx hb (by omega) (by omega) dX4_holds_81 (by decide) (fun hc81 => ?_) (fun hc81 => ?_)
              · refine lv_iconst (v := nI 0) hx hb dX4_holds_114 (by decide) ?_
                refine lv_istore (lv' := [(8, .int (nI 0)), (6, .long v73), (0, .ref md), (1, .int (nI s9)), (2, .int (nI p1)), (3, .long x), (5, .int (nI q1))]) hx hb dX4_holds_115 hl (by decide) rfl (fun ls hl => ?_)
                refine lv_iload hx hb dX4_holds_117 (lv_at hl 0 rfl) ?_
                refine lv_if_eq (tgt := 124) hx hb dX4_holds_119 (by decide) (fun hc119 => ?_) (fun hc119 => ?_)
                · refine lv_iinc (v := nI (q1 + 1)) (lv' := [(5, .int (nI (q1 + 1))), (8, .int (nI 0)), (6, .long v73), (0, .ref md), (1, .int (nI s9)), (2, .int (nI p1)), (3, .long x)]) hx hb dX4_holds_124 hl (k := 6) rfl (nI_add _ _) (by decide) rfl (fun ls hl => ?_)
                  refine lv_goto (tgt := 38) hx hb dX4_holds_127 (by decide) ?_
                  exact ih38 (q1 + 1) x (by omega) (by omega) (by omega) _ _ hP hS ls (lv_sub hl [3, 4, 5, 6, 0] rfl)
                · exact absurd rfl hc119
              · refine lv_iload_n hx hb dX4_holds_84 rfl (lv_at hl 3 rfl) ?_
                refine lv_iload hx hb dX4_holds_85 (lv_at hl 5 rfl) ?_
                refine nv_icmp_ne (tgt := 94) hx hb (by omega) (by omega) dX4_holds_87 (by decide) (fun hc87 => ?_) (fun hc87 => ?_)
                · refine lv_lload_n hx hb dX4_holds_94 rfl (lv_at hl 4 rfl) ?_
                  refine lv_lload hx hb dX4_holds_95 (lv_at hl 0 rfl) ?_
                  refine lv_ladd hx hb dX4_holds_97 ?_
                  refine lv_aload_n hx hb dX4_holds_98 rfl (lv_at hl 1 rfl) ?_
                  refine lv_iload_n hx hb dX4_holds_99 rfl (lv_at hl 2 rfl) ?_
                  refine lv_iload_n hx hb dX4_holds_100 rfl (lv_at hl 3 rfl) ?_
                  refine lv_iload hx hb dX4_holds_101 (lv_at hl 5 rfl) ?_
                  refine kc_l (va_runV (As := [.int (nI s9), .int (nI p1), .int (nI q1)]) (rest := [.long (x + v73)]) ⟨hx, hb, hml, hown, hts⟩ (c_X4_get l G B (μ) md ab av c1 c2 c3 c4 c5 c6 c7 c8 c9 fl st f v s9 p1 q1 (hm) (hab) (hav) (by omega) (by omega) (by omega)) (cwV 3 hts gX4_holds_X4_get rfl rfl rfl (by decide +kernel) ⟨Nat.le_of_ble_eq_true rfl, Nat.le_of_ble_eq_true rfl⟩) ⟨KW.blind, hP.recv hK rfl (hm), fun U9 hU9 hW9 => ⟨rfl, KW.pre hBs hKK hS hP U9 hU9 hW9⟩⟩ rfl rfl hl.1 rfl (lv_room (Nat.le_of_ble_eq_true rfl)) dX4_holds_103 ⟨(Nat.le_of_ble_eq_true rfl), (Nat.le_of_ble_eq_true rfl)⟩) hS (fun r103 m103 H locs hq9 hP hz9 hS => ?_)
                  obtain ⟨he9, hr103⟩ := hq9
                  rw [he9] at hP
                  refine nl_if_le (tgt := 114) hx hb dX4_holds_106 dX4_holds_107 (by decide) (fun hc106 => ?_) (fun hc106 => ?_)
                  · refine lv_iconst (v := nI 0) hx hb dX4_holds_114 (by decide) ?_
                    refine lv_istore (lv' := [(8, .int (nI 0)), (6, .long v73), (0, .ref md), (1, .int (nI s9)), (2, .int (nI p1)), (3, .long x), (5, .int (nI q1))]) hx hb dX4_holds_115 hl (by decide) rfl (fun ls hl => ?_)
                    refine lv_iload hx hb dX4_holds_117 (lv_at hl 0 rfl) ?_
                    refine lv_if_eq (tgt := 124) hx hb dX4_holds_119 (by decide) (fun hc119 => ?_) (fun hc119 => ?_)
                    · refine lv_iinc (v := nI (q1 + 1)) (lv' := [(5, .int (nI (q1 + 1))), (8, .int (nI 0)), (6, .long v73), (0, .ref md), (1, .int (nI s9)), (2, .int (nI p1)), (3, .long x)]) hx hb dX4_holds_124 hl (k := 6) rfl (nI_add _ _) (by decide) rfl (fun ls hl => ?_)
                      refine lv_goto (tgt := 38) hx hb dX4_holds_127 (by decide) ?_
                      exact ih38 (q1 + 1) x (by omega) (by omega) (by omega) _ _ hP hS ls (lv_sub hl [3, 4, 5, 6, 0] rfl)
                    · exact absurd rfl hc119
                  · refine lv_iconst (v := nI 1) hx hb dX4_holds_110 (by decide) ?_
                    refine lv_goto (tgt := 115) hx hb dX4_holds_111 (by decide) ?_
                    refine lv_istore (lv' := [(8, .int (nI 1)), (6, .long v73), (0, .ref md), (1, .int (nI s9)), (2, .int (nI p1)), (3, .long x), (5, .int (nI q1))]) hx hb dX4_holds_115 hl (by decide) rfl (fun ls hl => ?_)
                    refine lv_iload hx hb dX4_holds_117 (lv_at hl 0 rfl) ?_
                    refine lv_if_eq (tgt := 124) hx hb dX4_holds_119 (by decide) (fun hc119 => ?_) (fun hc119 => ?_)
                    · exact absurd hc119 (by decide)
                    · refine lv_iconst (v := nI 0) hx hb dX4_holds_122 (by decide) ?_
                      rw [hQ]
                      exact W.zret (v := nI 0) (ty := .boolean) hx hb hr (by first | rfl | decide) (fun t99 ht99 hW99 => ⟨⟨nI 0, μ, rfl, (⟨rfl, Or.inl rfl⟩), by show mw _ _ _ _ t99.heap; rw [ht99]; exact hP⟩, hS.F ht99⟩) hS.2.2 dX4_holds_123
                · refine lv_lload_n hx hb dX4_holds_90 rfl (lv_at hl 4 rfl) ?_
                  refine lv_goto (tgt := 98) hx hb dX4_holds_91 (by decide) ?_
                  refine lv_aload_n hx hb dX4_holds_98 rfl (lv_at hl 1 rfl) ?_
                  refine lv_iload_n hx hb dX4_holds_99 rfl (lv_at hl 2 rfl) ?_
                  refine lv_iload_n hx hb dX4_holds_100 rfl (lv_at hl 3 rfl) ?_
                  refine lv_iload hx hb dX4_holds_101 (lv_at hl 5 rfl) ?_
                  refine kc_l (va_runV (As := [.int (nI s9), .int (nI p1), .int (nI q1)]) (rest := [.long x]) ⟨hx, hb, hml, hown, hts⟩ (c_X4_get l G B (μ) md ab av c1 c2 c3 c4 c5 c6 c7 c8 c9 fl st f v s9 p1 q1 (hm) (hab) (hav) (by omega) (by omega) (by omega)) (cwV 3 hts gX4_holds_X4_get rfl rfl rfl (by decide +kernel) ⟨Nat.le_of_ble_eq_true rfl, Nat.le_of_ble_eq_true rfl⟩) ⟨KW.blind, hP.recv hK rfl (hm), fun U9 hU9 hW9 => ⟨rfl, KW.pre hBs hKK hS hP U9 hU9 hW9⟩⟩ rfl rfl hl.1 rfl (lv_room (Nat.le_of_ble_eq_true rfl)) dX4_holds_103 ⟨(Nat.le_of_ble_eq_true rfl), (Nat.le_of_ble_eq_true rfl)⟩) hS (fun r103 m103 H locs hq9 hP hz9 hS => ?_)
                  obtain ⟨he9, hr103⟩ := hq9
                  rw [he9] at hP
                  refine nl_if_le (tgt := 114) hx hb dX4_holds_106 dX4_holds_107 (by decide) (fun hc106 => ?_) (fun hc106 => ?_)
                  · refine lv_iconst (v := nI 0) hx hb dX4_holds_114 (by decide) ?_
                    refine lv_istore (lv' := [(8, .int (nI 0)), (6, .long v73), (0, .ref md), (1, .int (nI s9)), (2, .int (nI p1)), (3, .long x), (5, .int (nI q1))]) hx hb dX4_holds_115 hl (by decide) rfl (fun ls hl => ?_)
                    refine lv_iload hx hb dX4_holds_117 (lv_at hl 0 rfl) ?_
                    refine lv_if_eq (tgt := 124) hx hb dX4_holds_119 (by decide) (fun hc119 => ?_) (fun hc119 => ?_)
                    · refine lv_iinc (v := nI (q1 + 1)) (lv' := [(5, .int (nI (q1 + 1))), (8, .int (nI 0)), (6, .long v73), (0, .ref md), (1, .int (nI s9)), (2, .int (nI p1)), (3, .long x)]) hx hb dX4_holds_124 hl (k := 6) rfl (nI_add _ _) (by decide) rfl (fun ls hl => ?_)
                      refine lv_goto (tgt := 38) hx hb dX4_holds_127 (by decide) ?_
                      exact ih38 (q1 + 1) x (by omega) (by omega) (by omega) _ _ hP hS ls (lv_sub hl [3, 4, 5, 6, 0] rfl)
                    · exact absurd rfl hc119
                  · refine lv_iconst (v := nI 1) hx hb dX4_holds_110 (by decide) ?_
                    refine lv_goto (tgt := 115) hx hb dX4_holds_111 (by decide) ?_
                    refine lv_istore (lv' := [(8, .int (nI 1)), (6, .long v73), (0, .ref md), (1, .int (nI s9)), (2, .int (nI p1)), (3, .long x), (5, .int (nI q1))]) hx hb dX4_holds_115 hl (by decide) rfl (fun ls hl => ?_)
                    refine lv_iload hx hb dX4_holds_117 (lv_at hl 0 rfl) ?_
                    refine lv_if_eq (tgt := 124) hx hb dX4_holds_119 (by decide) (fun hc119 => ?_) (fun hc119 => ?_)
                    · exact absurd hc119 (by decide)
                    · refine lv_iconst (v := nI 0) hx hb dX4_holds_122 (by decide) ?_
                      rw [hQ]
                      exact W.zret (v := nI 0) (ty := .boolean) hx hb hr (by first | rfl | decide) (fun t99 ht99 hW99 => ⟨⟨nI 0, μ, rfl, (⟨rfl, Or.inl rfl⟩), by show mw _ _ _ _ t99.heap; rw [ht99]; exact hP⟩, hS.F ht99⟩) hS.2.2 dX4_holds_123
            · refine lv_aload_n hx hb dX4_holds_51 rfl (lv_at hl 0 rfl) ?_
              refine mw_get (C := RX4) (T := TX4) (N := 13) hx hb hts in_X4_holds_X4 hown hK hP (hm) rfl 12 (by decide) (hts (.fieldLink RX4 42 "OctagonDeskModel" "value" "[J") (by decide +kernel)) (fun _ h9 => h9) rfl dX4_holds_52 ?_
              refine lv_iload hx hb dX4_holds_55 (lv_at hl 4 rfl) ?_
              refine lv_iconst (v := nI 2) hx hb dX4_holds_57 (by decide) ?_
              refine nv_idiv hx hb (by omega) (by decide) (by decide) dX4_holds_58 ?_
              refine mw_lald hx hb hK hP 0 (hl9) rfl (by omega) (by omega) dX4_holds_59 ?_
              refine lv_goto (tgt := 73) hx hb dX4_holds_60 (by decide) ?_
              refine lv_topl (fun v73 ev73 => ?_)
              refine lv_lstore (lv' := [(6, .long v73), (0, .ref md), (1, .int (nI s9)), (2, .int (nI p1)), (3, .long x), (5, .int (nI q1))]) hx hb dX4_holds_73 hl (by decide) rfl (fun ls hl => ?_)
              refine lv_iload hx hb dX4_holds_75 (lv_at hl 5 rfl) ?_
              refine lv_iload_n hx hb dX4_holds_77 rfl (lv_at hl 3 rfl) ?_
              refine kc_i (va_runS (As := [.int (nI p1)]) (rest := [.int (nI q1)]) ⟨hx, hb, hml, hown, hts⟩ (c_X4_minus l G B (μ) p1 (by omega)) (va_cwS 1 hts gX4_holds_X4_minus rfl rfl rfl (by decide +kernel) ⟨Nat.le_of_ble_eq_true rfl, Nat.le_of_ble_eq_true rfl⟩) ⟨KW.blind, fun U9 hU9 hW9 => ⟨rfl, KW.pre hBs hKK hS hP U9 hU9 hW9⟩⟩ rfl rfl hl.1 rfl (lv_room (Nat.le_of_ble_eq_true rfl)) dX4_holds_78 ⟨(Nat.le_of_ble_eq_true rfl), (Nat.le_of_ble_eq_true rfl)⟩) hS (fun r78 m78 H locs hq9 hP hz9 hS => ?_)
              obtain ⟨he9, rfl⟩ := hq9
              rw [he9] at hP
              have hne78 := ne_lt (p := p1) (by omega)
              refine nv_icmp_eq (tgt := 114) hx hb (by omega) (by omega) dX4_holds_81 (by decide) (fun hc81 => ?_) (fun hc81 => ?_)
              · refine lv_iconst (v := nI 0) hx hb dX4_holds_114 (by decide) ?_
                refine lv_istore (lv' := [(8, .int (nI 0)), (6, .long v73), (0, .ref md), (1, .int (nI s9)), (2, .int (nI p1)), (3, .long x), (5, .int (nI q1))]) hx hb dX4_holds_115 hl (by decide) rfl (fun ls hl => ?_)
                refine lv_iload hx hb dX4_holds_117 (lv_at hl 0 rfl) ?_
                refine lv_if_eq (tgt := 124) hx hb dX4_holds_119 (by decide) (fun hc119 => ?_) (fun hc119 => ?_)
                · refine lv_iinc (v := nI (q1 + 1)) (lv' := [(5, .int (nI (q1 + 1))), (8, .int (nI 0)), (6, .long v73), (0, .ref md), (1, .int (nI s9)), (2, .int (nI p1)), (3, .long x)]) hx hb dX4_holds_124 hl (k := 6) rfl (nI_add _ _) (by decide) rfl (fun ls hl => ?_)
                  refine lv_goto (tgt := 38) hx hb dX4_holds_127 (by decide) ?_
                  exact ih38 (q1 + 1) x (by omega) (by omega) (by omega) _ _ hP hS ls (lv_sub hl [3, 4, 5, 6, 0] rfl)
                · exact absurd rfl hc119
              · refine lv_iload_n hx hb dX4_holds_84 rfl (lv_at hl 3 rfl) ?_
                refine lv_iload hx hb dX4_holds_85 (lv_at hl 5 rfl) ?_
                refine nv_icmp_ne (tgt := 94) hx hb (by omega) (by omega) dX4_holds_87 (by decide) (fun hc87 => ?_) (fun hc87 => ?_)
                · refine lv_lload_n hx hb dX4_holds_94 rfl (lv_at hl 4 rfl) ?_
                  refine lv_lload hx hb dX4_holds_95 (lv_at hl 0 rfl) ?_
                  refine lv_ladd hx hb dX4_holds_97 ?_
                  refine lv_aload_n hx hb dX4_holds_98 rfl (lv_at hl 1 rfl) ?_
                  refine lv_iload_n hx hb dX4_holds_99 rfl (lv_at hl 2 rfl) ?_
                  refine lv_iload_n hx hb dX4_holds_100 rfl (lv_at hl 3 rfl) ?_
                  refine lv_iload hx hb dX4_holds_101 (lv_at hl 5 rfl) ?_
                  refine kc_l (va_runV (As := [.int (nI s9), .int (nI p1), .int (nI q1)]) (rest := [.long (x + v73)]) ⟨hx, hb, hml, hown, hts⟩ (c_X4_get l G B (μ) md ab av c1 c2 c3 c4 c5 c6 c7 c8 c9 fl st f v s9 p1 q1 (hm) (hab) (hav) (by omega) (by omega) (by omega)) (cwV 3 hts gX4_holds_X4_get rfl rfl rfl (by decide +kernel) ⟨Nat.le_of_ble_eq_true rfl, Nat.le_of_ble_eq_true rfl⟩) ⟨KW.blind, hP.recv hK rfl (hm), fun U9 hU9 hW9 => ⟨rfl, KW.pre hBs hKK hS hP U9 hU9 hW9⟩⟩ rfl rfl hl.1 rfl (lv_room (Nat.le_of_ble_eq_true rfl)) dX4_holds_103 ⟨(Nat.le_of_ble_eq_true rfl), (Nat.le_of_ble_eq_true rfl)⟩) hS (fun r103 m103 H locs hq9 hP hz9 hS => ?_)
                  obtain ⟨he9, hr103⟩ := hq9
                  rw [he9] at hP
                  refine nl_if_le (tgt := 114) hx hb dX4_holds_106 dX4_holds_107 (by decide) (fun hc106 => ?_) (fun hc106 => ?_)
                  · refine lv_iconst (v := nI 0) hx hb dX4_holds_114 (by decide) ?_
                    refine lv_istore (lv' := [(8, .int (nI 0)), (6, .long v73), (0, .ref md), (1, .int (nI s9)), (2, .int (nI p1)), (3, .long x), (5, .int (nI q1))]) hx hb dX4_holds_115 hl (by decide) rfl (fun ls hl => ?_)
                    refine lv_iload hx hb dX4_holds_117 (lv_at hl 0 rfl) ?_
                    refine lv_if_eq (tgt := 124) hx hb dX4_holds_119 (by decide) (fun hc119 => ?_) (fun hc119 => ?_)
                    · refine lv_iinc (v := nI (q1 + 1)) (lv' := [(5, .int (nI (q1 + 1))), (8, .int (nI 0)), (6, .long v73), (0, .ref md), (1, .int (nI s9)), (2, .int (nI p1)), (3, .long x)]) hx hb dX4_holds_124 hl (k := 6) rfl (nI_add _ _) (by decide) rfl (fun ls hl => ?_)
                      refine lv_goto (tgt := 38) hx hb dX4_holds_127 (by decide) ?_
                      exact ih38 (q1 + 1) x (by omega) (by omega) (by omega) _ _ hP hS ls (lv_sub hl [3, 4, 5, 6, 0] rfl)
                    · exact absurd rfl hc119
                  · refine lv_iconst (v := nI 1) hx hb dX4_holds_110 (by decide) ?_
                    refine lv_goto (tgt := 115) hx hb dX4_holds_111 (by decide) ?_
                    refine lv_istore (lv' := [(8, .int (nI 1)), (6, .long v73), (0, .ref md), (1, .int (nI s9)), (2, .int (nI p1)), (3, .long x), (5, .int (nI q1))]) hx hb dX4_holds_115 hl (by decide) rfl (fun ls hl => ?_)
                    refine lv_iload hx hb dX4_holds_117 (lv_at hl 0 rfl) ?_
                    refine lv_if_eq (tgt := 124) hx hb dX4_holds_119 (by decide) (fun hc119 => ?_) (fun hc119 => ?_)
                    · exact absurd hc119 (by decide)
                    · refine lv_iconst (v := nI 0) hx hb dX4_holds_122 (by decide) ?_
                      rw [hQ]
                      exact W.zret (v := nI 0) (ty := .boolean) hx hb hr (by first | rfl | decide) (fun t99 ht99 hW99 => ⟨⟨nI 0, μ, rfl, (⟨rfl, Or.inl rfl⟩), by show mw _ _ _ _ t99.heap; rw [ht99]; exact hP⟩, hS.F ht99⟩) hS.2.2 dX4_holds_123
                · refine lv_lload_n hx hb dX4_holds_90 rfl (lv_at hl 4 rfl) ?_
                  refine lv_goto (tgt := 98) hx hb dX4_holds_91 (by decide) ?_
                  refine lv_aload_n hx hb dX4_holds_98 rfl (lv_at hl 1 rfl) ?_
                  refine lv_iload_n hx hb dX4_holds_99 rfl (lv_at hl 2 rfl) ?_
                  refine lv_iload_n hx hb dX4_holds_100 rfl (lv_at hl 3 rfl) ?_
                  refine lv_iload hx hb dX4_holds_101 (lv_at hl 5 rfl) ?_
                  refine kc_l (va_runV (As := [.int (nI s9), .int (nI p1), .int (nI q1)]) (rest := [.long x]) ⟨hx, hb, hml, hown, hts⟩ (c_X4_get l G B (μ) md ab av c1 c2 c3 c4 c5 c6 c7 c8 c9 fl st f v s9 p1 q1 (hm) (hab) (hav) (by omega) (by omega) (by omega)) (cwV 3 hts gX4_holds_X4_get rfl rfl rfl (by decide +kernel) ⟨Nat.le_of_ble_eq_true rfl, Nat.le_of_ble_eq_true rfl⟩) ⟨KW.blind, hP.recv hK rfl (hm), fun U9 hU9 hW9 => ⟨rfl, KW.pre hBs hKK hS hP U9 hU9 hW9⟩⟩ rfl rfl hl.1 rfl (lv_room (Nat.le_of_ble_eq_true rfl)) dX4_holds_103 ⟨(Nat.le_of_ble_eq_true rfl), (Nat.le_of_ble_eq_true rfl)⟩) hS (fun r103 m103 H locs hq9 hP hz9 hS => ?_)
                  obtain ⟨he9, hr103⟩ := hq9
                  rw [he9] at hP
                  refine nl_if_le (tgt := 114) hx hb dX4_holds_106 dX4_holds_107 (by decide) (fun hc106 => ?_) (fun hc106 => ?_)
                  · refine lv_iconst (v := nI 0) hx hb dX4_holds_114 (by decide) ?_
                    refine lv_istore (lv' := [(8, .int (nI 0)), (6, .long v73), (0, .ref md), (1, .int (nI s9)), (2, .int (nI p1)), (3, .long x), (5, .int (nI q1))]) hx hb dX4_holds_115 hl (by decide) rfl (fun ls hl => ?_)
                    refine lv_iload hx hb dX4_holds_117 (lv_at hl 0 rfl) ?_
                    refine lv_if_eq (tgt := 124) hx hb dX4_holds_119 (by decide) (fun hc119 => ?_) (fun hc119 => ?_)
                    · refine lv_iinc (v := nI (q1 + 1)) (lv' := [(5, .int (nI (q1 + 1))), (8, .int (nI 0)), (6, .long v73), (0, .ref md), (1, .int (nI s9)), (2, .int (nI p1)), (3, .long x)]) hx hb dX4_holds_124 hl (k := 6) rfl (nI_add _ _) (by decide) rfl (fun ls hl => ?_)
                      refine lv_goto (tgt := 38) hx hb dX4_holds_127 (by decide) ?_
                      exact ih38 (q1 + 1) x (by omega) (by omega) (by omega) _ _ hP hS ls (lv_sub hl [3, 4, 5, 6, 0] rfl)
                    · exact absurd rfl hc119
                  · refine lv_iconst (v := nI 1) hx hb dX4_holds_110 (by decide) ?_
                    refine lv_goto (tgt := 115) hx hb dX4_holds_111 (by decide) ?_
                    refine lv_istore (lv' := [(8, .int (nI 1)), (6, .long v73), (0, .ref md), (1, .int (nI s9)), (2, .int (nI p1)), (3, .long x), (5, .int (nI q1))]) hx hb dX4_holds_115 hl (by decide) rfl (fun ls hl => ?_)
                    refine lv_iload hx hb dX4_holds_117 (lv_at hl 0 rfl) ?_
                    refine lv_if_eq (tgt := 124) hx hb dX4_holds_119 (by decide) (fun hc119 => ?_) (fun hc119 => ?_)
                    · exact absurd hc119 (by decide)
                    · refine lv_iconst (v := nI 0) hx hb dX4_holds_122 (by decide) ?_
                      rw [hQ]
                      exact W.zret (v := nI 0) (ty := .boolean) hx hb hr (by first | rfl | decide) (fun t99 ht99 hW99 => ⟨⟨nI 0, μ, rfl, (⟨rfl, Or.inl rfl⟩), by show mw _ _ _ _ t99.heap; rw [ht99]; exact hP⟩, hS.F ht99⟩) hS.2.2 dX4_holds_123
      refine lv_iload_n hx hb dX4_holds_2 rfl (lv_at hl 2 rfl) ?_
      refine lv_bipush (v := nI 12) hx hb dX4_holds_3 (by decide) ?_
      refine nv_icmp_ge (tgt := 136) hx hb (by omega) (by omega) dX4_holds_5 (by decide) (fun hc5 => ?_) (fun hc5 => ?_)
      · refine lv_iconst (v := nI 1) hx hb dX4_holds_136 (by decide) ?_
        rw [hQ]
        exact W.zret (v := nI 1) (ty := .boolean) hx hb hr (by first | rfl | decide) (fun t99 ht99 hW99 => ⟨⟨nI 1, μ, rfl, (⟨rfl, Or.inr rfl⟩), by show mw _ _ _ _ t99.heap; rw [ht99]; exact hP⟩, hS.F ht99⟩) hS.2.2 dX4_holds_137
      · refine lv_iload_n hx hb dX4_holds_8 rfl (lv_at hl 2 rfl) ?_
        refine lv_iconst (v := nI 2) hx hb dX4_holds_9 (by decide) ?_
        refine nv_irem hx hb (by omega) (by decide) (by decide) dX4_holds_10 ?_
        refine lv_if_ne (tgt := 25) hx hb dX4_holds_11 (by decide) (fun hc11 => ?_) (fun hc11 => ?_)
        · refine lv_aload_n hx hb dX4_holds_25 rfl (lv_at hl 0 rfl) ?_
          refine mw_get (C := RX4) (T := TX4) (N := 13) hx hb hts in_X4_holds_X4 hown hK hP (hm) rfl 12 (by decide) (hts (.fieldLink RX4 42 "OctagonDeskModel" "value" "[J") (by decide +kernel)) (fun _ h9 => h9) rfl dX4_holds_26 ?_
          refine lv_iload_n hx hb dX4_holds_29 rfl (lv_at hl 2 rfl) ?_
          refine lv_iconst (v := nI 2) hx hb dX4_holds_30 (by decide) ?_
          refine nv_idiv hx hb (by omega) (by decide) (by decide) dX4_holds_31 ?_
          refine mw_lald hx hb hK hP 0 (hl9) rfl (by omega) (by omega) dX4_holds_32 ?_
          refine lv_lneg hx hb dX4_holds_33 ?_
          refine lv_topl (fun v34 ev34 => ?_)
          refine lv_lstore_n (lv' := [(3, .long v34), (0, .ref md), (1, .int (nI s9)), (2, .int (nI p1))]) hx hb dX4_holds_34 rfl hl (by decide) rfl (fun ls hl => ?_)
          refine lv_iconst (v := nI 0) hx hb dX4_holds_35 (by decide) ?_
          refine lv_istore (lv' := [(5, .int (nI 0)), (3, .long v34), (0, .ref md), (1, .int (nI s9)), (2, .int (nI p1))]) hx hb dX4_holds_36 hl (by decide) rfl (fun ls hl => ?_)
          exact L38 _ 0 v34 (Nat.lt_succ_self _) (by omega) (by omega) _ _ hP hS ls (lv_sub hl [2, 3, 4, 1, 0] rfl)
        · refine lv_aload_n hx hb dX4_holds_14 rfl (lv_at hl 0 rfl) ?_
          refine mw_get (C := RX4) (T := TX4) (N := 13) hx hb hts in_X4_holds_X4 hown hK hP (hm) rfl 12 (by decide) (hts (.fieldLink RX4 42 "OctagonDeskModel" "value" "[J") (by decide +kernel)) (fun _ h9 => h9) rfl dX4_holds_15 ?_
          refine lv_iload_n hx hb dX4_holds_18 rfl (lv_at hl 2 rfl) ?_
          refine lv_iconst (v := nI 2) hx hb dX4_holds_19 (by decide) ?_
          refine nv_idiv hx hb (by omega) (by decide) (by decide) dX4_holds_20 ?_
          refine mw_lald hx hb hK hP 0 (hl9) rfl (by omega) (by omega) dX4_holds_21 ?_
          refine lv_goto (tgt := 34) hx hb dX4_holds_22 (by decide) ?_
          refine lv_topl (fun v34 ev34 => ?_)
          refine lv_lstore_n (lv' := [(3, .long v34), (0, .ref md), (1, .int (nI s9)), (2, .int (nI p1))]) hx hb dX4_holds_34 rfl hl (by decide) rfl (fun ls hl => ?_)
          refine lv_iconst (v := nI 0) hx hb dX4_holds_35 (by decide) ?_
          refine lv_istore (lv' := [(5, .int (nI 0)), (3, .long v34), (0, .ref md), (1, .int (nI s9)), (2, .int (nI p1))]) hx hb dX4_holds_36 hl (by decide) rfl (fun ls hl => ?_)
          exact L38 _ 0 v34 (Nat.lt_succ_self _) (by omega) (by omega) _ _ hP hS ls (lv_sub hl [2, 3, 4, 1, 0] rfl)
  have hl := lv_entry ([.ref md, .int (nI s9)]) (n := 9) (Nat.le_of_ble_eq_true rfl)
  have he9 : entryFrame m args 9 = entryFrame m ([.ref md, .int (nI s9)] : List Value).toArray 9 := by rw [hargs]
  rw [he9, lg_entry_eq]
  generalize (lg_sl ([.ref md, .int (nI s9)]) ++ List.replicate (9 - (lg_sl ([.ref md, .int (nI s9)])).length) Slot.unset).toArray = ls at hl ⊢
  have hl : lv_has ls 9 [(0, .ref md), (1, .int (nI s9))] := hl
  refine lv_iconst (v := nI 0) hx hb dX4_holds_0 (by decide) ?_
  refine lv_istore_n (lv' := [(2, .int (nI 0)), (0, .ref md), (1, .int (nI s9))]) hx hb dX4_holds_1 rfl hl (by decide) rfl (fun ls hl => ?_)
  exact L2 _ 0 (Nat.lt_succ_self _) (by omega) _ _ hP hS ls (lv_sub hl [1, 2, 0] rfl)

abbrev rn_X4_places : Room := { frames := 2, cells := 0, slots := 0, locals := 51 }
set_option maxHeartbeats 4000000 in
set_option maxRecDepth 100000 in
theorem m_X4_places (l : Launch) (G : GG) (B : Nat) (μ : mp) (md ab av c1 c2 c3 c4 c5 c6 c7 c8 c9 fl st : Nat) (f : Nat → Int64) (v : Nat → Int32) (l7 l8 l9 : Nat → Int64) (x9 : Int32) (hm : μ md = some (.inr (4, [.int (nI fl), .ref ab, .ref av, .int (nI st), .ref c1, .ref c2, .ref c3, .ref c4, .ref c5, .ref c6, .ref c7, .ref c8, .ref c9]))) (hab : μ ab = some (.inl (G.2 0, 3744, .inr (.inl f)))) (hav : μ av = some (.inl (G.2 2, 26, .inl v))) (hl7 : μ c7 = some (.inl (G.2 0, 6, .inr (.inl l7)))) (hl8 : μ c8 = some (.inl (G.2 0, 6, .inr (.inl l8)))) (hl9 : μ c9 = some (.inl (G.2 0, 6, .inr (.inl l9)))) (hvb : VB v) (n78 : c7 ≠ c8) (n79 : c7 ≠ c9) (n89 : c8 ≠ c9) : Met l yX4_places wsX4_places rn_X4_places (va_Pc [.ref md, .int x9] (KW G B μ)) (va_Qi (fun r μ2 => ∃ (fl9 : Nat) (k7 k8 k9 : Nat → Int64), μ2 = mu (mu (mu (mu μ md (.inr (4, [.int (nI fl9), .ref ab, .ref av, .int (nI st), .ref c1, .ref c2, .ref c3, .ref c4, .ref c5, .ref c6, .ref c7, .ref c8, .ref c9]))) c7 (.inl (G.2 0, 6, .inr (.inl k7)))) c8 (.inl (G.2 0, 6, .inr (.inl k8)))) c9 (.inl (G.2 0, 6, .inr (.inl k9)))) (BB G B) (fun q => B ≤ q)) 0 0 (fun q => B ≤ q) := by
  refine Met.ofW (cc := cX4_places) (maxL := 9) (ret := (some .int)) (by decide) rfl ?_
  intro p e s m args below meth c s₁ B9 hml hv
  obtain ⟨hargs, hBs, hP, hKK⟩ := hv
  have hx := B9.exec
  have hb := B9.bytes
  have hr := B9.returns
  have hts := atoms_spec (ws := wsX4_places) B9.pre
  have hown : s.vm.findClass RX4 = some m.cls := findClass_of_methodNamed B9.named
  have hlocks := B9.notSynchronized
  have hK := hKK.k
  have hS : va_S (fun q => B ≤ q) s.heap s.heap [] := va_S.rf
  obtain ⟨Q, hQ⟩ : ∃ Q, Q = MQ below (va_Qi (fun r μ2 => ∃ (fl9 : Nat) (k7 k8 k9 : Nat → Int64), μ2 = mu (mu (mu (mu μ md (.inr (4, [.int (nI fl9), .ref ab, .ref av, .int (nI st), .ref c1, .ref c2, .ref c3, .ref c4, .ref c5, .ref c6, .ref c7, .ref c8, .ref c9]))) c7 (.inl (G.2 0, 6, .inr (.inl k7)))) c8 (.inl (G.2 0, 6, .inr (.inl k8)))) c9 (.inl (G.2 0, 6, .inr (.inl k9)))) (BB G B) (fun q => B ≤ q)) args s 0 0 (fun q => B ≤ q) := ⟨_, rfl⟩
  rw [← hQ]
  have ne0_1 : md ≠ ab := mp_ne hm hab (by simp)
  have ne0_2 : md ≠ av := mp_ne hm hav (by simp)
  have ne0_3 : md ≠ c7 := mp_ne hm hl7 (by simp)
  have ne0_4 : md ≠ c8 := mp_ne hm hl8 (by simp)
  have ne0_5 : md ≠ c9 := mp_ne hm hl9 (by simp)
  have in_X4_places_X4 : ∀ w ∈ wsX40, w ∈ wsX4_places := by decide +kernel
  have hP : mw G.1 vwCl B (mu (mu (mu (mu μ md (.inr (4, [.int (nI fl), .ref ab, .ref av, .int (nI st), .ref c1, .ref c2, .ref c3, .ref c4, .ref c5, .ref c6, .ref c7, .ref c8, .ref c9]))) c7 (.inl (G.2 0, 6, .inr (.inl l7)))) c8 (.inl (G.2 0, 6, .inr (.inl l8)))) c9 (.inl (G.2 0, 6, .inr (.inl l9)))) s.heap := mw_eq ((congrArg (fun z => mu z c9 (.inl (G.2 0, 6, .inr (.inl l9)))) ((congrArg (fun z => mu z c8 (.inl (G.2 0, 6, .inr (.inl l8)))) ((congrArg (fun z => mu z c7 (.inl (G.2 0, 6, .inr (.inl l7)))) (mu_i hm)).trans (mu_i hl7))).trans (mu_i hl8))).trans (mu_i hl9)).symm hP
  have L161 : ∀ (N161 : Nat) (k1 : Nat) (ct : Int32) (n0 : Nat) (mn : Int64) (a7 : Nat → Int64) (a8 : Nat → Int64) (a9 : Nat → Int64) (hN161 : 4096 - k1 < N161) (hk1 : k1 ≤ 4096) (hn0 : n0 < 6) (hle : mn ≤ 4096) (hDv : Dv a7 a8 mn 6), ∀ (H : Heap) (locs : List Loc), mw G.1 vwCl B (mu (mu (mu (mu μ md (.inr (4, [.int (nI 0), .ref ab, .ref av, .int (nI st), .ref c1, .ref c2, .ref c3, .ref c4, .ref c5, .ref c6, .ref c7, .ref c8, .ref c9]))) c7 (.inl (G.2 0, 6, .inr (.inl a7)))) c8 (.inl (G.2 0, 6, .inr (.inl a8)))) c9 (.inl (G.2 0, 6, .inr (.inl a9)))) H → va_S (fun q => B ≤ q) s.heap H locs → ∀ ls : Array Slot, lv_has ls 9 [(0, .ref md), (1, .int (nI n0)), (2, .long mn), (4, .int ct), (5, .int (nI k1))] → W p l e rn_X4_places s m args below meth c H locs 0 0 Q (F0 m 161 ls []) := by
    intro N161
    induction N161 with
    | zero => intro k1 ct n0 mn a7 a8 a9 hN161; exact absurd hN161 (Nat.not_lt_zero _)
    | succ N161 ih161 =>
      intro k1 ct n0 mn a7 a8 a9 hN161 hk1 hn0 hle hDv H locs hP hS ls hl
      have L176 : ∀ (N176 : Nat) (i1 : Nat) (lf : Int32) (a9 : Nat → Int64) (hN176 : 6 - i1 < N176) (hi1 : i1 ≤ 6) (hlt : ¬ mn ≤ (nI k1).toInt64), ∀ (H : Heap) (locs : List Loc), mw G.1 vwCl B (mu (mu (mu (mu μ md (.inr (4, [.int (nI 0), .ref ab, .ref av, .int (nI st), .ref c1, .ref c2, .ref c3, .ref c4, .ref c5, .ref c6, .ref c7, .ref c8, .ref c9]))) c7 (.inl (G.2 0, 6, .inr (.inl a7)))) c8 (.inl (G.2 0, 6, .inr (.inl a8)))) c9 (.inl (G.2 0, 6, .inr (.inl a9)))) H → va_S (fun q => B ≤ q) s.heap H locs → ∀ ls : Array Slot, lv_has ls 9 [(0, .ref md), (1, .int (nI n0)), (2, .long mn), (4, .int ct), (5, .int (nI k1)), (6, .int lf), (7, .int (nI i1))] → W p l e rn_X4_places s m args below meth c H locs 0 0 Q (F0 m 176 ls []) := by
        intro N176
        induction N176 with
        | zero => intro i1 lf a9 hN176; exact absurd hN176 (Nat.not_lt_zero _)
        | succ N176 ih176 =>
          intro i1 lf a9 hN176 hi1 hlt H locs hP hS ls hl
          refine lv_iload hx hb dX4_places_176 (lv_at hl 6 rfl) ?_
          refine lv_bipush (v := nI 6) hx hb dX4_places_178 (by decide) ?_
          refine nv_icmp_ge (tgt := 237) hx hb (by omega) (by omega) dX4_places_180 (by decide) (fun hc180 => ?_) (fun hc180 => ?_)
          · refine lv_aload_n hx hb dX4_places_237 rfl (lv_at hl 0 rfl) ?_
            refine lv_iload_n hx hb dX4_places_238 rfl (lv_at hl 1 rfl) ?_
            refine kc_i (va_runV (As := [.int (nI n0)]) (rest := []) ⟨hx, hb, hml, hown, hts⟩ (m_X4_holds l G B (mu (mu (mu (mu μ md (.inr (4, [.int (nI 0), .ref ab, .ref av, .int (nI st), .ref c1, .ref c2, .ref c3, .ref c4, .ref c5, .ref c6, .ref c7, .ref c8, .ref c9]))) c7 (.inl (G.2 0, 6, .inr (.inl a7)))) c8 (.inl (G.2 0, 6, .inr (.inl a8)))) c9 (.inl (G.2 0, 6, .inr (.inl a9)))) md ab av c1 c2 c3 c4 c5 c6 c7 c8 c9 0 st f v a9 n0 ((mu_n ne0_5).trans ((mu_n ne0_4).trans ((mu_n ne0_3).trans (mu_s _ _ _)))) ((mu_n ((mp_ne hab hl9 (by simp)))).trans ((mu_n ((mp_ne hab hl8 (by simp)))).trans ((mu_n ((mp_ne hab hl7 (by simp)))).trans ((mu_n ((Ne.symm ne0_1))).trans (hab))))) ((mu_n ((mp_ne hav hl9 (by simp)))).trans ((mu_n ((mp_ne hav hl8 (by simp)))).trans ((mu_n ((mp_ne hav hl7 (by simp)))).trans ((mu_n ((Ne.symm ne0_2))).trans (hav))))) (mu_s _ _ _) (by omega)) (cwV 1 hts gX4_places_X4_holds rfl rfl rfl (by decide +kernel) ⟨Nat.le_of_ble_eq_true rfl, Nat.le_of_ble_eq_true rfl⟩) ⟨KW.blind, hP.recv hK rfl ((mu_n ne0_5).trans ((mu_n ne0_4).trans ((mu_n ne0_3).trans (mu_s _ _ _)))), fun U9 hU9 hW9 => ⟨rfl, KW.pre hBs hKK hS hP U9 hU9 hW9⟩⟩ rfl rfl hl.1 rfl (lv_room (Nat.le_of_ble_eq_true rfl)) dX4_places_239 ⟨(Nat.le_of_ble_eq_true rfl), (Nat.le_of_ble_eq_true rfl)⟩) hS (fun r239 m239 H locs hq9 hP hz9 hS => ?_)
            obtain ⟨he9, hbr239⟩ := hq9
            rw [he9] at hP
            refine lv_if_eq (tgt := 252) hx hb dX4_places_242 (by decide) (fun hc242 => ?_) (fun hc242 => ?_)
            · refine lv_iload hx hb dX4_places_252 (lv_at hl 3 rfl) ?_
              refine lv_istore (lv' := [(4, .int ct), (0, .ref md), (1, .int (nI n0)), (2, .long mn), (5, .int (nI k1)), (6, .int lf), (7, .int (nI i1))]) hx hb dX4_places_254 hl (by decide) rfl (fun ls hl => ?_)
              refine lv_iinc (v := nI (k1 + 1)) (lv' := [(5, .int (nI (k1 + 1))), (4, .int ct), (0, .ref md), (1, .int (nI n0)), (2, .long mn), (6, .int lf), (7, .int (nI i1))]) hx hb dX4_places_256 hl (k := 4) rfl (nI_add _ _) (by decide) rfl (fun ls hl => ?_)
              refine lv_goto (tgt := 161) hx hb dX4_places_259 (by decide) ?_
              exact ih161 (k1 + 1) ct n0 mn a7 a8 a9 (by have h9 := Dv.k hle hk1 hlt; omega) ((Dv.k hle hk1 hlt)) (by omega) (hle) (hDv) _ _ hP hS ls (lv_sub hl [2, 3, 4, 1, 0] rfl)
            · refine lv_iload hx hb dX4_places_245 (lv_at hl 3 rfl) ?_
              refine lv_iconst (v := nI 1) hx hb dX4_places_247 (by decide) ?_
              refine lv_iadd hx hb dX4_places_248 ?_
              refine lv_goto (tgt := 254) hx hb dX4_places_249 (by decide) ?_
              refine lv_topi (fun v254 ev254 => ?_)
              refine lv_istore (lv' := [(4, .int v254), (0, .ref md), (1, .int (nI n0)), (2, .long mn), (5, .int (nI k1)), (6, .int lf), (7, .int (nI i1))]) hx hb dX4_places_254 hl (by decide) rfl (fun ls hl => ?_)
              refine lv_iinc (v := nI (k1 + 1)) (lv' := [(5, .int (nI (k1 + 1))), (4, .int v254), (0, .ref md), (1, .int (nI n0)), (2, .long mn), (6, .int lf), (7, .int (nI i1))]) hx hb dX4_places_256 hl (k := 4) rfl (nI_add _ _) (by decide) rfl (fun ls hl => ?_)
              refine lv_goto (tgt := 161) hx hb dX4_places_259 (by decide) ?_
              exact ih161 (k1 + 1) v254 n0 mn a7 a8 a9 (by have h9 := Dv.k hle hk1 hlt; omega) ((Dv.k hle hk1 hlt)) (by omega) (hle) (hDv) _ _ hP hS ls (lv_sub hl [2, 3, 4, 1, 0] rfl)
          · refine lv_aload_n hx hb dX4_places_183 rfl (lv_at hl 0 rfl) ?_
            refine mw_get (C := RX4) (T := TX4) (N := 13) hx hb hts in_X4_places_X4 hown hK hP ((mu_n ne0_5).trans ((mu_n ne0_4).trans ((mu_n ne0_3).trans (mu_s _ _ _)))) rfl 11 (by decide) (hts (.fieldLink RX4 39 "OctagonDeskModel" "high" "[J") (by decide +kernel)) (fun _ h9 => h9) rfl dX4_places_184 ?_
            refine lv_iload hx hb dX4_places_187 (lv_at hl 6 rfl) ?_
            refine mw_lald hx hb hK hP 0 ((mu_n n89).trans (mu_s _ _ _)) rfl (by omega) (by omega) dX4_places_189 ?_
            refine lv_aload_n hx hb dX4_places_190 rfl (lv_at hl 0 rfl) ?_
            refine mw_get (C := RX4) (T := TX4) (N := 13) hx hb hts in_X4_places_X4 hown hK hP ((mu_n ne0_5).trans ((mu_n ne0_4).trans ((mu_n ne0_3).trans (mu_s _ _ _)))) rfl 10 (by decide) (hts (.fieldLink RX4 36 "OctagonDeskModel" "low" "[J") (by decide +kernel)) (fun _ h9 => h9) rfl dX4_places_191 ?_
            refine lv_iload hx hb dX4_places_194 (lv_at hl 6 rfl) ?_
            refine mw_lald hx hb hK hP 0 ((mu_n n79).trans ((mu_n n78).trans (mu_s _ _ _))) rfl (by omega) (by omega) dX4_places_196 ?_
            refine lv_lsub hx hb dX4_places_197 ?_
            refine lv_lconst (v := 1) hx hb dX4_places_198 (by decide) ?_
            refine lv_ladd hx hb dX4_places_199 ?_
            refine lv_l2i (v := (((a8 i1) - (a7 i1)) + 1).toInt32) hx hb dX4_places_200 rfl ?_
            refine lv_topi (fun v201 ev201 => ?_)
            refine lv_istore (lv' := [(8, .int v201), (0, .ref md), (1, .int (nI n0)), (2, .long mn), (4, .int ct), (5, .int (nI k1)), (6, .int lf), (7, .int (nI i1))]) hx hb dX4_places_201 hl (by decide) rfl (fun ls hl => ?_)
            refine lv_aload_n hx hb dX4_places_203 rfl (lv_at hl 1 rfl) ?_
            refine mw_get (C := RX4) (T := TX4) (N := 13) hx hb hts in_X4_places_X4 hown hK hP ((mu_n ne0_5).trans ((mu_n ne0_4).trans ((mu_n ne0_3).trans (mu_s _ _ _)))) rfl 12 (by decide) (hts (.fieldLink RX4 42 "OctagonDeskModel" "value" "[J") (by decide +kernel)) (fun _ h9 => h9) rfl dX4_places_204 ?_
            refine lv_iload hx hb dX4_places_207 (lv_at hl 7 rfl) ?_
            refine lv_aload_n hx hb dX4_places_209 rfl (lv_at hl 1 rfl) ?_
            refine mw_get (C := RX4) (T := TX4) (N := 13) hx hb hts in_X4_places_X4 hown hK hP ((mu_n ne0_5).trans ((mu_n ne0_4).trans ((mu_n ne0_3).trans (mu_s _ _ _)))) rfl 10 (by decide) (hts (.fieldLink RX4 36 "OctagonDeskModel" "low" "[J") (by decide +kernel)) (fun _ h9 => h9) rfl dX4_places_210 ?_
            refine lv_iload hx hb dX4_places_213 (lv_at hl 7 rfl) ?_
            refine mw_lald hx hb hK hP 0 ((mu_n n79).trans ((mu_n n78).trans (mu_s _ _ _))) rfl (by omega) (by omega) dX4_places_215 ?_
            refine lv_iload hx hb dX4_places_216 (lv_at hl 6 rfl) ?_
            refine lv_iload hx hb dX4_places_218 (lv_at hl 0 rfl) ?_
            refine lv_irem hx hb dX4_places_220 (by rw [ev201]; exact hDv.nz hle hk1 hlt (by omega)) ?_
            refine lv_i2l (v := (lf - lf / v201 * v201).toInt64) hx hb dX4_places_221 rfl ?_
            refine lv_ladd hx hb dX4_places_222 ?_
            refine lv_topl (fun v223 ev223 => ?_)
            refine mw_last hx hb hK hP hS 0 (mu_s _ _ _) rfl (by omega) (by omega) dX4_places_223 (fun H locs hP hS => ?_)
            have hP : mw G.1 vwCl B (mu (mu (mu (mu μ md (.inr (4, [.int (nI 0), .ref ab, .ref av, .int (nI st), .ref c1, .ref c2, .ref c3, .ref c4, .ref c5, .ref c6, .ref c7, .ref c8, .ref c9]))) c7 (.inl (G.2 0, 6, .inr (.inl a7)))) c8 (.inl (G.2 0, 6, .inr (.inl a8)))) c9 (.inl (G.2 0, 6, .inr (.inl (vp_updL a9 i1 v223))))) _ := mw_eq (mu_u _ _ _ _) hP
            refine lv_iload hx hb dX4_places_224 (lv_at hl 6 rfl) ?_
            refine lv_iload hx hb dX4_places_226 (lv_at hl 0 rfl) ?_
            refine lv_idiv hx hb dX4_places_228 (by rw [ev201]; exact hDv.nz hle hk1 hlt (by omega)) ?_
            refine lv_topi (fun v229 ev229 => ?_)
            refine lv_istore (lv' := [(6, .int v229), (8, .int v201), (0, .ref md), (1, .int (nI n0)), (2, .long mn), (4, .int ct), (5, .int (nI k1)), (7, .int (nI i1))]) hx hb dX4_places_229 hl (by decide) rfl (fun ls hl => ?_)
            refine lv_iinc (v := nI (i1 + 1)) (lv' := [(7, .int (nI (i1 + 1))), (6, .int v229), (8, .int v201), (0, .ref md), (1, .int (nI n0)), (2, .long mn), (4, .int ct), (5, .int (nI k1))]) hx hb dX4_places_231 hl (k := 7) rfl (nI_add _ _) (by decide) rfl (fun ls hl => ?_)
            refine lv_goto (tgt := 176) hx hb dX4_places_234 (by decide) ?_
            exact ih176 (i1 + 1) v229 (vp_updL a9 i1 v223) (by omega) (by omega) (hlt) _ _ hP hS ls (lv_sub hl [3, 4, 5, 6, 7, 1, 0] rfl)
      refine lv_iload hx hb dX4_places_161 (lv_at hl 4 rfl) ?_
      refine lv_i2l (v := (nI k1).toInt64) hx hb dX4_places_163 rfl ?_
      refine lv_lload_n hx hb dX4_places_164 rfl (lv_at hl 2 rfl) ?_
      refine nl_if_ge (tgt := 262) hx hb dX4_places_165 dX4_places_166 (by decide) (fun hc165 => ?_) (fun hc165 => ?_)
      · refine lv_iload hx hb dX4_places_262 (lv_at hl 3 rfl) ?_
        rw [hQ]
        exact W.iret (v := ct) hx hb hr (fun t99 ht99 hW99 => ⟨⟨ct, mu (mu (mu (mu μ md (.inr (4, [.int (nI 0), .ref ab, .ref av, .int (nI st), .ref c1, .ref c2, .ref c3, .ref c4, .ref c5, .ref c6, .ref c7, .ref c8, .ref c9]))) c7 (.inl (G.2 0, 6, .inr (.inl a7)))) c8 (.inl (G.2 0, 6, .inr (.inl a8)))) c9 (.inl (G.2 0, 6, .inr (.inl a9))), rfl, (⟨_, _, _, _, rfl⟩), by show mw _ _ _ _ t99.heap; rw [ht99]; exact hP⟩, hS.F ht99⟩) hS.2.2 dX4_places_264
      · refine lv_iload hx hb dX4_places_169 (lv_at hl 4 rfl) ?_
        refine lv_istore (lv' := [(6, .int (nI k1)), (0, .ref md), (1, .int (nI n0)), (2, .long mn), (4, .int ct), (5, .int (nI k1))]) hx hb dX4_places_171 hl (by decide) rfl (fun ls hl => ?_)
        refine lv_iconst (v := nI 0) hx hb dX4_places_173 (by decide) ?_
        refine lv_istore (lv' := [(7, .int (nI 0)), (6, .int (nI k1)), (0, .ref md), (1, .int (nI n0)), (2, .long mn), (4, .int ct), (5, .int (nI k1))]) hx hb dX4_places_174 hl (by decide) rfl (fun ls hl => ?_)
        exact L176 _ 0 (nI k1) a9 (Nat.lt_succ_self _) (by omega) (by first | exact hc165 | exact Int64.not_le.mpr hc165) _ _ hP hS ls (lv_sub hl [2, 3, 4, 5, 6, 1, 0] rfl)
  have L37 : ∀ (N37 : Nat) (i1 : Nat) (n0 : Nat) (mn : Int64) (a7 : Nat → Int64) (a8 : Nat → Int64) (hN37 : 6 - i1 < N37) (hi1 : i1 ≤ 6) (hn0 : n0 < 6) (hle : mn ≤ 4096) (hDv : Dv a7 a8 mn i1), ∀ (H : Heap) (locs : List Loc), mw G.1 vwCl B (mu (mu (mu (mu μ md (.inr (4, [.int (nI 0), .ref ab, .ref av, .int (nI st), .ref c1, .ref c2, .ref c3, .ref c4, .ref c5, .ref c6, .ref c7, .ref c8, .ref c9]))) c7 (.inl (G.2 0, 6, .inr (.inl a7)))) c8 (.inl (G.2 0, 6, .inr (.inl a8)))) c9 (.inl (G.2 0, 6, .inr (.inl l9)))) H → va_S (fun q => B ≤ q) s.heap H locs → ∀ ls : Array Slot, lv_has ls 9 [(0, .ref md), (1, .int (nI n0)), (2, .long mn), (4, .int (nI i1))] → W p l e rn_X4_places s m args below meth c H locs 0 0 Q (F0 m 37 ls []) := by
    intro N37
    induction N37 with
    | zero => intro i1 n0 mn a7 a8 hN37; exact absurd hN37 (Nat.not_lt_zero _)
    | succ N37 ih37 =>
      intro i1 n0 mn a7 a8 hN37 hi1 hn0 hle hDv H locs hP hS ls hl
      refine lv_iload hx hb dX4_places_37 (lv_at hl 3 rfl) ?_
      refine lv_bipush (v := nI 6) hx hb dX4_places_39 (by decide) ?_
      refine nv_icmp_ge (tgt := 155) hx hb (by omega) (by omega) dX4_places_41 (by decide) (fun hc41 => ?_) (fun hc41 => ?_)
      · refine lv_iconst (v := nI 0) hx hb dX4_places_155 (by decide) ?_
        refine lv_istore (lv' := [(4, .int (nI 0)), (0, .ref md), (1, .int (nI n0)), (2, .long mn)]) hx hb dX4_places_156 hl (by decide) rfl (fun ls hl => ?_)
        refine lv_iconst (v := nI 0) hx hb dX4_places_158 (by decide) ?_
        refine lv_istore (lv' := [(5, .int (nI 0)), (4, .int (nI 0)), (0, .ref md), (1, .int (nI n0)), (2, .long mn)]) hx hb dX4_places_159 hl (by decide) rfl (fun ls hl => ?_)
        exact L161 _ 0 (nI 0) n0 mn a7 a8 l9 (Nat.lt_succ_self _) (by omega) (by omega) (hle) (by have e6 : i1 = 6 := (by omega); subst e6; exact hDv) _ _ hP hS ls (lv_sub hl [2, 3, 4, 1, 0] rfl)
      · refine lv_aload_n hx hb dX4_places_44 rfl (lv_at hl 0 rfl) ?_
        refine lv_iload_n hx hb dX4_places_45 rfl (lv_at hl 1 rfl) ?_
        refine lv_iconst (v := nI 2) hx hb dX4_places_46 (by decide) ?_
        refine lv_iload hx hb dX4_places_47 (lv_at hl 3 rfl) ?_
        refine nv_imul hx hb dX4_places_49 ?_
        refine lv_iconst (v := nI 2) hx hb dX4_places_50 (by decide) ?_
        refine lv_iload hx hb dX4_places_51 (lv_at hl 3 rfl) ?_
        refine nv_imul hx hb dX4_places_53 ?_
        refine kc_l (va_runV (As := [.int (nI n0), .int (nI (2 * i1)), .int (nI (2 * i1))]) (rest := []) ⟨hx, hb, hml, hown, hts⟩ (c_X4_get l G B (mu (mu (mu (mu μ md (.inr (4, [.int (nI 0), .ref ab, .ref av, .int (nI st), .ref c1, .ref c2, .ref c3, .ref c4, .ref c5, .ref c6, .ref c7, .ref c8, .ref c9]))) c7 (.inl (G.2 0, 6, .inr (.inl a7)))) c8 (.inl (G.2 0, 6, .inr (.inl a8)))) c9 (.inl (G.2 0, 6, .inr (.inl l9)))) md ab av c1 c2 c3 c4 c5 c6 c7 c8 c9 0 st f v n0 (2 * i1) (2 * i1) ((mu_n ne0_5).trans ((mu_n ne0_4).trans ((mu_n ne0_3).trans (mu_s _ _ _)))) ((mu_n ((mp_ne hab hl9 (by simp)))).trans ((mu_n ((mp_ne hab hl8 (by simp)))).trans ((mu_n ((mp_ne hab hl7 (by simp)))).trans ((mu_n ((Ne.symm ne0_1))).trans (hab))))) ((mu_n ((mp_ne hav hl9 (by simp)))).trans ((mu_n ((mp_ne hav hl8 (by simp)))).trans ((mu_n ((mp_ne hav hl7 (by simp)))).trans ((mu_n ((Ne.symm ne0_2))).trans (hav))))) (by omega) (by omega) (by omega)) (cwV 3 hts gX4_places_X4_get rfl rfl rfl (by decide +kernel) ⟨Nat.le_of_ble_eq_true rfl, Nat.le_of_ble_eq_true rfl⟩) ⟨KW.blind, hP.recv hK rfl ((mu_n ne0_5).trans ((mu_n ne0_4).trans ((mu_n ne0_3).trans (mu_s _ _ _)))), fun U9 hU9 hW9 => ⟨rfl, KW.pre hBs hKK hS hP U9 hU9 hW9⟩⟩ rfl rfl hl.1 rfl (lv_room (Nat.le_of_ble_eq_true rfl)) dX4_places_54 ⟨(Nat.le_of_ble_eq_true rfl), (Nat.le_of_ble_eq_true rfl)⟩) hS (fun r54 m54 H locs hq9 hP hz9 hS => ?_)
        obtain ⟨he9, hr54⟩ := hq9
        rw [he9] at hP
        refine lv_lstore (lv' := [(5, .long r54), (0, .ref md), (1, .int (nI n0)), (2, .long mn), (4, .int (nI i1))]) hx hb dX4_places_57 hl (by decide) rfl (fun ls hl => ?_)
        refine lv_aload_n hx hb dX4_places_59 rfl (lv_at hl 1 rfl) ?_
        refine lv_iload_n hx hb dX4_places_60 rfl (lv_at hl 2 rfl) ?_
        refine lv_iconst (v := nI 2) hx hb dX4_places_61 (by decide) ?_
        refine lv_iload hx hb dX4_places_62 (lv_at hl 4 rfl) ?_
        refine nv_imul hx hb dX4_places_64 ?_
        refine lv_iconst (v := nI 1) hx hb dX4_places_65 (by decide) ?_
        refine nv_iadd hx hb dX4_places_66 ?_
        refine lv_iconst (v := nI 2) hx hb dX4_places_67 (by decide) ?_
        refine lv_iload hx hb dX4_places_68 (lv_at hl 4 rfl) ?_
        refine nv_imul hx hb dX4_places_70 ?_
        refine lv_iconst (v := nI 1) hx hb dX4_places_71 (by decide) ?_
        refine nv_iadd hx hb dX4_places_72 ?_
        refine kc_l (va_runV (As := [.int (nI n0), .int (nI ((2 * i1) + 1)), .int (nI ((2 * i1) + 1))]) (rest := []) ⟨hx, hb, hml, hown, hts⟩ (c_X4_get l G B (mu (mu (mu (mu μ md (.inr (4, [.int (nI 0), .ref ab, .ref av, .int (nI st), .ref c1, .ref c2, .ref c3, .ref c4, .ref c5, .ref c6, .ref c7, .ref c8, .ref c9]))) c7 (.inl (G.2 0, 6, .inr (.inl a7)))) c8 (.inl (G.2 0, 6, .inr (.inl a8)))) c9 (.inl (G.2 0, 6, .inr (.inl l9)))) md ab av c1 c2 c3 c4 c5 c6 c7 c8 c9 0 st f v n0 ((2 * i1) + 1) ((2 * i1) + 1) ((mu_n ne0_5).trans ((mu_n ne0_4).trans ((mu_n ne0_3).trans (mu_s _ _ _)))) ((mu_n ((mp_ne hab hl9 (by simp)))).trans ((mu_n ((mp_ne hab hl8 (by simp)))).trans ((mu_n ((mp_ne hab hl7 (by simp)))).trans ((mu_n ((Ne.symm ne0_1))).trans (hab))))) ((mu_n ((mp_ne hav hl9 (by simp)))).trans ((mu_n ((mp_ne hav hl8 (by simp)))).trans ((mu_n ((mp_ne hav hl7 (by simp)))).trans ((mu_n ((Ne.symm ne0_2))).trans (hav))))) (by omega) (by omega) (by omega)) (cwV 3 hts gX4_places_X4_get rfl rfl rfl (by decide +kernel) ⟨Nat.le_of_ble_eq_true rfl, Nat.le_of_ble_eq_true rfl⟩) ⟨KW.blind, hP.recv hK rfl ((mu_n ne0_5).trans ((mu_n ne0_4).trans ((mu_n ne0_3).trans (mu_s _ _ _)))), fun U9 hU9 hW9 => ⟨rfl, KW.pre hBs hKK hS hP U9 hU9 hW9⟩⟩ rfl rfl hl.1 rfl (lv_room (Nat.le_of_ble_eq_true rfl)) dX4_places_73 ⟨(Nat.le_of_ble_eq_true rfl), (Nat.le_of_ble_eq_true rfl)⟩) hS (fun r73 m73 H locs hq9 hP hz9 hS => ?_)
        obtain ⟨he9, hr73⟩ := hq9
        rw [he9] at hP
        refine lv_lstore (lv' := [(7, .long r73), (5, .long r54), (0, .ref md), (1, .int (nI n0)), (2, .long mn), (4, .int (nI i1))]) hx hb dX4_places_76 hl (by decide) rfl (fun ls hl => ?_)
        refine lv_lload hx hb dX4_places_78 (lv_at hl 1 rfl) ?_
        refine lv_ldc2 (v := (9223372036854775807)) hx hb hown (hts (.constantLong RX4 45 (9223372036854775807)) (by decide +kernel)) dX4_places_80 ?_
        refine nl_if_eq (tgt := 108) hx hb dX4_places_83 dX4_places_84 (by decide) (fun hc83 => ?_) (fun hc83 => ?_)
        · refine lv_iconst (v := (-1)) hx hb dX4_places_108 (by decide) ?_
          rw [hQ]
          exact W.iret (v := (-1)) hx hb hr (fun t99 ht99 hW99 => ⟨⟨(-1), mu (mu (mu (mu μ md (.inr (4, [.int (nI 0), .ref ab, .ref av, .int (nI st), .ref c1, .ref c2, .ref c3, .ref c4, .ref c5, .ref c6, .ref c7, .ref c8, .ref c9]))) c7 (.inl (G.2 0, 6, .inr (.inl a7)))) c8 (.inl (G.2 0, 6, .inr (.inl a8)))) c9 (.inl (G.2 0, 6, .inr (.inl l9))), rfl, (⟨_, _, _, _, rfl⟩), by show mw _ _ _ _ t99.heap; rw [ht99]; exact hP⟩, hS.F ht99⟩) hS.2.2 dX4_places_109
        · refine lv_lload hx hb dX4_places_87 (lv_at hl 0 rfl) ?_
          refine lv_ldc2 (v := (9223372036854775807)) hx hb hown (hts (.constantLong RX4 45 (9223372036854775807)) (by decide +kernel)) dX4_places_89 ?_
          refine nl_if_eq (tgt := 108) hx hb dX4_places_92 dX4_places_93 (by decide) (fun hc92 => ?_) (fun hc92 => ?_)
          · refine lv_iconst (v := (-1)) hx hb dX4_places_108 (by decide) ?_
            rw [hQ]
            exact W.iret (v := (-1)) hx hb hr (fun t99 ht99 hW99 => ⟨⟨(-1), mu (mu (mu (mu μ md (.inr (4, [.int (nI 0), .ref ab, .ref av, .int (nI st), .ref c1, .ref c2, .ref c3, .ref c4, .ref c5, .ref c6, .ref c7, .ref c8, .ref c9]))) c7 (.inl (G.2 0, 6, .inr (.inl a7)))) c8 (.inl (G.2 0, 6, .inr (.inl a8)))) c9 (.inl (G.2 0, 6, .inr (.inl l9))), rfl, (⟨_, _, _, _, rfl⟩), by show mw _ _ _ _ t99.heap; rw [ht99]; exact hP⟩, hS.F ht99⟩) hS.2.2 dX4_places_109
          · refine lv_lload hx hb dX4_places_96 (lv_at hl 1 rfl) ?_
            refine lv_lload hx hb dX4_places_98 (lv_at hl 0 rfl) ?_
            refine lv_ladd hx hb dX4_places_100 ?_
            refine lv_ldc2 (v := (4096)) hx hb hown (hts (.constantLong RX4 131 (4096)) (by decide +kernel)) dX4_places_101 ?_
            refine nl_if_lt (tgt := 110) hx hb dX4_places_104 dX4_places_105 (by decide) (fun hc104 => ?_) (fun hc104 => ?_)
            · refine lv_aload_n hx hb dX4_places_110 rfl (lv_at hl 2 rfl) ?_
              refine mw_get (C := RX4) (T := TX4) (N := 13) hx hb hts in_X4_places_X4 hown hK hP ((mu_n ne0_5).trans ((mu_n ne0_4).trans ((mu_n ne0_3).trans (mu_s _ _ _)))) rfl 10 (by decide) (hts (.fieldLink RX4 36 "OctagonDeskModel" "low" "[J") (by decide +kernel)) (fun _ h9 => h9) rfl dX4_places_111 ?_
              refine lv_iload hx hb dX4_places_114 (lv_at hl 5 rfl) ?_
              refine lv_lload hx hb dX4_places_116 (lv_at hl 0 rfl) ?_
              refine lv_lneg hx hb dX4_places_118 ?_
              refine lv_topl (fun v119 ev119 => ?_)
              refine mw_last hx hb hK hP hS 0 ((mu_n n79).trans ((mu_n n78).trans (mu_s _ _ _))) rfl (by omega) (by omega) dX4_places_119 (fun H locs hP hS => ?_)
              have hP : mw G.1 vwCl B (mu (mu (mu (mu μ md (.inr (4, [.int (nI 0), .ref ab, .ref av, .int (nI st), .ref c1, .ref c2, .ref c3, .ref c4, .ref c5, .ref c6, .ref c7, .ref c8, .ref c9]))) c7 (.inl (G.2 0, 6, .inr (.inl (vp_updL a7 i1 v119))))) c8 (.inl (G.2 0, 6, .inr (.inl a8)))) c9 (.inl (G.2 0, 6, .inr (.inl l9)))) _ := mw_eq ((mu_c _ _ ((Ne.symm n79))).trans (congrArg (fun z => mu z c9 (.inl (G.2 0, 6, .inr (.inl l9)))) ((mu_c _ _ ((Ne.symm n78))).trans (congrArg (fun z => mu z c8 (.inl (G.2 0, 6, .inr (.inl a8)))) (mu_u _ _ _ _))))) hP
              refine lv_aload_n hx hb dX4_places_120 rfl (lv_at hl 2 rfl) ?_
              refine mw_get (C := RX4) (T := TX4) (N := 13) hx hb hts in_X4_places_X4 hown hK hP ((mu_n ne0_5).trans ((mu_n ne0_4).trans ((mu_n ne0_3).trans (mu_s _ _ _)))) rfl 11 (by decide) (hts (.fieldLink RX4 39 "OctagonDeskModel" "high" "[J") (by decide +kernel)) (fun _ h9 => h9) rfl dX4_places_121 ?_
              refine lv_iload hx hb dX4_places_124 (lv_at hl 5 rfl) ?_
              refine lv_lload hx hb dX4_places_126 (lv_at hl 1 rfl) ?_
              refine mw_last hx hb hK hP hS 0 ((mu_n n89).trans (mu_s _ _ _)) rfl (by omega) (by omega) dX4_places_128 (fun H locs hP hS => ?_)
              have hP : mw G.1 vwCl B (mu (mu (mu (mu μ md (.inr (4, [.int (nI 0), .ref ab, .ref av, .int (nI st), .ref c1, .ref c2, .ref c3, .ref c4, .ref c5, .ref c6, .ref c7, .ref c8, .ref c9]))) c7 (.inl (G.2 0, 6, .inr (.inl (vp_updL a7 i1 v119))))) c8 (.inl (G.2 0, 6, .inr (.inl (vp_updL a8 i1 r54))))) c9 (.inl (G.2 0, 6, .inr (.inl l9)))) _ := mw_eq ((mu_c _ _ ((Ne.symm n89))).trans (congrArg (fun z => mu z c9 (.inl (G.2 0, 6, .inr (.inl l9)))) (mu_u _ _ _ _))) hP
              refine lv_lload_n hx hb dX4_places_129 rfl (lv_at hl 4 rfl) ?_
              refine lv_lload hx hb dX4_places_130 (lv_at hl 1 rfl) ?_
              refine lv_lload hx hb dX4_places_132 (lv_at hl 0 rfl) ?_
              refine lv_ladd hx hb dX4_places_134 ?_
              refine lv_lconst (v := 1) hx hb dX4_places_135 (by decide) ?_
              refine lv_ladd hx hb dX4_places_136 ?_
              refine lv_lmul hx hb dX4_places_137 ?_
              refine lv_topl (fun v138 ev138 => ?_)
              refine lv_lstore_n (lv' := [(2, .long v138), (7, .long r73), (5, .long r54), (0, .ref md), (1, .int (nI n0)), (4, .int (nI i1))]) hx hb dX4_places_138 rfl hl (by decide) rfl (fun ls hl => ?_)
              refine lv_lload_n hx hb dX4_places_139 rfl (lv_at hl 0 rfl) ?_
              refine lv_ldc2 (v := (4096)) hx hb hown (hts (.constantLong RX4 131 (4096)) (by decide +kernel)) dX4_places_140 ?_
              refine nl_if_le (tgt := 149) hx hb dX4_places_143 dX4_places_144 (by decide) (fun hc143 => ?_) (fun hc143 => ?_)
              · refine lv_iinc (v := nI (i1 + 1)) (lv' := [(4, .int (nI (i1 + 1))), (2, .long v138), (7, .long r73), (5, .long r54), (0, .ref md), (1, .int (nI n0))]) hx hb dX4_places_149 hl (k := 5) rfl (nI_add _ _) (by decide) rfl (fun ls hl => ?_)
                refine lv_goto (tgt := 37) hx hb dX4_places_152 (by decide) ?_
                exact ih37 (i1 + 1) n0 v138 (vp_updL a7 i1 v119) (vp_updL a8 i1 r54) (by omega) (by omega) (by omega) (hc143) (by rw [ev119]; exact hDv.s ev138) _ _ hP hS ls (lv_sub hl [4, 5, 1, 0] rfl)
              · refine lv_iconst (v := (-1)) hx hb dX4_places_147 (by decide) ?_
                rw [hQ]
                exact W.iret (v := (-1)) hx hb hr (fun t99 ht99 hW99 => ⟨⟨(-1), mu (mu (mu (mu μ md (.inr (4, [.int (nI 0), .ref ab, .ref av, .int (nI st), .ref c1, .ref c2, .ref c3, .ref c4, .ref c5, .ref c6, .ref c7, .ref c8, .ref c9]))) c7 (.inl (G.2 0, 6, .inr (.inl (vp_updL a7 i1 v119))))) c8 (.inl (G.2 0, 6, .inr (.inl (vp_updL a8 i1 r54))))) c9 (.inl (G.2 0, 6, .inr (.inl l9))), rfl, (⟨_, _, _, _, rfl⟩), by show mw _ _ _ _ t99.heap; rw [ht99]; exact hP⟩, hS.F ht99⟩) hS.2.2 dX4_places_148
            · refine lv_iconst (v := (-1)) hx hb dX4_places_108 (by decide) ?_
              rw [hQ]
              exact W.iret (v := (-1)) hx hb hr (fun t99 ht99 hW99 => ⟨⟨(-1), mu (mu (mu (mu μ md (.inr (4, [.int (nI 0), .ref ab, .ref av, .int (nI st), .ref c1, .ref c2, .ref c3, .ref c4, .ref c5, .ref c6, .ref c7, .ref c8, .ref c9]))) c7 (.inl (G.2 0, 6, .inr (.inl a7)))) c8 (.inl (G.2 0, 6, .inr (.inl a8)))) c9 (.inl (G.2 0, 6, .inr (.inl l9))), rfl, (⟨_, _, _, _, rfl⟩), by show mw _ _ _ _ t99.heap; rw [ht99]; exact hP⟩, hS.F ht99⟩) hS.2.2 dX4_places_109
  have hl := lv_entry ([.ref md, .int x9]) (n := 9) (Nat.le_of_ble_eq_true rfl)
  have he9 : entryFrame m args 9 = entryFrame m ([.ref md, .int x9] : List Value).toArray 9 := by rw [hargs]
  rw [he9, lg_entry_eq]
  generalize (lg_sl ([.ref md, .int x9]) ++ List.replicate (9 - (lg_sl ([.ref md, .int x9])).length) Slot.unset).toArray = ls at hl ⊢
  have hl : lv_has ls 9 [(0, .ref md), (1, .int x9)] := hl
  refine lv_aload_n hx hb dX4_places_0 rfl (lv_at hl 0 rfl) ?_
  refine lv_iload_n hx hb dX4_places_1 rfl (lv_at hl 1 rfl) ?_
  refine kc_i (va_runS (As := [.int x9]) (rest := [.ref md]) ⟨hx, hb, hml, hown, hts⟩ (c_X4_isSlot l G B (mu (mu (mu (mu μ md (.inr (4, [.int (nI fl), .ref ab, .ref av, .int (nI st), .ref c1, .ref c2, .ref c3, .ref c4, .ref c5, .ref c6, .ref c7, .ref c8, .ref c9]))) c7 (.inl (G.2 0, 6, .inr (.inl l7)))) c8 (.inl (G.2 0, 6, .inr (.inl l8)))) c9 (.inl (G.2 0, 6, .inr (.inl l9)))) x9) (va_cwS 1 hts gX4_places_X4_isSlot rfl rfl rfl (by decide +kernel) ⟨Nat.le_of_ble_eq_true rfl, Nat.le_of_ble_eq_true rfl⟩) ⟨KW.blind, fun U9 hU9 hW9 => ⟨rfl, KW.pre hBs hKK hS hP U9 hU9 hW9⟩⟩ rfl rfl hl.1 rfl (lv_room (Nat.le_of_ble_eq_true rfl)) dX4_places_2 ⟨(Nat.le_of_ble_eq_true rfl), (Nat.le_of_ble_eq_true rfl)⟩) hS (fun r2 m2 H locs hq9 hP hz9 hS => ?_)
  obtain ⟨he9, hy2⟩ := hq9
  rw [he9] at hP
  refine lv_if_eq (tgt := 12) hx hb dX4_places_5 (by decide) (fun hc5 => ?_) (fun hc5 => ?_)
  · refine lv_iconst (v := nI 1) hx hb dX4_places_12 (by decide) ?_
    refine kc_i (va_runV (As := [.int (nI 1)]) (rest := []) ⟨hx, hb, hml, hown, hts⟩ (c_X4_refused l G B (mu (mu (mu (mu μ md (.inr (4, [.int (nI fl), .ref ab, .ref av, .int (nI st), .ref c1, .ref c2, .ref c3, .ref c4, .ref c5, .ref c6, .ref c7, .ref c8, .ref c9]))) c7 (.inl (G.2 0, 6, .inr (.inl l7)))) c8 (.inl (G.2 0, 6, .inr (.inl l8)))) c9 (.inl (G.2 0, 6, .inr (.inl l9)))) md ab av c1 c2 c3 c4 c5 c6 c7 c8 c9 fl st f v 1 ((mu_n ne0_5).trans ((mu_n ne0_4).trans ((mu_n ne0_3).trans (mu_s _ _ _)))) ((mu_n ((mp_ne hab hl9 (by simp)))).trans ((mu_n ((mp_ne hab hl8 (by simp)))).trans ((mu_n ((mp_ne hab hl7 (by simp)))).trans ((mu_n ((Ne.symm ne0_1))).trans (hab))))) ((mu_n ((mp_ne hav hl9 (by simp)))).trans ((mu_n ((mp_ne hav hl8 (by simp)))).trans ((mu_n ((mp_ne hav hl7 (by simp)))).trans ((mu_n ((Ne.symm ne0_2))).trans (hav))))) (by omega)) (cwV 1 hts gX4_places_X4_refused rfl rfl rfl (by decide +kernel) ⟨Nat.le_of_ble_eq_true rfl, Nat.le_of_ble_eq_true rfl⟩) ⟨KW.blind, hP.recv hK rfl ((mu_n ne0_5).trans ((mu_n ne0_4).trans ((mu_n ne0_3).trans (mu_s _ _ _)))), fun U9 hU9 hW9 => ⟨rfl, KW.pre hBs hKK hS hP U9 hU9 hW9⟩⟩ rfl rfl hl.1 rfl (lv_room (Nat.le_of_ble_eq_true rfl)) dX4_places_13 ⟨(Nat.le_of_ble_eq_true rfl), (Nat.le_of_ble_eq_true rfl)⟩) hS (fun r13 m13 H locs hq9 hP hz9 hS => ?_)
    obtain ⟨he9, hw0, hw1⟩ := hq9
    rw [he9] at hP
    have hP : mw G.1 vwCl B (mu (mu (mu (mu μ md (.inr (4, [.int (nI 1), .ref ab, .ref av, .int (nI st), .ref c1, .ref c2, .ref c3, .ref c4, .ref c5, .ref c6, .ref c7, .ref c8, .ref c9]))) c7 (.inl (G.2 0, 6, .inr (.inl l7)))) c8 (.inl (G.2 0, 6, .inr (.inl l8)))) c9 (.inl (G.2 0, 6, .inr (.inl l9)))) _ := mw_eq ((mu_c _ _ ((Ne.symm ne0_5))).trans (congrArg (fun z => mu z c9 (.inl (G.2 0, 6, .inr (.inl l9)))) ((mu_c _ _ ((Ne.symm ne0_4))).trans (congrArg (fun z => mu z c8 (.inl (G.2 0, 6, .inr (.inl l8)))) ((mu_c _ _ ((Ne.symm ne0_3))).trans (congrArg (fun z => mu z c7 (.inl (G.2 0, 6, .inr (.inl l7)))) (mu_u _ _ _ _))))))) hP
    obtain rfl : r13 = nI 1 := hw1 (by decide)
    refine lv_if_eq (tgt := 21) hx hb dX4_places_16 (by decide) (fun hc16 => ?_) (fun hc16 => ?_)
    · exact absurd hc16 (by decide)
    · refine lv_iconst (v := nI 0) hx hb dX4_places_19 (by decide) ?_
      rw [hQ]
      exact W.iret (v := nI 0) hx hb hr (fun t99 ht99 hW99 => ⟨⟨nI 0, mu (mu (mu (mu μ md (.inr (4, [.int (nI 1), .ref ab, .ref av, .int (nI st), .ref c1, .ref c2, .ref c3, .ref c4, .ref c5, .ref c6, .ref c7, .ref c8, .ref c9]))) c7 (.inl (G.2 0, 6, .inr (.inl l7)))) c8 (.inl (G.2 0, 6, .inr (.inl l8)))) c9 (.inl (G.2 0, 6, .inr (.inl l9))), rfl, (⟨_, _, _, _, rfl⟩), by show mw _ _ _ _ t99.heap; rw [ht99]; exact hP⟩, hS.F ht99⟩) hS.2.2 dX4_places_20
  · refine lv_iconst (v := nI 0) hx hb dX4_places_8 (by decide) ?_
    refine lv_goto (tgt := 13) hx hb dX4_places_9 (by decide) ?_
    refine kc_i (va_runV (As := [.int (nI 0)]) (rest := []) ⟨hx, hb, hml, hown, hts⟩ (c_X4_refused l G B (mu (mu (mu (mu μ md (.inr (4, [.int (nI fl), .ref ab, .ref av, .int (nI st), .ref c1, .ref c2, .ref c3, .ref c4, .ref c5, .ref c6, .ref c7, .ref c8, .ref c9]))) c7 (.inl (G.2 0, 6, .inr (.inl l7)))) c8 (.inl (G.2 0, 6, .inr (.inl l8)))) c9 (.inl (G.2 0, 6, .inr (.inl l9)))) md ab av c1 c2 c3 c4 c5 c6 c7 c8 c9 fl st f v 0 ((mu_n ne0_5).trans ((mu_n ne0_4).trans ((mu_n ne0_3).trans (mu_s _ _ _)))) ((mu_n ((mp_ne hab hl9 (by simp)))).trans ((mu_n ((mp_ne hab hl8 (by simp)))).trans ((mu_n ((mp_ne hab hl7 (by simp)))).trans ((mu_n ((Ne.symm ne0_1))).trans (hab))))) ((mu_n ((mp_ne hav hl9 (by simp)))).trans ((mu_n ((mp_ne hav hl8 (by simp)))).trans ((mu_n ((mp_ne hav hl7 (by simp)))).trans ((mu_n ((Ne.symm ne0_2))).trans (hav))))) (by omega)) (cwV 1 hts gX4_places_X4_refused rfl rfl rfl (by decide +kernel) ⟨Nat.le_of_ble_eq_true rfl, Nat.le_of_ble_eq_true rfl⟩) ⟨KW.blind, hP.recv hK rfl ((mu_n ne0_5).trans ((mu_n ne0_4).trans ((mu_n ne0_3).trans (mu_s _ _ _)))), fun U9 hU9 hW9 => ⟨rfl, KW.pre hBs hKK hS hP U9 hU9 hW9⟩⟩ rfl rfl hl.1 rfl (lv_room (Nat.le_of_ble_eq_true rfl)) dX4_places_13 ⟨(Nat.le_of_ble_eq_true rfl), (Nat.le_of_ble_eq_true rfl)⟩) hS (fun r13 m13 H locs hq9 hP hz9 hS => ?_)
    obtain ⟨he9, hw0, hw1⟩ := hq9
    rw [he9] at hP
    have hP : mw G.1 vwCl B (mu (mu (mu (mu μ md (.inr (4, [.int (nI 0), .ref ab, .ref av, .int (nI st), .ref c1, .ref c2, .ref c3, .ref c4, .ref c5, .ref c6, .ref c7, .ref c8, .ref c9]))) c7 (.inl (G.2 0, 6, .inr (.inl l7)))) c8 (.inl (G.2 0, 6, .inr (.inl l8)))) c9 (.inl (G.2 0, 6, .inr (.inl l9)))) _ := mw_eq ((mu_c _ _ ((Ne.symm ne0_5))).trans (congrArg (fun z => mu z c9 (.inl (G.2 0, 6, .inr (.inl l9)))) ((mu_c _ _ ((Ne.symm ne0_4))).trans (congrArg (fun z => mu z c8 (.inl (G.2 0, 6, .inr (.inl l8)))) ((mu_c _ _ ((Ne.symm ne0_3))).trans (congrArg (fun z => mu z c7 (.inl (G.2 0, 6, .inr (.inl l7)))) (mu_u _ _ _ _))))))) hP
    obtain rfl : r13 = nI 0 := hw0 rfl
    refine lv_if_eq (tgt := 21) hx hb dX4_places_16 (by decide) (fun hc16 => ?_) (fun hc16 => ?_)
    · have hok : okS x9 := yn_t hy2 hc5
      obtain ⟨nx9, hnx9, enx9⟩ := ok_nat (n := 6) (by decide) hok
      subst enx9
      refine lv_aload_n hx hb dX4_places_21 rfl (lv_at hl 0 rfl) ?_
      refine mw_get (C := RX4) (T := TX4) (N := 13) hx hb hts in_X4_places_X4 hown hK hP ((mu_n ne0_5).trans ((mu_n ne0_4).trans ((mu_n ne0_3).trans (mu_s _ _ _)))) rfl 2 (by decide) (hts (.fieldLink RX4 13 "OctagonDeskModel" "isVoid" "[Z") (by decide +kernel)) (fun _ h9 => h9) rfl dX4_places_22 ?_
      refine lv_iload_n hx hb dX4_places_25 rfl (lv_at hl 1 rfl) ?_
      refine mw_zald hx hb hK hP 2 ((mu_n ((mp_ne hav hl9 (by simp)))).trans ((mu_n ((mp_ne hav hl8 (by simp)))).trans ((mu_n ((mp_ne hav hl7 (by simp)))).trans ((mu_n ((Ne.symm ne0_2))).trans (hav))))) rfl (by omega) (by omega) dX4_places_26 ?_
      refine lv_if_eq (tgt := 32) hx hb dX4_places_27 (by decide) (fun hc27 => ?_) (fun hc27 => ?_)
      · refine lv_lconst (v := 1) hx hb dX4_places_32 (by decide) ?_
        refine lv_lstore_n (lv' := [(2, .long 1), (0, .ref md), (1, .int (nI nx9))]) hx hb dX4_places_33 rfl hl (by decide) rfl (fun ls hl => ?_)
        refine lv_iconst (v := nI 0) hx hb dX4_places_34 (by decide) ?_
        refine lv_istore (lv' := [(4, .int (nI 0)), (2, .long 1), (0, .ref md), (1, .int (nI nx9))]) hx hb dX4_places_35 hl (by decide) rfl (fun ls hl => ?_)
        exact L37 _ 0 nx9 1 l7 l8 (Nat.lt_succ_self _) (by omega) (by omega) (by decide) (fun j h9 => absurd h9 (by omega)) _ _ hP hS ls (lv_sub hl [2, 3, 1, 0] rfl)
      · refine lv_iconst (v := nI 0) hx hb dX4_places_30 (by decide) ?_
        rw [hQ]
        exact W.iret (v := nI 0) hx hb hr (fun t99 ht99 hW99 => ⟨⟨nI 0, mu (mu (mu (mu μ md (.inr (4, [.int (nI 0), .ref ab, .ref av, .int (nI st), .ref c1, .ref c2, .ref c3, .ref c4, .ref c5, .ref c6, .ref c7, .ref c8, .ref c9]))) c7 (.inl (G.2 0, 6, .inr (.inl l7)))) c8 (.inl (G.2 0, 6, .inr (.inl l8)))) c9 (.inl (G.2 0, 6, .inr (.inl l9))), rfl, (⟨_, _, _, _, rfl⟩), by show mw _ _ _ _ t99.heap; rw [ht99]; exact hP⟩, hS.F ht99⟩) hS.2.2 dX4_places_31
    · exact absurd rfl hc16
