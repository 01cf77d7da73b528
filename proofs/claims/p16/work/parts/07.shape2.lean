abbrev rm_X1_scatter : Room := { frames := 3, cells := 0, slots := 0, locals := 73 }
set_option maxHeartbeats 4000000 in
set_option maxRecDepth 100000 in
theorem c_X1_scatter (l : Launch) (G : GG) (B : Nat) (μ : mp) (h hn la k b : Nat) (f : Nat → Int64) (i : Nat) (l9 u9 : Int64) (hh : μ h = some (.inr (1, [.ref hn, .int (nI b)]))) (hhn : μ hn = some (.inr (0, [.int (nI 158), .int (nI 157), .ref la, .int (nI (158 * k))]))) (ha : μ la = some (.inl (G.2 0, 158 * k + 158, .inr (.inl f)))) (hk : k ≤ 1022) (hb1 : b ≤ 1) (hi : i < 6) : Met l yX1_scatter wsX1_scatter rm_X1_scatter (va_Pc [.ref h, .int (nI i), .long l9, .long u9] (KW G B μ)) (va_Qv (fun μ2 => ∃ (g9 : Nat → Int64) (b9 : Nat), μ2 = mu (mu μ h (.inr (1, [.ref hn, .int (nI b9)]))) la (.inl (G.2 0, 158 * k + 158, .inr (.inl g9))) ∧ b9 ≤ 1 ∧ (k = 0 → RR (sc f i l9 u9) g9 b b9)) (BB G B) (fun q => B ≤ q)) 0 0 (fun q => B ≤ q) := by
  refine Met.ofW (cc := cX1_scatter) (maxL := 6) (ret := none) (by decide) rfl ?_
  intro p e s m args below meth c s₁ B9 hml hv
  obtain ⟨hargs, hBs, hP, hKK⟩ := hv
  have hx := B9.exec
  have hb := B9.bytes
  have hr := B9.returns
  have hts := atoms_spec (ws := wsX1_scatter) B9.pre
  have hown : s.vm.findClass RX1 = some m.cls := findClass_of_methodNamed B9.named
  have hlocks := B9.notSynchronized
  have hK := hKK.k
  have hS : va_S (fun q => B ≤ q) s.heap s.heap [] := va_S.rf
  obtain ⟨Q, hQ⟩ : ∃ Q, Q = MQ below (va_Qv (fun μ2 => ∃ (g9 : Nat → Int64) (b9 : Nat), μ2 = mu (mu μ h (.inr (1, [.ref hn, .int (nI b9)]))) la (.inl (G.2 0, 158 * k + 158, .inr (.inl g9))) ∧ b9 ≤ 1 ∧ (k = 0 → RR (sc f i l9 u9) g9 b b9)) (BB G B) (fun q => B ≤ q)) args s 0 0 (fun q => B ≤ q) := ⟨_, rfl⟩
  rw [← hQ]
  have ne0_1 : h ≠ hn := mp_ne hh hhn (by simp)
  have ne0_2 : h ≠ la := mp_ne hh ha (by simp)
  have ne1_2 : hn ≠ la := mp_ne hhn ha (by simp)
  have in_X1_scatter_X1 : ∀ w ∈ wsX10, w ∈ wsX1_scatter := by decide +kernel
  have hP : mw G.1 vwCl B (mu (mu μ h (.inr (1, [.ref hn, .int (nI b)]))) la (.inl (G.2 0, 158 * k + 158, .inr (.inl f)))) s.heap := mw_eq ((congrArg (fun z => mu z la (.inl (G.2 0, 158 * k + 158, .inr (.inl f)))) (mu_i hh)).trans (mu_i ha)).symm hP
  have hl := lv_entry ([.ref h, .int (nI i), .long l9, .long u9]) (n := 6) (Nat.le_of_ble_eq_true rfl)
  have he9 : entryFrame m args 6 = entryFrame m ([.ref h, .int (nI i), .long l9, .long u9] : List Value).toArray 6 := by rw [hargs]
  rw [he9, lg_entry_eq]
  generalize (lg_sl ([.ref h, .int (nI i), .long l9, .long u9]) ++ List.replicate (6 - (lg_sl ([.ref h, .int (nI i), .long l9, .long u9])).length) Slot.unset).toArray = ls at hl ⊢
  have hl : lv_has ls 6 [(0, .ref h), (1, .int (nI i)), (2, .long l9), (4, .long u9)] := hl
  refine lv_aload_n hx hb dX1_scatter_0 rfl (lv_at hl 0 rfl) ?_
  refine lv_iload_n hx hb dX1_scatter_1 rfl (lv_at hl 1 rfl) ?_
  refine kc_v (va_runV (As := [.int (nI i)]) (rest := []) ⟨hx, hb, hml, hown, hts⟩ (c_X1_release l G B (mu (mu μ h (.inr (1, [.ref hn, .int (nI b)]))) la (.inl (G.2 0, 158 * k + 158, .inr (.inl f)))) h hn la k b f i ((mu_n ne0_2).trans (mu_s _ _ _)) ((mu_n ne1_2).trans ((mu_n ((Ne.symm ne0_1))).trans (hhn))) (mu_s _ _ _) (by omega) (by omega)) (cwV 1 hts gX1_scatter_X1_release rfl rfl rfl (by decide +kernel) ⟨Nat.le_of_ble_eq_true rfl, Nat.le_of_ble_eq_true rfl⟩) ⟨KW.blind, hP.recv hK rfl ((mu_n ne0_2).trans (mu_s _ _ _)), fun U9 hU9 hW9 => ⟨rfl, KW.pre hBs hKK hS hP U9 hU9 hW9⟩⟩ rfl rfl hl.1 rfl (lv_room (Nat.le_of_ble_eq_true rfl)) dX1_scatter_2 ⟨Nat.le_of_ble_eq_true rfl, Nat.le_of_ble_eq_true rfl⟩) hS (fun m2 H locs hq9 hP hz9 hS => ?_)
  obtain ⟨g2, rfl, hg2⟩ := hq9
  have hP : mw G.1 vwCl B (mu (mu μ h (.inr (1, [.ref hn, .int (nI b)]))) la (.inl (G.2 0, 158 * k + 158, .inr (.inl g2)))) _ := mw_eq (mu_u _ _ _ _) hP
  refine lv_aload_n hx hb dX1_scatter_5 rfl (lv_at hl 0 rfl) ?_
  refine mw_get (C := RX1) (T := TX1) (N := 2) hx hb hts in_X1_scatter_X1 hown hK hP ((mu_n ne0_2).trans (mu_s _ _ _)) rfl 0 (by decide) (hts (.fieldLink RX1 16 "OctagonDesk$Shape" "numbers" "LOctagonDesk$Numbers;") (by decide +kernel)) (fun _ h9 => h9) rfl dX1_scatter_6 ?_
  refine lv_iconst (v := nI 2) hx hb dX1_scatter_9 (by decide) ?_
  refine lv_iload_n hx hb dX1_scatter_10 rfl (lv_at hl 1 rfl) ?_
  refine nv_imul hx hb dX1_scatter_11 ?_
  refine lv_iconst (v := nI 2) hx hb dX1_scatter_12 (by decide) ?_
  refine lv_iload_n hx hb dX1_scatter_13 rfl (lv_at hl 1 rfl) ?_
  refine nv_imul hx hb dX1_scatter_14 ?_
  refine kc_i (va_runS (As := [.int (nI (2 * i)), .int (nI (2 * i))]) (rest := [.ref hn]) ⟨hx, hb, hml, hown, hts⟩ (c_X1_cell l G B (mu (mu μ h (.inr (1, [.ref hn, .int (nI b)]))) la (.inl (G.2 0, 158 * k + 158, .inr (.inl g2)))) (2 * i) (2 * i)) (va_cwS 2 hts gX1_scatter_X1_cell rfl rfl rfl (by decide +kernel) ⟨Nat.le_of_ble_eq_true rfl, Nat.le_of_ble_eq_true rfl⟩) ⟨KW.blind, fun U9 hU9 hW9 => ⟨rfl, KW.pre hBs hKK hS hP U9 hU9 hW9⟩⟩ rfl rfl hl.1 rfl (lv_room (Nat.le_of_ble_eq_true rfl)) dX1_scatter_15 ⟨Nat.le_of_ble_eq_true rfl, Nat.le_of_ble_eq_true rfl⟩) hS (fun r15 m15 H locs hq9 hP hz9 hS => ?_)
  obtain ⟨he9, rfl⟩ := hq9
  rw [he9] at hP
  refine lv_ldc2 (v := (2)) hx hb hown (hts (.constantLong RX1 86 (2)) (by decide +kernel)) dX1_scatter_18 ?_
  refine lv_lload hx hb dX1_scatter_21 (lv_at hl 3 rfl) ?_
  refine lv_lmul hx hb dX1_scatter_23 ?_
  refine kc_v (va_runV (As := [.int (nI ((2 * i) * 12 + (2 * i))), .long (2 * u9)]) (rest := []) ⟨hx, hb, hml, hown, hts⟩ (c_X0_set l G B (mu (mu μ h (.inr (1, [.ref hn, .int (nI b)]))) la (.inl (G.2 0, 158 * k + 158, .inr (.inl g2)))) hn la k g2 ((2 * i) * 12 + (2 * i)) (2 * u9) ((mu_n ne1_2).trans ((mu_n ((Ne.symm ne0_1))).trans (hhn))) (mu_s _ _ _) (by omega) (by omega)) (cwV 2 hts gX1_scatter_X0_set rfl rfl rfl (by decide +kernel) ⟨Nat.le_of_ble_eq_true rfl, Nat.le_of_ble_eq_true rfl⟩) ⟨KW.blind, hP.recv hK rfl ((mu_n ne1_2).trans ((mu_n ((Ne.symm ne0_1))).trans (hhn))), fun U9 hU9 hW9 => ⟨rfl, KW.pre hBs hKK hS hP U9 hU9 hW9⟩⟩ rfl rfl hl.1 rfl (lv_room (Nat.le_of_ble_eq_true rfl)) dX1_scatter_24 ⟨Nat.le_of_ble_eq_true rfl, Nat.le_of_ble_eq_true rfl⟩) hS (fun m24 H locs hq9 hP hz9 hS => ?_)
  obtain ⟨g24, rfl, hg24⟩ := hq9
  have hP : mw G.1 vwCl B (mu (mu μ h (.inr (1, [.ref hn, .int (nI b)]))) la (.inl (G.2 0, 158 * k + 158, .inr (.inl g24)))) _ := mw_eq (mu_u _ _ _ _) hP
  refine lv_aload_n hx hb dX1_scatter_27 rfl (lv_at hl 0 rfl) ?_
  refine mw_get (C := RX1) (T := TX1) (N := 2) hx hb hts in_X1_scatter_X1 hown hK hP ((mu_n ne0_2).trans (mu_s _ _ _)) rfl 0 (by decide) (hts (.fieldLink RX1 16 "OctagonDesk$Shape" "numbers" "LOctagonDesk$Numbers;") (by decide +kernel)) (fun _ h9 => h9) rfl dX1_scatter_28 ?_
  refine lv_iconst (v := nI 2) hx hb dX1_scatter_31 (by decide) ?_
  refine lv_iload_n hx hb dX1_scatter_32 rfl (lv_at hl 1 rfl) ?_
  refine nv_imul hx hb dX1_scatter_33 ?_
  refine lv_iconst (v := nI 1) hx hb dX1_scatter_34 (by decide) ?_
  refine nv_iadd hx hb dX1_scatter_35 ?_
  refine lv_iconst (v := nI 2) hx hb dX1_scatter_36 (by decide) ?_
  refine lv_iload_n hx hb dX1_scatter_37 rfl (lv_at hl 1 rfl) ?_
  refine nv_imul hx hb dX1_scatter_38 ?_
  refine lv_iconst (v := nI 1) hx hb dX1_scatter_39 (by decide) ?_
  refine nv_iadd hx hb dX1_scatter_40 ?_
  refine kc_i (va_runS (As := [.int (nI ((2 * i) + 1)), .int (nI ((2 * i) + 1))]) (rest := [.ref hn]) ⟨hx, hb, hml, hown, hts⟩ (c_X1_cell l G B (mu (mu μ h (.inr (1, [.ref hn, .int (nI b)]))) la (.inl (G.2 0, 158 * k + 158, .inr (.inl g24)))) ((2 * i) + 1) ((2 * i) + 1)) (va_cwS 2 hts gX1_scatter_X1_cell rfl rfl rfl (by decide +kernel) ⟨Nat.le_of_ble_eq_true rfl, Nat.le_of_ble_eq_true rfl⟩) ⟨KW.blind, fun U9 hU9 hW9 => ⟨rfl, KW.pre hBs hKK hS hP U9 hU9 hW9⟩⟩ rfl rfl hl.1 rfl (lv_room (Nat.le_of_ble_eq_true rfl)) dX1_scatter_41 ⟨Nat.le_of_ble_eq_true rfl, Nat.le_of_ble_eq_true rfl⟩) hS (fun r41 m41 H locs hq9 hP hz9 hS => ?_)
  obtain ⟨he9, rfl⟩ := hq9
  rw [he9] at hP
  refine lv_ldc2 (v := (-2)) hx hb hown (hts (.constantLong RX1 88 (-2)) (by decide +kernel)) dX1_scatter_44 ?_
  refine lv_lload_n hx hb dX1_scatter_47 rfl (lv_at hl 2 rfl) ?_
  refine lv_lmul hx hb dX1_scatter_48 ?_
  refine kc_v (va_runV (As := [.int (nI (((2 * i) + 1) * 12 + ((2 * i) + 1))), .long (((-2)) * l9)]) (rest := []) ⟨hx, hb, hml, hown, hts⟩ (c_X0_set l G B (mu (mu μ h (.inr (1, [.ref hn, .int (nI b)]))) la (.inl (G.2 0, 158 * k + 158, .inr (.inl g24)))) hn la k g24 (((2 * i) + 1) * 12 + ((2 * i) + 1)) (((-2)) * l9) ((mu_n ne1_2).trans ((mu_n ((Ne.symm ne0_1))).trans (hhn))) (mu_s _ _ _) (by omega) (by omega)) (cwV 2 hts gX1_scatter_X0_set rfl rfl rfl (by decide +kernel) ⟨Nat.le_of_ble_eq_true rfl, Nat.le_of_ble_eq_true rfl⟩) ⟨KW.blind, hP.recv hK rfl ((mu_n ne1_2).trans ((mu_n ((Ne.symm ne0_1))).trans (hhn))), fun U9 hU9 hW9 => ⟨rfl, KW.pre hBs hKK hS hP U9 hU9 hW9⟩⟩ rfl rfl hl.1 rfl (lv_room (Nat.le_of_ble_eq_true rfl)) dX1_scatter_49 ⟨Nat.le_of_ble_eq_true rfl, Nat.le_of_ble_eq_true rfl⟩) hS (fun m49 H locs hq9 hP hz9 hS => ?_)
  obtain ⟨g49, rfl, hg49⟩ := hq9
  have hP : mw G.1 vwCl B (mu (mu μ h (.inr (1, [.ref hn, .int (nI b)]))) la (.inl (G.2 0, 158 * k + 158, .inr (.inl g49)))) _ := mw_eq (mu_u _ _ _ _) hP
  refine lv_aload_n hx hb dX1_scatter_52 rfl (lv_at hl 0 rfl) ?_
  refine kc_v (va_runV (As := []) (rest := []) ⟨hx, hb, hml, hown, hts⟩ (c_X1_combineSingles l G B (mu (mu μ h (.inr (1, [.ref hn, .int (nI b)]))) la (.inl (G.2 0, 158 * k + 158, .inr (.inl g49)))) h hn la k b g49  ((mu_n ne0_2).trans (mu_s _ _ _)) ((mu_n ne1_2).trans ((mu_n ((Ne.symm ne0_1))).trans (hhn))) (mu_s _ _ _) (by omega) (by omega)) (cwV 0 hts gX1_scatter_X1_combineSingles rfl rfl rfl (by decide +kernel) ⟨Nat.le_of_ble_eq_true rfl, Nat.le_of_ble_eq_true rfl⟩) ⟨KW.blind, hP.recv hK rfl ((mu_n ne0_2).trans (mu_s _ _ _)), fun U9 hU9 hW9 => ⟨rfl, KW.pre hBs hKK hS hP U9 hU9 hW9⟩⟩ rfl rfl hl.1 rfl (lv_room (Nat.le_of_ble_eq_true rfl)) dX1_scatter_53 ⟨Nat.le_of_ble_eq_true rfl, Nat.le_of_ble_eq_true rfl⟩) hS (fun m53 H locs hq9 hP hz9 hS => ?_)
  obtain ⟨g53, b53, rfl, hb53, hg53⟩ := hq9
  have hP : mw G.1 vwCl B (mu (mu μ h (.inr (1, [.ref hn, .int (nI b53)]))) la (.inl (G.2 0, 158 * k + 158, .inr (.inl g53)))) _ := mw_eq ((congrArg (fun z => mu z la (.inl (G.2 0, 158 * k + 158, .inr (.inl g53)))) ((mu_c _ _ ((Ne.symm ne0_2))).trans (congrArg (fun z => mu z la (.inl (G.2 0, 158 * k + 158, .inr (.inl g49)))) (mu_u _ _ _ _)))).trans (mu_u _ _ _ _)) hP
  rw [hQ]
  exact W.vret hx hb hr (fun t99 ht99 hW99 => ⟨⟨mu (mu μ h (.inr (1, [.ref hn, .int (nI b53)]))) la (.inl (G.2 0, 158 * k + 158, .inr (.inl g53))), rfl, (⟨_, _, rfl, hb53, fun h0 => by have e := sc_e (l9 := l9) (u9 := u9) (hg2 h0).1; refine RR.pre e ?_; have e2 := (hg53 h0).1; rw [hg49 h0, hg24 h0] at e2; exact e2⟩), by show mw _ _ _ _ t99.heap; rw [ht99]; exact hP⟩, hS.F ht99⟩) hS.2.2 dX1_scatter_56

abbrev rm_X1_oldTerm : Room := { frames := 1, cells := 0, slots := 0, locals := 20 }
set_option maxHeartbeats 4000000 in
set_option maxRecDepth 100000 in
theorem c_X1_oldTerm (l : Launch) (G : GG) (B : Nat) (μ : mp) (p9 v9 t9 : Nat) (hp9 : p9 < 12) (hv9 : v9 < 6) (ht9a : t9 < 12) : Met l yX1_oldTerm wsX1_oldTerm rm_X1_oldTerm (va_Pc [.int (nI p9), .int (nI v9), .int (nI t9)] (KW G B μ)) (va_Qi (fun r μ2 => μ2 = μ ∧ ∃ o9 : Nat, o9 < 12 ∧ r = nI o9) (BB G B) (fun q => B ≤ q)) 0 0 (fun q => B ≤ q) := by
  refine Met.ofW (cc := cX1_oldTerm) (maxL := 3) (ret := (some .int)) (by decide) rfl ?_
  intro p e s m args below meth c s₁ B9 hml hv
  obtain ⟨hargs, hBs, hP, hKK⟩ := hv
  have hx := B9.exec
  have hb := B9.bytes
  have hr := B9.returns
  have hts := atoms_spec (ws := wsX1_oldTerm) B9.pre
  have hown : s.vm.findClass RX1 = some m.cls := findClass_of_methodNamed B9.named
  have hlocks := B9.notSynchronized
  have hK := hKK.k
  have hS : va_S (fun q => B ≤ q) s.heap s.heap [] := va_S.rf
  obtain ⟨Q, hQ⟩ : ∃ Q, Q = MQ below (va_Qi (fun r μ2 => μ2 = μ ∧ ∃ o9 : Nat, o9 < 12 ∧ r = nI o9) (BB G B) (fun q => B ≤ q)) args s 0 0 (fun q => B ≤ q) := ⟨_, rfl⟩
  rw [← hQ]
  have hl := lv_entry ([.int (nI p9), .int (nI v9), .int (nI t9)]) (n := 3) (Nat.le_of_ble_eq_true rfl)
  have he9 : entryFrame m args 3 = entryFrame m ([.int (nI p9), .int (nI v9), .int (nI t9)] : List Value).toArray 3 := by rw [hargs]
  rw [he9, lg_entry_eq]
  generalize (lg_sl ([.int (nI p9), .int (nI v9), .int (nI t9)]) ++ List.replicate (3 - (lg_sl ([.int (nI p9), .int (nI v9), .int (nI t9)])).length) Slot.unset).toArray = ls at hl ⊢
  have hl : lv_has ls 3 [(0, .int (nI p9)), (1, .int (nI v9)), (2, .int (nI t9))] := hl
  refine lv_iload_n hx hb dX1_oldTerm_0 rfl (lv_at hl 0 rfl) ?_
  refine lv_iconst (v := nI 2) hx hb dX1_oldTerm_1 (by decide) ?_
  refine nv_idiv hx hb (by omega) (by decide) (by decide) dX1_oldTerm_2 ?_
  refine lv_iload_n hx hb dX1_oldTerm_3 rfl (lv_at hl 1 rfl) ?_
  refine nv_icmp_eq (tgt := 9) hx hb (by omega) (by omega) dX1_oldTerm_4 (by decide) (fun hc4 => ?_) (fun hc4 => ?_)
  · refine lv_iload_n hx hb dX1_oldTerm_9 rfl (lv_at hl 0 rfl) ?_
    refine lv_iconst (v := nI 2) hx hb dX1_oldTerm_10 (by decide) ?_
    refine nv_irem hx hb (by omega) (by decide) (by decide) dX1_oldTerm_11 ?_
    refine lv_if_ne (tgt := 19) hx hb dX1_oldTerm_12 (by decide) (fun hc12 => ?_) (fun hc12 => ?_)
    · refine lv_iload_n hx hb dX1_oldTerm_19 rfl (lv_at hl 2 rfl) ?_
      refine kc_i (va_runSN (As := [.int (nI t9)]) (rest := []) ⟨hx, hb, hml, hown, hts⟩ (c_X3_negation l G B (μ) t9 (by omega)) ⟨va_cnB 1 hts gX1_oldTerm_X3_negation_n82 rfl rfl rfl hKK.2.1.1 (hts (.initialized RX3) (by decide +kernel)) (by decide +kernel) ⟨Nat.le_of_ble_eq_true rfl, Nat.le_of_ble_eq_true rfl⟩, hts (.static yX3_negation) (by decide +kernel), trivial⟩ ⟨KW.blind, fun U9 hU9 hW9 => ⟨rfl, KW.pre hBs hKK hS hP U9 hU9 hW9⟩⟩ rfl rfl hl.1 rfl (lv_room (Nat.le_of_ble_eq_true rfl)) dX1_oldTerm_20 ⟨Nat.le_of_ble_eq_true rfl, Nat.le_of_ble_eq_true rfl⟩) hS (fun r20 m20 H locs hq9 hP hz9 hS => ?_)
      obtain ⟨he9, rfl⟩ := hq9
      rw [he9] at hP
      have hne20 := ne_lt (p := t9) (by omega)
      rw [hQ]
      exact W.iret (v := nI (ne t9)) hx hb hr (fun t99 ht99 hW99 => ⟨⟨nI (ne t9), μ, rfl, (⟨rfl, _, by omega, rfl⟩), by show mw _ _ _ _ t99.heap; rw [ht99]; exact hP⟩, hS.F ht99⟩) hS.2.2 dX1_oldTerm_23
    · refine lv_iload_n hx hb dX1_oldTerm_15 rfl (lv_at hl 2 rfl) ?_
      refine lv_goto (tgt := 23) hx hb dX1_oldTerm_16 (by decide) ?_
      rw [hQ]
      exact W.iret (v := nI t9) hx hb hr (fun t99 ht99 hW99 => ⟨⟨nI t9, μ, rfl, (⟨rfl, _, by omega, rfl⟩), by show mw _ _ _ _ t99.heap; rw [ht99]; exact hP⟩, hS.F ht99⟩) hS.2.2 dX1_oldTerm_23
  · refine lv_iload_n hx hb dX1_oldTerm_7 rfl (lv_at hl 0 rfl) ?_
    rw [hQ]
    exact W.iret (v := nI p9) hx hb hr (fun t99 ht99 hW99 => ⟨⟨nI p9, μ, rfl, (⟨rfl, _, by omega, rfl⟩), by show mw _ _ _ _ t99.heap; rw [ht99]; exact hP⟩, hS.F ht99⟩) hS.2.2 dX1_oldTerm_8

abbrev rm_X1_moreOf : Room := { frames := 0, cells := 0, slots := 0, locals := 0 }
set_option maxHeartbeats 4000000 in
set_option maxRecDepth 100000 in
theorem c_X1_moreOf (l : Launch) (G : GG) (B : Nat) (μ : mp) (p9 v9 : Nat) (c9 : Int32) (hp9 : p9 < 12) (hv9 : v9 < 6) : Met l yX1_moreOf wsX1_moreOf rm_X1_moreOf (va_Pc [.int (nI p9), .int (nI v9), .int c9] (KW G B μ)) (va_Qi (fun r μ2 => μ2 = μ) (BB G B) (fun q => B ≤ q)) 0 0 (fun q => B ≤ q) := by
  refine Met.ofW (cc := cX1_moreOf) (maxL := 3) (ret := (some .int)) (by decide) rfl ?_
  intro p e s m args below meth c s₁ B9 hml hv
  obtain ⟨hargs, hBs, hP, hKK⟩ := hv
  have hx := B9.exec
  have hb := B9.bytes
  have hr := B9.returns
  have hts := atoms_spec (ws := wsX1_moreOf) B9.pre
  have hown : s.vm.findClass RX1 = some m.cls := findClass_of_methodNamed B9.named
  have hlocks := B9.notSynchronized
  have hK := hKK.k
  have hS : va_S (fun q => B ≤ q) s.heap s.heap [] := va_S.rf
  obtain ⟨Q, hQ⟩ : ∃ Q, Q = MQ below (va_Qi (fun r μ2 => μ2 = μ) (BB G B) (fun q => B ≤ q)) args s 0 0 (fun q => B ≤ q) := ⟨_, rfl⟩
  rw [← hQ]
  have hl := lv_entry ([.int (nI p9), .int (nI v9), .int c9]) (n := 3) (Nat.le_of_ble_eq_true rfl)
  have he9 : entryFrame m args 3 = entryFrame m ([.int (nI p9), .int (nI v9), .int c9] : List Value).toArray 3 := by rw [hargs]
  rw [he9, lg_entry_eq]
  generalize (lg_sl ([.int (nI p9), .int (nI v9), .int c9]) ++ List.replicate (3 - (lg_sl ([.int (nI p9), .int (nI v9), .int c9])).length) Slot.unset).toArray = ls at hl ⊢
  have hl : lv_has ls 3 [(0, .int (nI p9)), (1, .int (nI v9)), (2, .int c9)] := hl
  refine lv_iload_n hx hb dX1_moreOf_0 rfl (lv_at hl 0 rfl) ?_
  refine lv_iconst (v := nI 2) hx hb dX1_moreOf_1 (by decide) ?_
  refine nv_idiv hx hb (by omega) (by decide) (by decide) dX1_moreOf_2 ?_
  refine lv_iload_n hx hb dX1_moreOf_3 rfl (lv_at hl 1 rfl) ?_
  refine nv_icmp_eq (tgt := 9) hx hb (by omega) (by omega) dX1_moreOf_4 (by decide) (fun hc4 => ?_) (fun hc4 => ?_)
  · refine lv_iload_n hx hb dX1_moreOf_9 rfl (lv_at hl 0 rfl) ?_
    refine lv_iconst (v := nI 2) hx hb dX1_moreOf_10 (by decide) ?_
    refine nv_irem hx hb (by omega) (by decide) (by decide) dX1_moreOf_11 ?_
    refine lv_if_ne (tgt := 19) hx hb dX1_moreOf_12 (by decide) (fun hc12 => ?_) (fun hc12 => ?_)
    · refine lv_iload_n hx hb dX1_moreOf_19 rfl (lv_at hl 2 rfl) ?_
      refine lv_ineg hx hb dX1_moreOf_20 ?_
      rw [hQ]
      exact W.iret (v := -c9) hx hb hr (fun t99 ht99 hW99 => ⟨⟨-c9, μ, rfl, (rfl), by show mw _ _ _ _ t99.heap; rw [ht99]; exact hP⟩, hS.F ht99⟩) hS.2.2 dX1_moreOf_21
    · refine lv_iload_n hx hb dX1_moreOf_15 rfl (lv_at hl 2 rfl) ?_
      refine lv_goto (tgt := 21) hx hb dX1_moreOf_16 (by decide) ?_
      rw [hQ]
      exact W.iret (v := c9) hx hb hr (fun t99 ht99 hW99 => ⟨⟨c9, μ, rfl, (rfl), by show mw _ _ _ _ t99.heap; rw [ht99]; exact hP⟩, hS.F ht99⟩) hS.2.2 dX1_moreOf_21
  · refine lv_iconst (v := nI 0) hx hb dX1_moreOf_7 (by decide) ?_
    rw [hQ]
    exact W.iret (v := nI 0) hx hb hr (fun t99 ht99 hW99 => ⟨⟨nI 0, μ, rfl, (rfl), by show mw _ _ _ _ t99.heap; rw [ht99]; exact hP⟩, hS.F ht99⟩) hS.2.2 dX1_moreOf_8

abbrev rm_X1_tell : Room := { frames := 2, cells := 0, slots := 0, locals := 50 }
set_option maxHeartbeats 4000000 in
set_option maxRecDepth 100000 in
theorem c_X1_tell (l : Launch) (G : GG) (B : Nat) (μ : mp) (h hn la k b : Nat) (f : Nat → Int64) (h2 hn2 la2 b2 : Nat) (g : Nat → Int64) (v9 t9 : Nat) (c9 : Int32) (hh : μ h = some (.inr (1, [.ref hn, .int (nI b)]))) (hhn : μ hn = some (.inr (0, [.int (nI 158), .int (nI 157), .ref la, .int (nI (158 * k))]))) (ha : μ la = some (.inl (G.2 0, 158 * k + 158, .inr (.inl f)))) (hh2 : μ h2 = some (.inr (1, [.ref hn2, .int (nI b2)]))) (hhn2 : μ hn2 = some (.inr (0, [.int (nI 158), .int (nI 157), .ref la2, .int (nI (158 * k))]))) (ha2 : μ la2 = some (.inl (G.2 0, 158 * k + 158, .inr (.inl g)))) (hk : k ≤ 1022) (hb2 : b2 ≤ 1) (hv9 : v9 < 6) (ht9a : t9 < 12) (hne : la ≠ la2) (hne0 : h ≠ h2) : Met l yX1_tell wsX1_tell rm_X1_tell (va_Pc [.ref h, .ref h2, .int (nI v9), .int (nI t9), .int c9] (KW G B μ)) (va_Qv (fun μ2 => ∃ g9 : Nat → Int64, μ2 = mu (mu μ h (.inr (1, [.ref hn, .int (nI b2)]))) la (.inl (G.2 0, 158 * k + 158, .inr (.inl g9)))) (BB G B) (fun q => B ≤ q)) 0 0 (fun q => B ≤ q) := by
  refine Met.ofW (cc := cX1_tell) (maxL := 10) (ret := none) (by decide) rfl ?_
  intro p e s m args below meth c s₁ B9 hml hv
  obtain ⟨hargs, hBs, hP, hKK⟩ := hv
  have hx := B9.exec
  have hb := B9.bytes
  have hr := B9.returns
  have hts := atoms_spec (ws := wsX1_tell) B9.pre
  have hown : s.vm.findClass RX1 = some m.cls := findClass_of_methodNamed B9.named
  have hlocks := B9.notSynchronized
  have hK := hKK.k
  have hS : va_S (fun q => B ≤ q) s.heap s.heap [] := va_S.rf
  obtain ⟨Q, hQ⟩ : ∃ Q, Q = MQ below (va_Qv (fun μ2 => ∃ g9 : Nat → Int64, μ2 = mu (mu μ h (.inr (1, [.ref hn, .int (nI b2)]))) la (.inl (G.2 0, 158 * k + 158, .inr (.inl g9)))) (BB G B) (fun q => B ≤ q)) args s 0 0 (fun q => B ≤ q) := ⟨_, rfl⟩
  rw [← hQ]
  have ne0_1 : h ≠ hn := mp_ne hh hhn (by simp)
  have ne0_2 : h ≠ la := mp_ne hh ha (by simp)
  have ne0_4 : h ≠ hn2 := mp_ne hh hhn2 (by simp)
  have ne0_5 : h ≠ la2 := mp_ne hh ha2 (by simp)
  have ne1_2 : hn ≠ la := mp_ne hhn ha (by simp)
  have ne1_3 : hn ≠ h2 := mp_ne hhn hh2 (by simp)
  have ne1_5 : hn ≠ la2 := mp_ne hhn ha2 (by simp)
  have ne2_3 : la ≠ h2 := mp_ne ha hh2 (by simp)
  have ne2_4 : la ≠ hn2 := mp_ne ha hhn2 (by simp)
  have ne3_4 : h2 ≠ hn2 := mp_ne hh2 hhn2 (by simp)
  have ne3_5 : h2 ≠ la2 := mp_ne hh2 ha2 (by simp)
  have ne4_5 : hn2 ≠ la2 := mp_ne hhn2 ha2 (by simp)
  have in_X1_tell_X1 : ∀ w ∈ wsX10, w ∈ wsX1_tell := by decide +kernel
  have hP : mw G.1 vwCl B (mu (mu μ h (.inr (1, [.ref hn, .int (nI b)]))) la (.inl (G.2 0, 158 * k + 158, .inr (.inl f)))) s.heap := mw_eq ((congrArg (fun z => mu z la (.inl (G.2 0, 158 * k + 158, .inr (.inl f)))) (mu_i hh)).trans (mu_i ha)).symm hP
  have L11 : ∀ (N11 : Nat) (p1 : Nat) (g1 : Nat → Int64) (hN11 : 12 - p1 < N11) (hp : p1 ≤ 12), ∀ (H : Heap) (locs : List Loc), mw G.1 vwCl B (mu (mu μ h (.inr (1, [.ref hn, .int (nI b2)]))) la (.inl (G.2 0, 158 * k + 158, .inr (.inl g1)))) H → va_S (fun q => B ≤ q) s.heap H locs → ∀ ls : Array Slot, lv_has ls 10 [(0, .ref h), (1, .ref h2), (2, .int (nI v9)), (3, .int (nI t9)), (4, .int c9), (5, .int (nI p1))] → W p l e rm_X1_tell s m args below meth c H locs 0 0 Q (F0 m 11 ls []) := by
    intro N11
    induction N11 with
    | zero => intro p1 g1 hN11; exact absurd hN11 (Nat.not_lt_zero _)
    | succ N11 ih11 =>
      intro p1 g1 hN11 hp H locs hP hS ls hl
      have L40 : ∀ (N40 : Nat) (q1 : Nat) (g1 : Nat → Int64) (o6 : Nat) (m7 : Int32) (hN40 : 12 - q1 < N40) (hpo : p1 < 12) (hq : q1 ≤ 12) (ho6 : o6 < 12), ∀ (H : Heap) (locs : List Loc), mw G.1 vwCl B (mu (mu μ h (.inr (1, [.ref hn, .int (nI b2)]))) la (.inl (G.2 0, 158 * k + 158, .inr (.inl g1)))) H → va_S (fun q => B ≤ q) s.heap H locs → ∀ ls : Array Slot, lv_has ls 10 [(0, .ref h), (1, .ref h2), (2, .int (nI v9)), (3, .int (nI t9)), (4, .int c9), (5, .int (nI p1)), (6, .int (nI o6)), (7, .int m7), (8, .int (nI q1))] → W p l e rm_X1_tell s m args below meth c H locs 0 0 Q (F0 m 40 ls []) := by
        intro N40
        induction N40 with
        | zero => intro q1 g1 o6 m7 hN40; exact absurd hN40 (Nat.not_lt_zero _)
        | succ N40 ih40 =>
          intro q1 g1 o6 m7 hN40 hpo hq ho6 H locs hP hS ls hl
          refine lv_iload hx hb dX1_tell_40 (lv_at hl 8 rfl) ?_
          refine lv_bipush (v := nI 12) hx hb dX1_tell_42 (by decide) ?_
          refine nv_icmp_ge (tgt := 99) hx hb (by omega) (by omega) dX1_tell_44 (by decide) (fun hc44 => ?_) (fun hc44 => ?_)
          · refine lv_iinc (v := nI (p1 + 1)) (lv' := [(5, .int (nI (p1 + 1))), (0, .ref h), (1, .ref h2), (2, .int (nI v9)), (3, .int (nI t9)), (4, .int c9), (6, .int (nI o6)), (7, .int m7), (8, .int (nI q1))]) hx hb dX1_tell_99 hl (k := 5) rfl (nI_add _ _) (by decide) rfl (fun ls hl => ?_)
            refine lv_goto (tgt := 11) hx hb dX1_tell_102 (by decide) ?_
            exact ih11 (p1 + 1) g1 (by omega) (by omega) _ _ hP hS ls (lv_sub hl [1, 2, 3, 4, 5, 0] rfl)
          · refine lv_iload hx hb dX1_tell_47 (lv_at hl 6 rfl) ?_
            refine lv_iload hx hb dX1_tell_49 (lv_at hl 8 rfl) ?_
            refine lv_iload_n hx hb dX1_tell_51 rfl (lv_at hl 2 rfl) ?_
            refine lv_iload_n hx hb dX1_tell_52 rfl (lv_at hl 3 rfl) ?_
            refine kc_i (va_runS (As := [.int (nI q1), .int (nI v9), .int (nI t9)]) (rest := [.int (nI o6)]) ⟨hx, hb, hml, hown, hts⟩ (c_X1_oldTerm l G B (mu (mu μ h (.inr (1, [.ref hn, .int (nI b2)]))) la (.inl (G.2 0, 158 * k + 158, .inr (.inl g1)))) q1 v9 t9 (by omega) (by omega) (by omega)) (va_cwS 3 hts gX1_tell_X1_oldTerm rfl rfl rfl (by decide +kernel) ⟨Nat.le_of_ble_eq_true rfl, Nat.le_of_ble_eq_true rfl⟩) ⟨KW.blind, fun U9 hU9 hW9 => ⟨rfl, KW.pre hBs hKK hS hP U9 hU9 hW9⟩⟩ rfl rfl hl.1 rfl (lv_room (Nat.le_of_ble_eq_true rfl)) dX1_tell_53 ⟨Nat.le_of_ble_eq_true rfl, Nat.le_of_ble_eq_true rfl⟩) hS (fun r53 m53 H locs hq9 hP hz9 hS => ?_)
            obtain ⟨he9, o53, ho53, rfl⟩ := hq9
            rw [he9] at hP
            refine kc_i (va_runS (As := [.int (nI o6), .int (nI o53)]) (rest := []) ⟨hx, hb, hml, hown, hts⟩ (c_X1_cell l G B (mu (mu μ h (.inr (1, [.ref hn, .int (nI b2)]))) la (.inl (G.2 0, 158 * k + 158, .inr (.inl g1)))) o6 o53) (va_cwS 2 hts gX1_tell_X1_cell rfl rfl rfl (by decide +kernel) ⟨Nat.le_of_ble_eq_true rfl, Nat.le_of_ble_eq_true rfl⟩) ⟨KW.blind, fun U9 hU9 hW9 => ⟨rfl, KW.pre hBs hKK hS hP U9 hU9 hW9⟩⟩ rfl rfl hl.1 rfl (lv_room (Nat.le_of_ble_eq_true rfl)) dX1_tell_56 ⟨Nat.le_of_ble_eq_true rfl, Nat.le_of_ble_eq_true rfl⟩) hS (fun r56 m56 H locs hq9 hP hz9 hS => ?_)
            obtain ⟨he9, rfl⟩ := hq9
            rw [he9] at hP
            refine lv_istore (lv' := [(9, .int (nI (o6 * 12 + o53))), (0, .ref h), (1, .ref h2), (2, .int (nI v9)), (3, .int (nI t9)), (4, .int c9), (5, .int (nI p1)), (6, .int (nI o6)), (7, .int m7), (8, .int (nI q1))]) hx hb dX1_tell_59 hl (by decide) rfl (fun ls hl => ?_)
            refine lv_aload_n hx hb dX1_tell_61 rfl (lv_at hl 1 rfl) ?_
            refine mw_get (C := RX1) (T := TX1) (N := 2) hx hb hts in_X1_tell_X1 hown hK hP ((mu_n ne0_2).trans (mu_s _ _ _)) rfl 0 (by decide) (hts (.fieldLink RX1 16 "OctagonDesk$Shape" "numbers" "LOctagonDesk$Numbers;") (by decide +kernel)) (fun _ h9 => h9) rfl dX1_tell_62 ?_
            refine lv_iload hx hb dX1_tell_65 (lv_at hl 6 rfl) ?_
            refine lv_iload hx hb dX1_tell_67 (lv_at hl 9 rfl) ?_
            refine kc_i (va_runS (As := [.int (nI p1), .int (nI q1)]) (rest := [.ref hn]) ⟨hx, hb, hml, hown, hts⟩ (c_X1_cell l G B (mu (mu μ h (.inr (1, [.ref hn, .int (nI b2)]))) la (.inl (G.2 0, 158 * k + 158, .inr (.inl g1)))) p1 q1) (va_cwS 2 hts gX1_tell_X1_cell rfl rfl rfl (by decide +kernel) ⟨Nat.le_of_ble_eq_true rfl, Nat.le_of_ble_eq_true rfl⟩) ⟨KW.blind, fun U9 hU9 hW9 => ⟨rfl, KW.pre hBs hKK hS hP U9 hU9 hW9⟩⟩ rfl rfl hl.1 rfl (lv_room (Nat.le_of_ble_eq_true rfl)) dX1_tell_69 ⟨Nat.le_of_ble_eq_true rfl, Nat.le_of_ble_eq_true rfl⟩) hS (fun r69 m69 H locs hq9 hP hz9 hS => ?_)
            obtain ⟨he9, rfl⟩ := hq9
            rw [he9] at hP
            refine lv_aload_n hx hb dX1_tell_72 rfl (lv_at hl 2 rfl) ?_
            refine mw_get (C := RX1) (T := TX1) (N := 2) hx hb hts in_X1_tell_X1 hown hK hP ((mu_n ((Ne.symm ne2_3))).trans ((mu_n ((Ne.symm hne0))).trans (hh2))) rfl 0 (by decide) (hts (.fieldLink RX1 16 "OctagonDesk$Shape" "numbers" "LOctagonDesk$Numbers;") (by decide +kernel)) (fun _ h9 => h9) rfl dX1_tell_73 ?_
            refine lv_iload hx hb dX1_tell_76 (lv_at hl 0 rfl) ?_
            refine lv_iload hx hb dX1_tell_78 (lv_at hl 8 rfl) ?_
            refine lv_iload hx hb dX1_tell_80 (lv_at hl 9 rfl) ?_
            refine lv_iload_n hx hb dX1_tell_82 rfl (lv_at hl 3 rfl) ?_
            refine lv_iload hx hb dX1_tell_83 (lv_at hl 5 rfl) ?_
            refine kc_i (va_runS (As := [.int (nI q1), .int (nI v9), .int c9]) (rest := [.int m7, .int (nI (o6 * 12 + o53)), .ref hn2, .int (nI (p1 * 12 + q1)), .ref hn]) ⟨hx, hb, hml, hown, hts⟩ (c_X1_moreOf l G B (mu (mu μ h (.inr (1, [.ref hn, .int (nI b2)]))) la (.inl (G.2 0, 158 * k + 158, .inr (.inl g1)))) q1 v9 c9 (by omega) (by omega)) (va_cwS 3 hts gX1_tell_X1_moreOf rfl rfl rfl (by decide +kernel) ⟨Nat.le_of_ble_eq_true rfl, Nat.le_of_ble_eq_true rfl⟩) ⟨KW.blind, fun U9 hU9 hW9 => ⟨rfl, KW.pre hBs hKK hS hP U9 hU9 hW9⟩⟩ rfl rfl hl.1 rfl (lv_room (Nat.le_of_ble_eq_true rfl)) dX1_tell_85 ⟨Nat.le_of_ble_eq_true rfl, Nat.le_of_ble_eq_true rfl⟩) hS (fun r85 m85 H locs hq9 hP hz9 hS => ?_)
            have he9 := hq9
            rw [he9] at hP
            refine lv_iadd hx hb dX1_tell_88 ?_
            refine lv_i2l (v := (m7 + r85).toInt64) hx hb dX1_tell_89 rfl ?_
            refine kc_v (va_runV (As := [.int (nI (p1 * 12 + q1)), .ref hn2, .int (nI (o6 * 12 + o53)), .long ((m7 + r85).toInt64)]) (rest := []) ⟨hx, hb, hml, hown, hts⟩ (c_X0_putMore l G B (mu (mu μ h (.inr (1, [.ref hn, .int (nI b2)]))) la (.inl (G.2 0, 158 * k + 158, .inr (.inl g1)))) hn la k g1 hn2 la2 g (p1 * 12 + q1) (o6 * 12 + o53) ((m7 + r85).toInt64) ((mu_n ne1_2).trans ((mu_n ((Ne.symm ne0_1))).trans (hhn))) (mu_s _ _ _) ((mu_n ((Ne.symm ne2_4))).trans ((mu_n ((Ne.symm ne0_4))).trans (hhn2))) ((mu_n ((Ne.symm hne))).trans ((mu_n ((Ne.symm ne0_5))).trans (ha2))) (by omega) (by omega) (by omega) (hne)) (cwV 4 hts gX1_tell_X0_putMore rfl rfl rfl (by decide +kernel) ⟨Nat.le_of_ble_eq_true rfl, Nat.le_of_ble_eq_true rfl⟩) ⟨KW.blind, hP.recv hK rfl ((mu_n ne1_2).trans ((mu_n ((Ne.symm ne0_1))).trans (hhn))), fun U9 hU9 hW9 => ⟨rfl, KW.pre hBs hKK hS hP U9 hU9 hW9⟩⟩ rfl rfl hl.1 rfl (lv_room (Nat.le_of_ble_eq_true rfl)) dX1_tell_90 ⟨Nat.le_of_ble_eq_true rfl, Nat.le_of_ble_eq_true rfl⟩) hS (fun m90 H locs hq9 hP hz9 hS => ?_)
            obtain ⟨g90, rfl, hg90⟩ := hq9
            have hP : mw G.1 vwCl B (mu (mu μ h (.inr (1, [.ref hn, .int (nI b2)]))) la (.inl (G.2 0, 158 * k + 158, .inr (.inl g90)))) _ := mw_eq (mu_u _ _ _ _) hP
            refine lv_iinc (v := nI (q1 + 1)) (lv' := [(8, .int (nI (q1 + 1))), (9, .int (nI (o6 * 12 + o53))), (0, .ref h), (1, .ref h2), (2, .int (nI v9)), (3, .int (nI t9)), (4, .int c9), (5, .int (nI p1)), (6, .int (nI o6)), (7, .int m7)]) hx hb dX1_tell_93 hl (k := 9) rfl (nI_add _ _) (by decide) rfl (fun ls hl => ?_)
            refine lv_goto (tgt := 40) hx hb dX1_tell_96 (by decide) ?_
            exact ih40 (q1 + 1) g90 o6 m7 (by omega) (by omega) (by omega) (by omega) _ _ hP hS ls (lv_sub hl [2, 3, 4, 5, 6, 7, 8, 9, 0] rfl)
      refine lv_iload hx hb dX1_tell_11 (lv_at hl 5 rfl) ?_
      refine lv_bipush (v := nI 12) hx hb dX1_tell_13 (by decide) ?_
      refine nv_icmp_ge (tgt := 105) hx hb (by omega) (by omega) dX1_tell_15 (by decide) (fun hc15 => ?_) (fun hc15 => ?_)
      · rw [hQ]
        exact W.vret hx hb hr (fun t99 ht99 hW99 => ⟨⟨mu (mu μ h (.inr (1, [.ref hn, .int (nI b2)]))) la (.inl (G.2 0, 158 * k + 158, .inr (.inl g1))), rfl, (⟨_, rfl⟩), by show mw _ _ _ _ t99.heap; rw [ht99]; exact hP⟩, hS.F ht99⟩) hS.2.2 dX1_tell_105
      · refine lv_iload hx hb dX1_tell_18 (lv_at hl 5 rfl) ?_
        refine lv_iload_n hx hb dX1_tell_20 rfl (lv_at hl 2 rfl) ?_
        refine lv_iload_n hx hb dX1_tell_21 rfl (lv_at hl 3 rfl) ?_
        refine kc_i (va_runS (As := [.int (nI p1), .int (nI v9), .int (nI t9)]) (rest := []) ⟨hx, hb, hml, hown, hts⟩ (c_X1_oldTerm l G B (mu (mu μ h (.inr (1, [.ref hn, .int (nI b2)]))) la (.inl (G.2 0, 158 * k + 158, .inr (.inl g1)))) p1 v9 t9 (by omega) (by omega) (by omega)) (va_cwS 3 hts gX1_tell_X1_oldTerm rfl rfl rfl (by decide +kernel) ⟨Nat.le_of_ble_eq_true rfl, Nat.le_of_ble_eq_true rfl⟩) ⟨KW.blind, fun U9 hU9 hW9 => ⟨rfl, KW.pre hBs hKK hS hP U9 hU9 hW9⟩⟩ rfl rfl hl.1 rfl (lv_room (Nat.le_of_ble_eq_true rfl)) dX1_tell_22 ⟨Nat.le_of_ble_eq_true rfl, Nat.le_of_ble_eq_true rfl⟩) hS (fun r22 m22 H locs hq9 hP hz9 hS => ?_)
        obtain ⟨he9, o22, ho22, rfl⟩ := hq9
        rw [he9] at hP
        refine lv_istore (lv' := [(6, .int (nI o22)), (0, .ref h), (1, .ref h2), (2, .int (nI v9)), (3, .int (nI t9)), (4, .int c9), (5, .int (nI p1))]) hx hb dX1_tell_25 hl (by decide) rfl (fun ls hl => ?_)
        refine lv_iload hx hb dX1_tell_27 (lv_at hl 6 rfl) ?_
        refine lv_iload_n hx hb dX1_tell_29 rfl (lv_at hl 3 rfl) ?_
        refine lv_iload hx hb dX1_tell_30 (lv_at hl 5 rfl) ?_
        refine kc_i (va_runS (As := [.int (nI p1), .int (nI v9), .int c9]) (rest := []) ⟨hx, hb, hml, hown, hts⟩ (c_X1_moreOf l G B (mu (mu μ h (.inr (1, [.ref hn, .int (nI b2)]))) la (.inl (G.2 0, 158 * k + 158, .inr (.inl g1)))) p1 v9 c9 (by omega) (by omega)) (va_cwS 3 hts gX1_tell_X1_moreOf rfl rfl rfl (by decide +kernel) ⟨Nat.le_of_ble_eq_true rfl, Nat.le_of_ble_eq_true rfl⟩) ⟨KW.blind, fun U9 hU9 hW9 => ⟨rfl, KW.pre hBs hKK hS hP U9 hU9 hW9⟩⟩ rfl rfl hl.1 rfl (lv_room (Nat.le_of_ble_eq_true rfl)) dX1_tell_32 ⟨Nat.le_of_ble_eq_true rfl, Nat.le_of_ble_eq_true rfl⟩) hS (fun r32 m32 H locs hq9 hP hz9 hS => ?_)
        have he9 := hq9
        rw [he9] at hP
        refine lv_istore (lv' := [(7, .int r32), (6, .int (nI o22)), (0, .ref h), (1, .ref h2), (2, .int (nI v9)), (3, .int (nI t9)), (4, .int c9), (5, .int (nI p1))]) hx hb dX1_tell_35 hl (by decide) rfl (fun ls hl => ?_)
        refine lv_iconst (v := nI 0) hx hb dX1_tell_37 (by decide) ?_
        refine lv_istore (lv' := [(8, .int (nI 0)), (7, .int r32), (6, .int (nI o22)), (0, .ref h), (1, .ref h2), (2, .int (nI v9)), (3, .int (nI t9)), (4, .int c9), (5, .int (nI p1))]) hx hb dX1_tell_38 hl (by decide) rfl (fun ls hl => ?_)
        exact L40 _ 0 g1 o22 r32 (Nat.lt_succ_self _) (by omega) (by omega) (by omega) _ _ hP hS ls (lv_sub hl [3, 4, 5, 6, 7, 8, 2, 1, 0] rfl)
  have hl := lv_entry ([.ref h, .ref h2, .int (nI v9), .int (nI t9), .int c9]) (n := 10) (Nat.le_of_ble_eq_true rfl)
  have he9 : entryFrame m args 10 = entryFrame m ([.ref h, .ref h2, .int (nI v9), .int (nI t9), .int c9] : List Value).toArray 10 := by rw [hargs]
  rw [he9, lg_entry_eq]
  generalize (lg_sl ([.ref h, .ref h2, .int (nI v9), .int (nI t9), .int c9]) ++ List.replicate (10 - (lg_sl ([.ref h, .ref h2, .int (nI v9), .int (nI t9), .int c9])).length) Slot.unset).toArray = ls at hl ⊢
  have hl : lv_has ls 10 [(0, .ref h), (1, .ref h2), (2, .int (nI v9)), (3, .int (nI t9)), (4, .int c9)] := hl
  refine lv_aload_n hx hb dX1_tell_0 rfl (lv_at hl 0 rfl) ?_
  refine lv_aload_n hx hb dX1_tell_1 rfl (lv_at hl 1 rfl) ?_
  refine mw_get (C := RX1) (T := TX1) (N := 2) hx hb hts in_X1_tell_X1 hown hK hP ((mu_n ((Ne.symm ne2_3))).trans ((mu_n ((Ne.symm hne0))).trans (hh2))) rfl 1 (by decide) (hts (.fieldLink RX1 20 "OctagonDesk$Shape" "empty" "Z") (by decide +kernel)) (fun _ h9 => h9) rfl dX1_tell_2 ?_
  refine mw_put (ty := .boolean) (v := .int (nI b2)) (C := RX1) (T := TX1) (N := 2) hx hb hts in_X1_tell_X1 tyX1 tyX1_ok nmX1 hown hK hP hS ((mu_n ne0_2).trans (mu_s _ _ _)) rfl 1 (by decide) (hts (.fieldLink RX1 20 "OctagonDesk$Shape" "empty" "Z") (by decide +kernel)) (fun _ h9 => h9) rfl (by decide +kernel) (zb_n (by omega)) (zb_f (by omega)) (Nat.le_of_ble_eq_true rfl) dX1_tell_5 (fun H locs hP hS => ?_)
  have hP : mw G.1 vwCl B (mu (mu μ h (.inr (1, [.ref hn, .int (nI b2)]))) la (.inl (G.2 0, 158 * k + 158, .inr (.inl f)))) _ := mw_eq ((mu_c _ _ ((Ne.symm ne0_2))).trans (congrArg (fun z => mu z la (.inl (G.2 0, 158 * k + 158, .inr (.inl f)))) (mu_u _ _ _ _))) hP
  refine lv_iconst (v := nI 0) hx hb dX1_tell_8 (by decide) ?_
  refine lv_istore (lv' := [(5, .int (nI 0)), (0, .ref h), (1, .ref h2), (2, .int (nI v9)), (3, .int (nI t9)), (4, .int c9)]) hx hb dX1_tell_9 hl (by decide) rfl (fun ls hl => ?_)
  exact L11 _ 0 f (Nat.lt_succ_self _) (by omega) _ _ hP hS ls (lv_sub hl [1, 2, 3, 4, 5, 0] rfl)

abbrev rm_X1_makeFrom : Room := { frames := 4, cells := 0, slots := 0, locals := 102 }
set_option maxHeartbeats 4000000 in
set_option maxRecDepth 100000 in
theorem c_X1_makeFrom_0 (l : Launch) (G : GG) (B : Nat) (μ : mp) (h hn la k b : Nat) (f : Nat → Int64) (h2 hn2 la2 b2 : Nat) (g : Nat → Int64) (a9 t9 : Nat) (c9 : Int32) (hh : μ h = some (.inr (1, [.ref hn, .int (nI b)]))) (hhn : μ hn = some (.inr (0, [.int (nI 158), .int (nI 157), .ref la, .int (nI (158 * k))]))) (ha : μ la = some (.inl (G.2 0, 158 * k + 158, .inr (.inl f)))) (hh2 : μ h2 = some (.inr (1, [.ref hn2, .int (nI b2)]))) (hhn2 : μ hn2 = some (.inr (0, [.int (nI 158), .int (nI 157), .ref la2, .int (nI (158 * k))]))) (ha2 : μ la2 = some (.inl (G.2 0, 158 * k + 158, .inr (.inl g)))) (hk : k ≤ 1022) (hb1 : b ≤ 1) (hb2 : b2 ≤ 1) (hne : la ≠ la2) (hne0 : h ≠ h2) (ha9 : a9 < 12) (ht9a : t9 < 12) : Met l yX1_makeFrom wsX1_makeFrom rm_X1_makeFrom (va_Pc [.ref h, .ref h2, .int (nI 0), .int (nI a9), .int (nI t9), .int c9] (KW G B μ)) (va_Qv (fun μ2 => ∃ (g9 : Nat → Int64) (b9 : Nat), μ2 = mu (mu μ h (.inr (1, [.ref hn, .int (nI b9)]))) la (.inl (G.2 0, 158 * k + 158, .inr (.inl g9))) ∧ b9 ≤ 1 ∧ (k = 0 → ∃ (f1 : Nat → Int64) (v9 : Int64), (∀ j, j < 158 → f1 j = g j) ∧ v9 = (if a9 = t9 then (nI 2 * c9).toInt64 else c9.toInt64) ∧ RR (hs (vp_updL f1 156 v9) a9 t9 b2) g9 b2 b9)) (BB G B) (fun q => B ≤ q)) 0 0 (fun q => B ≤ q) := by
  refine Met.ofW (cc := cX1_makeFrom) (maxL := 6) (ret := none) (by decide) rfl ?_
  intro p e s m args below meth c s₁ B9 hml hv
  obtain ⟨hargs, hBs, hP, hKK⟩ := hv
  have hx := B9.exec
  have hb := B9.bytes
  have hr := B9.returns
  have hts := atoms_spec (ws := wsX1_makeFrom) B9.pre
  have hown : s.vm.findClass RX1 = some m.cls := findClass_of_methodNamed B9.named
  have hlocks := B9.notSynchronized
  have hK := hKK.k
  have hS : va_S (fun q => B ≤ q) s.heap s.heap [] := va_S.rf
  obtain ⟨Q, hQ⟩ : ∃ Q, Q = MQ below (va_Qv (fun μ2 => ∃ (g9 : Nat → Int64) (b9 : Nat), μ2 = mu (mu μ h (.inr (1, [.ref hn, .int (nI b9)]))) la (.inl (G.2 0, 158 * k + 158, .inr (.inl g9))) ∧ b9 ≤ 1 ∧ (k = 0 → ∃ (f1 : Nat → Int64) (v9 : Int64), (∀ j, j < 158 → f1 j = g j) ∧ v9 = (if a9 = t9 then (nI 2 * c9).toInt64 else c9.toInt64) ∧ RR (hs (vp_updL f1 156 v9) a9 t9 b2) g9 b2 b9)) (BB G B) (fun q => B ≤ q)) args s 0 0 (fun q => B ≤ q) := ⟨_, rfl⟩
  rw [← hQ]
  have ne0_1 : h ≠ hn := mp_ne hh hhn (by simp)
  have ne0_2 : h ≠ la := mp_ne hh ha (by simp)
  have ne0_4 : h ≠ hn2 := mp_ne hh hhn2 (by simp)
  have ne0_5 : h ≠ la2 := mp_ne hh ha2 (by simp)
  have ne1_2 : hn ≠ la := mp_ne hhn ha (by simp)
  have ne1_3 : hn ≠ h2 := mp_ne hhn hh2 (by simp)
  have ne1_5 : hn ≠ la2 := mp_ne hhn ha2 (by simp)
  have ne2_3 : la ≠ h2 := mp_ne ha hh2 (by simp)
  have ne2_4 : la ≠ hn2 := mp_ne ha hhn2 (by simp)
  have ne3_4 : h2 ≠ hn2 := mp_ne hh2 hhn2 (by simp)
  have ne3_5 : h2 ≠ la2 := mp_ne hh2 ha2 (by simp)
  have ne4_5 : hn2 ≠ la2 := mp_ne hhn2 ha2 (by simp)
  have in_X1_makeFrom_X1 : ∀ w ∈ wsX10, w ∈ wsX1_makeFrom := by decide +kernel
  have hP : mw G.1 vwCl B (mu (mu μ h (.inr (1, [.ref hn, .int (nI b)]))) la (.inl (G.2 0, 158 * k + 158, .inr (.inl f)))) s.heap := mw_eq ((congrArg (fun z => mu z la (.inl (G.2 0, 158 * k + 158, .inr (.inl f)))) (mu_i hh)).trans (mu_i ha)).symm hP
  have hl := lv_entry ([.ref h, .ref h2, .int (nI 0), .int (nI a9), .int (nI t9), .int c9]) (n := 6) (Nat.le_of_ble_eq_true rfl)
  have he9 : entryFrame m args 6 = entryFrame m ([.ref h, .ref h2, .int (nI 0), .int (nI a9), .int (nI t9), .int c9] : List Value).toArray 6 := by rw [hargs]
  rw [he9, lg_entry_eq]
  generalize (lg_sl ([.ref h, .ref h2, .int (nI 0), .int (nI a9), .int (nI t9), .int c9]) ++ List.replicate (6 - (lg_sl ([.ref h, .ref h2, .int (nI 0), .int (nI a9), .int (nI t9), .int c9])).length) Slot.unset).toArray = ls at hl ⊢
  have hl : lv_has ls 6 [(0, .ref h), (1, .ref h2), (2, .int (nI 0)), (3, .int (nI a9)), (4, .int (nI t9)), (5, .int c9)] := hl
  refine lv_iload_n hx hb dX1_makeFrom_0 rfl (lv_at hl 2 rfl) ?_
  refine lv_iconst (v := nI 1) hx hb dX1_makeFrom_1 (by decide) ?_
  refine nv_icmp_ne (tgt := 16) hx hb (by omega) (by omega) dX1_makeFrom_2 (by decide) (fun hc2 => ?_) (fun hc2 => ?_)
  · refine lv_aload_n hx hb dX1_makeFrom_16 rfl (lv_at hl 0 rfl) ?_
    refine lv_aload_n hx hb dX1_makeFrom_17 rfl (lv_at hl 1 rfl) ?_
    refine kc_v (va_runV (As := [.ref h2]) (rest := []) ⟨hx, hb, hml, hown, hts⟩ (c_X1_takeOver l G B (mu (mu μ h (.inr (1, [.ref hn, .int (nI b)]))) la (.inl (G.2 0, 158 * k + 158, .inr (.inl f)))) h hn la k b f h2 hn2 la2 b2 g  ((mu_n ne0_2).trans (mu_s _ _ _)) ((mu_n ne1_2).trans ((mu_n ((Ne.symm ne0_1))).trans (hhn))) (mu_s _ _ _) ((mu_n ((Ne.symm ne2_3))).trans ((mu_n ((Ne.symm hne0))).trans (hh2))) ((mu_n ((Ne.symm ne2_4))).trans ((mu_n ((Ne.symm ne0_4))).trans (hhn2))) ((mu_n ((Ne.symm hne))).trans ((mu_n ((Ne.symm ne0_5))).trans (ha2))) (by omega) (by omega)) (cwV 1 hts gX1_makeFrom_X1_takeOver rfl rfl rfl (by decide +kernel) ⟨Nat.le_of_ble_eq_true rfl, Nat.le_of_ble_eq_true rfl⟩) ⟨KW.blind, hP.recv hK rfl ((mu_n ne0_2).trans (mu_s _ _ _)), fun U9 hU9 hW9 => ⟨rfl, KW.pre hBs hKK hS hP U9 hU9 hW9⟩⟩ rfl rfl hl.1 rfl (lv_room (Nat.le_of_ble_eq_true rfl)) dX1_makeFrom_18 ⟨Nat.le_of_ble_eq_true rfl, Nat.le_of_ble_eq_true rfl⟩) hS (fun m18 H locs hq9 hP hz9 hS => ?_)
    obtain ⟨g18, rfl, hg18⟩ := hq9
    have hP : mw G.1 vwCl B (mu (mu μ h (.inr (1, [.ref hn, .int (nI b2)]))) la (.inl (G.2 0, 158 * k + 158, .inr (.inl g18)))) _ := mw_eq ((congrArg (fun z => mu z h (.inr (1, [.ref hn, .int (nI b2)]))) (mu_u _ _ _ _)).trans ((mu_c _ _ ((Ne.symm ne0_2))).trans (congrArg (fun z => mu z la (.inl (G.2 0, 158 * k + 158, .inr (.inl g18)))) (mu_u _ _ _ _)))) hP
    refine lv_iload_n hx hb dX1_makeFrom_21 rfl (lv_at hl 2 rfl) ?_
    refine lv_if_ne (tgt := 62) hx hb dX1_makeFrom_22 (by decide) (fun hc22 => ?_) (fun hc22 => ?_)
    · exact absurd rfl hc22
    · refine lv_aload_n hx hb dX1_makeFrom_25 rfl (lv_at hl 0 rfl) ?_
      refine mw_get (C := RX1) (T := TX1) (N := 2) hx hb hts in_X1_makeFrom_X1 hown hK hP ((mu_n ne0_2).trans (mu_s _ _ _)) rfl 0 (by decide) (hts (.fieldLink RX1 16 "OctagonDesk$Shape" "numbers" "LOctagonDesk$Numbers;") (by decide +kernel)) (fun _ h9 => h9) rfl dX1_makeFrom_26 ?_
      refine lv_sipush (v := nI 156) hx hb dX1_makeFrom_29 (by decide) ?_
      refine lv_iload_n hx hb dX1_makeFrom_32 rfl (lv_at hl 3 rfl) ?_
      refine lv_iload hx hb dX1_makeFrom_33 (lv_at hl 4 rfl) ?_
      refine nv_icmp_ne (tgt := 46) hx hb (by omega) (by omega) dX1_makeFrom_35 (by decide) (fun hc35 => ?_) (fun hc35 => ?_)
      · refine lv_iload hx hb dX1_makeFrom_46 (lv_at hl 5 rfl) ?_
        refine lv_i2l (v := c9.toInt64) hx hb dX1_makeFrom_48 rfl ?_
        refine kc_v (va_runV (As := [.int (nI 156), .long c9.toInt64]) (rest := []) ⟨hx, hb, hml, hown, hts⟩ (c_X0_set l G B (mu (mu μ h (.inr (1, [.ref hn, .int (nI b2)]))) la (.inl (G.2 0, 158 * k + 158, .inr (.inl g18)))) hn la k g18 156 c9.toInt64 ((mu_n ne1_2).trans ((mu_n ((Ne.symm ne0_1))).trans (hhn))) (mu_s _ _ _) (by omega) (by omega)) (cwV 2 hts gX1_makeFrom_X0_set rfl rfl rfl (by decide +kernel) ⟨Nat.le_of_ble_eq_true rfl, Nat.le_of_ble_eq_true rfl⟩) ⟨KW.blind, hP.recv hK rfl ((mu_n ne1_2).trans ((mu_n ((Ne.symm ne0_1))).trans (hhn))), fun U9 hU9 hW9 => ⟨rfl, KW.pre hBs hKK hS hP U9 hU9 hW9⟩⟩ rfl rfl hl.1 rfl (lv_room (Nat.le_of_ble_eq_true rfl)) dX1_makeFrom_49 ⟨Nat.le_of_ble_eq_true rfl, Nat.le_of_ble_eq_true rfl⟩) hS (fun m49 H locs hq9 hP hz9 hS => ?_)
        obtain ⟨g49, rfl, hg49⟩ := hq9
        have hP : mw G.1 vwCl B (mu (mu μ h (.inr (1, [.ref hn, .int (nI b2)]))) la (.inl (G.2 0, 158 * k + 158, .inr (.inl g49)))) _ := mw_eq (mu_u _ _ _ _) hP
        refine lv_aload_n hx hb dX1_makeFrom_52 rfl (lv_at hl 0 rfl) ?_
        refine lv_iload_n hx hb dX1_makeFrom_53 rfl (lv_at hl 3 rfl) ?_
        refine lv_iload hx hb dX1_makeFrom_54 (lv_at hl 4 rfl) ?_
        refine kc_v (va_runV (As := [.int (nI a9), .int (nI t9)]) (rest := []) ⟨hx, hb, hml, hown, hts⟩ (c_X1_holdToSpare l G B (mu (mu μ h (.inr (1, [.ref hn, .int (nI b2)]))) la (.inl (G.2 0, 158 * k + 158, .inr (.inl g49)))) h hn la k b2 g49 a9 t9 ((mu_n ne0_2).trans (mu_s _ _ _)) ((mu_n ne1_2).trans ((mu_n ((Ne.symm ne0_1))).trans (hhn))) (mu_s _ _ _) (by omega) (by omega) (by omega) (by omega)) (cwV 2 hts gX1_makeFrom_X1_holdToSpare rfl rfl rfl (by decide +kernel) ⟨Nat.le_of_ble_eq_true rfl, Nat.le_of_ble_eq_true rfl⟩) ⟨KW.blind, hP.recv hK rfl ((mu_n ne0_2).trans (mu_s _ _ _)), fun U9 hU9 hW9 => ⟨rfl, KW.pre hBs hKK hS hP U9 hU9 hW9⟩⟩ rfl rfl hl.1 rfl (lv_room (Nat.le_of_ble_eq_true rfl)) dX1_makeFrom_56 ⟨Nat.le_of_ble_eq_true rfl, Nat.le_of_ble_eq_true rfl⟩) hS (fun m56 H locs hq9 hP hz9 hS => ?_)
        obtain ⟨g56, b56, rfl, hb56, hg56⟩ := hq9
        have hP : mw G.1 vwCl B (mu (mu μ h (.inr (1, [.ref hn, .int (nI b56)]))) la (.inl (G.2 0, 158 * k + 158, .inr (.inl g56)))) _ := mw_eq ((congrArg (fun z => mu z la (.inl (G.2 0, 158 * k + 158, .inr (.inl g56)))) ((mu_c _ _ ((Ne.symm ne0_2))).trans (congrArg (fun z => mu z la (.inl (G.2 0, 158 * k + 158, .inr (.inl g49)))) (mu_u _ _ _ _)))).trans (mu_u _ _ _ _)) hP
        refine lv_goto (tgt := 73) hx hb dX1_makeFrom_59 (by decide) ?_
        rw [hQ]
        exact W.vret hx hb hr (fun t99 ht99 hW99 => ⟨⟨mu (mu μ h (.inr (1, [.ref hn, .int (nI b56)]))) la (.inl (G.2 0, 158 * k + 158, .inr (.inl g56))), rfl, (⟨_, _, rfl, hb56, fun h0 => ⟨g18, _, fun j hj => hg18 j (by omega), rfl, by have e := (hg56 h0).1; rw [hg49 h0] at e; first | (rw [if_pos hc35]; exact e) | (rw [if_neg hc35]; exact e)⟩⟩), by show mw _ _ _ _ t99.heap; rw [ht99]; exact hP⟩, hS.F ht99⟩) hS.2.2 dX1_makeFrom_73
      · refine lv_iconst (v := nI 2) hx hb dX1_makeFrom_38 (by decide) ?_
        refine lv_iload hx hb dX1_makeFrom_39 (lv_at hl 5 rfl) ?_
        refine lv_imul hx hb dX1_makeFrom_41 ?_
        refine lv_i2l (v := ((nI 2) * c9).toInt64) hx hb dX1_makeFrom_42 rfl ?_
        refine lv_goto (tgt := 49) hx hb dX1_makeFrom_43 (by decide) ?_
        refine kc_v (va_runV (As := [.int (nI 156), .long (((nI 2) * c9).toInt64)]) (rest := []) ⟨hx, hb, hml, hown, hts⟩ (c_X0_set l G B (mu (mu μ h (.inr (1, [.ref hn, .int (nI b2)]))) la (.inl (G.2 0, 158 * k + 158, .inr (.inl g18)))) hn la k g18 156 (((nI 2) * c9).toInt64) ((mu_n ne1_2).trans ((mu_n ((Ne.symm ne0_1))).trans (hhn))) (mu_s _ _ _) (by omega) (by omega)) (cwV 2 hts gX1_makeFrom_X0_set rfl rfl rfl (by decide +kernel) ⟨Nat.le_of_ble_eq_true rfl, Nat.le_of_ble_eq_true rfl⟩) ⟨KW.blind, hP.recv hK rfl ((mu_n ne1_2).trans ((mu_n ((Ne.symm ne0_1))).trans (hhn))), fun U9 hU9 hW9 => ⟨rfl, KW.pre hBs hKK hS hP U9 hU9 hW9⟩⟩ rfl rfl hl.1 rfl (lv_room (Nat.le_of_ble_eq_true rfl)) dX1_makeFrom_49 ⟨Nat.le_of_ble_eq_true rfl, Nat.le_of_ble_eq_true rfl⟩) hS (fun m49 H locs hq9 hP hz9 hS => ?_)
        obtain ⟨g49, rfl, hg49⟩ := hq9
        have hP : mw G.1 vwCl B (mu (mu μ h (.inr (1, [.ref hn, .int (nI b2)]))) la (.inl (G.2 0, 158 * k + 158, .inr (.inl g49)))) _ := mw_eq (mu_u _ _ _ _) hP
        refine lv_aload_n hx hb dX1_makeFrom_52 rfl (lv_at hl 0 rfl) ?_
        refine lv_iload_n hx hb dX1_makeFrom_53 rfl (lv_at hl 3 rfl) ?_
        refine lv_iload hx hb dX1_makeFrom_54 (lv_at hl 4 rfl) ?_
        refine kc_v (va_runV (As := [.int (nI a9), .int (nI t9)]) (rest := []) ⟨hx, hb, hml, hown, hts⟩ (c_X1_holdToSpare l G B (mu (mu μ h (.inr (1, [.ref hn, .int (nI b2)]))) la (.inl (G.2 0, 158 * k + 158, .inr (.inl g49)))) h hn la k b2 g49 a9 t9 ((mu_n ne0_2).trans (mu_s _ _ _)) ((mu_n ne1_2).trans ((mu_n ((Ne.symm ne0_1))).trans (hhn))) (mu_s _ _ _) (by omega) (by omega) (by omega) (by omega)) (cwV 2 hts gX1_makeFrom_X1_holdToSpare rfl rfl rfl (by decide +kernel) ⟨Nat.le_of_ble_eq_true rfl, Nat.le_of_ble_eq_true rfl⟩) ⟨KW.blind, hP.recv hK rfl ((mu_n ne0_2).trans (mu_s _ _ _)), fun U9 hU9 hW9 => ⟨rfl, KW.pre hBs hKK hS hP U9 hU9 hW9⟩⟩ rfl rfl hl.1 rfl (lv_room (Nat.le_of_ble_eq_true rfl)) dX1_makeFrom_56 ⟨Nat.le_of_ble_eq_true rfl, Nat.le_of_ble_eq_true rfl⟩) hS (fun m56 H locs hq9 hP hz9 hS => ?_)
        obtain ⟨g56, b56, rfl, hb56, hg56⟩ := hq9
        have hP : mw G.1 vwCl B (mu (mu μ h (.inr (1, [.ref hn, .int (nI b56)]))) la (.inl (G.2 0, 158 * k + 158, .inr (.inl g56)))) _ := mw_eq ((congrArg (fun z => mu z la (.inl (G.2 0, 158 * k + 158, .inr (.inl g56)))) ((mu_c _ _ ((Ne.symm ne0_2))).trans (congrArg (fun z => mu z la (.inl (G.2 0, 158 * k + 158, .inr (.inl g49)))) (mu_u _ _ _ _)))).trans (mu_u _ _ _ _)) hP
        refine lv_goto (tgt := 73) hx hb dX1_makeFrom_59 (by decide) ?_
        rw [hQ]
        exact W.vret hx hb hr (fun t99 ht99 hW99 => ⟨⟨mu (mu μ h (.inr (1, [.ref hn, .int (nI b56)]))) la (.inl (G.2 0, 158 * k + 158, .inr (.inl g56))), rfl, (⟨_, _, rfl, hb56, fun h0 => ⟨g18, _, fun j hj => hg18 j (by omega), rfl, by have e := (hg56 h0).1; rw [hg49 h0] at e; first | (rw [if_pos hc35]; exact e) | (rw [if_neg hc35]; exact e)⟩⟩), by show mw _ _ _ _ t99.heap; rw [ht99]; exact hP⟩, hS.F ht99⟩) hS.2.2 dX1_makeFrom_73
  · exact absurd hc2 (by omega)

set_option maxHeartbeats 4000000 in
set_option maxRecDepth 100000 in
theorem c_X1_makeFrom_1 (l : Launch) (G : GG) (B : Nat) (μ : mp) (h hn la k b : Nat) (f : Nat → Int64) (h2 hn2 la2 b2 : Nat) (g : Nat → Int64) (a9 t9 : Nat) (c9 : Int32) (hh : μ h = some (.inr (1, [.ref hn, .int (nI b)]))) (hhn : μ hn = some (.inr (0, [.int (nI 158), .int (nI 157), .ref la, .int (nI (158 * k))]))) (ha : μ la = some (.inl (G.2 0, 158 * k + 158, .inr (.inl f)))) (hh2 : μ h2 = some (.inr (1, [.ref hn2, .int (nI b2)]))) (hhn2 : μ hn2 = some (.inr (0, [.int (nI 158), .int (nI 157), .ref la2, .int (nI (158 * k))]))) (ha2 : μ la2 = some (.inl (G.2 0, 158 * k + 158, .inr (.inl g)))) (hk : k ≤ 1022) (hb1 : b ≤ 1) (hb2 : b2 ≤ 1) (hne : la ≠ la2) (hne0 : h ≠ h2) (ha9 : a9 < 6) (ht9a : t9 < 12) : Met l yX1_makeFrom wsX1_makeFrom rm_X1_makeFrom (va_Pc [.ref h, .ref h2, .int (nI 1), .int (nI a9), .int (nI t9), .int c9] (KW G B μ)) (va_Qv (fun μ2 => ∃ (g9 : Nat → Int64) (b9 : Nat), μ2 = mu (mu μ h (.inr (1, [.ref hn, .int (nI b9)]))) la (.inl (G.2 0, 158 * k + 158, .inr (.inl g9))) ∧ b9 ≤ 1 ∧ (b9 = b2)) (BB G B) (fun q => B ≤ q)) 0 0 (fun q => B ≤ q) := by
  refine Met.ofW (cc := cX1_makeFrom) (maxL := 6) (ret := none) (by decide) rfl ?_
  intro p e s m args below meth c s₁ B9 hml hv
  obtain ⟨hargs, hBs, hP, hKK⟩ := hv
  have hx := B9.exec
  have hb := B9.bytes
  have hr := B9.returns
  have hts := atoms_spec (ws := wsX1_makeFrom) B9.pre
  have hown : s.vm.findClass RX1 = some m.cls := findClass_of_methodNamed B9.named
  have hlocks := B9.notSynchronized
  have hK := hKK.k
  have hS : va_S (fun q => B ≤ q) s.heap s.heap [] := va_S.rf
  obtain ⟨Q, hQ⟩ : ∃ Q, Q = MQ below (va_Qv (fun μ2 => ∃ (g9 : Nat → Int64) (b9 : Nat), μ2 = mu (mu μ h (.inr (1, [.ref hn, .int (nI b9)]))) la (.inl (G.2 0, 158 * k + 158, .inr (.inl g9))) ∧ b9 ≤ 1 ∧ (b9 = b2)) (BB G B) (fun q => B ≤ q)) args s 0 0 (fun q => B ≤ q) := ⟨_, rfl⟩
  rw [← hQ]
  have ne0_1 : h ≠ hn := mp_ne hh hhn (by simp)
  have ne0_2 : h ≠ la := mp_ne hh ha (by simp)
  have ne0_4 : h ≠ hn2 := mp_ne hh hhn2 (by simp)
  have ne0_5 : h ≠ la2 := mp_ne hh ha2 (by simp)
  have ne1_2 : hn ≠ la := mp_ne hhn ha (by simp)
  have ne1_3 : hn ≠ h2 := mp_ne hhn hh2 (by simp)
  have ne1_5 : hn ≠ la2 := mp_ne hhn ha2 (by simp)
  have ne2_3 : la ≠ h2 := mp_ne ha hh2 (by simp)
  have ne2_4 : la ≠ hn2 := mp_ne ha hhn2 (by simp)
  have ne3_4 : h2 ≠ hn2 := mp_ne hh2 hhn2 (by simp)
  have ne3_5 : h2 ≠ la2 := mp_ne hh2 ha2 (by simp)
  have ne4_5 : hn2 ≠ la2 := mp_ne hhn2 ha2 (by simp)
  have hP : mw G.1 vwCl B (mu (mu μ h (.inr (1, [.ref hn, .int (nI b)]))) la (.inl (G.2 0, 158 * k + 158, .inr (.inl f)))) s.heap := mw_eq ((congrArg (fun z => mu z la (.inl (G.2 0, 158 * k + 158, .inr (.inl f)))) (mu_i hh)).trans (mu_i ha)).symm hP
  have hl := lv_entry ([.ref h, .ref h2, .int (nI 1), .int (nI a9), .int (nI t9), .int c9]) (n := 6) (Nat.le_of_ble_eq_true rfl)
  have he9 : entryFrame m args 6 = entryFrame m ([.ref h, .ref h2, .int (nI 1), .int (nI a9), .int (nI t9), .int c9] : List Value).toArray 6 := by rw [hargs]
  rw [he9, lg_entry_eq]
  generalize (lg_sl ([.ref h, .ref h2, .int (nI 1), .int (nI a9), .int (nI t9), .int c9]) ++ List.replicate (6 - (lg_sl ([.ref h, .ref h2, .int (nI 1), .int (nI a9), .int (nI t9), .int c9])).length) Slot.unset).toArray = ls at hl ⊢
  have hl : lv_has ls 6 [(0, .ref h), (1, .ref h2), (2, .int (nI 1)), (3, .int (nI a9)), (4, .int (nI t9)), (5, .int c9)] := hl
  refine lv_iload_n hx hb dX1_makeFrom_0 rfl (lv_at hl 2 rfl) ?_
  refine lv_iconst (v := nI 1) hx hb dX1_makeFrom_1 (by decide) ?_
  refine nv_icmp_ne (tgt := 16) hx hb (by omega) (by omega) dX1_makeFrom_2 (by decide) (fun hc2 => ?_) (fun hc2 => ?_)
  · exact absurd rfl hc2
  · refine lv_aload_n hx hb dX1_makeFrom_5 rfl (lv_at hl 0 rfl) ?_
    refine lv_aload_n hx hb dX1_makeFrom_6 rfl (lv_at hl 1 rfl) ?_
    refine lv_iload_n hx hb dX1_makeFrom_7 rfl (lv_at hl 3 rfl) ?_
    refine lv_iload hx hb dX1_makeFrom_8 (lv_at hl 4 rfl) ?_
    refine lv_iload hx hb dX1_makeFrom_10 (lv_at hl 5 rfl) ?_
    refine kc_v (va_runV (As := [.ref h2, .int (nI a9), .int (nI t9), .int c9]) (rest := []) ⟨hx, hb, hml, hown, hts⟩ (c_X1_tell l G B (mu (mu μ h (.inr (1, [.ref hn, .int (nI b)]))) la (.inl (G.2 0, 158 * k + 158, .inr (.inl f)))) h hn la k b f h2 hn2 la2 b2 g a9 t9 c9 ((mu_n ne0_2).trans (mu_s _ _ _)) ((mu_n ne1_2).trans ((mu_n ((Ne.symm ne0_1))).trans (hhn))) (mu_s _ _ _) ((mu_n ((Ne.symm ne2_3))).trans ((mu_n ((Ne.symm hne0))).trans (hh2))) ((mu_n ((Ne.symm ne2_4))).trans ((mu_n ((Ne.symm ne0_4))).trans (hhn2))) ((mu_n ((Ne.symm hne))).trans ((mu_n ((Ne.symm ne0_5))).trans (ha2))) (by omega) (by omega) (by omega) (by omega) (hne) (hne0)) (cwV 4 hts gX1_makeFrom_X1_tell rfl rfl rfl (by decide +kernel) ⟨Nat.le_of_ble_eq_true rfl, Nat.le_of_ble_eq_true rfl⟩) ⟨KW.blind, hP.recv hK rfl ((mu_n ne0_2).trans (mu_s _ _ _)), fun U9 hU9 hW9 => ⟨rfl, KW.pre hBs hKK hS hP U9 hU9 hW9⟩⟩ rfl rfl hl.1 rfl (lv_room (Nat.le_of_ble_eq_true rfl)) dX1_makeFrom_12 ⟨Nat.le_of_ble_eq_true rfl, Nat.le_of_ble_eq_true rfl⟩) hS (fun m12 H locs hq9 hP hz9 hS => ?_)
    obtain ⟨g12, rfl⟩ := hq9
    have hP : mw G.1 vwCl B (mu (mu μ h (.inr (1, [.ref hn, .int (nI b2)]))) la (.inl (G.2 0, 158 * k + 158, .inr (.inl g12)))) _ := mw_eq ((congrArg (fun z => mu z la (.inl (G.2 0, 158 * k + 158, .inr (.inl g12)))) ((mu_c _ _ ((Ne.symm ne0_2))).trans (congrArg (fun z => mu z la (.inl (G.2 0, 158 * k + 158, .inr (.inl f)))) (mu_u _ _ _ _)))).trans (mu_u _ _ _ _)) hP
    rw [hQ]
    exact W.vret hx hb hr (fun t99 ht99 hW99 => ⟨⟨mu (mu μ h (.inr (1, [.ref hn, .int (nI b2)]))) la (.inl (G.2 0, 158 * k + 158, .inr (.inl g12))), rfl, (⟨_, _, rfl, hb2, rfl⟩), by show mw _ _ _ _ t99.heap; rw [ht99]; exact hP⟩, hS.F ht99⟩) hS.2.2 dX1_makeFrom_15

set_option maxHeartbeats 4000000 in
set_option maxRecDepth 100000 in
theorem c_X1_makeFrom_2 (l : Launch) (G : GG) (B : Nat) (μ : mp) (h hn la k b : Nat) (f : Nat → Int64) (h2 hn2 la2 b2 : Nat) (g : Nat → Int64) (a9 : Nat) (l9 c9 : Int32) (hh : μ h = some (.inr (1, [.ref hn, .int (nI b)]))) (hhn : μ hn = some (.inr (0, [.int (nI 158), .int (nI 157), .ref la, .int (nI (158 * k))]))) (ha : μ la = some (.inl (G.2 0, 158 * k + 158, .inr (.inl f)))) (hh2 : μ h2 = some (.inr (1, [.ref hn2, .int (nI b2)]))) (hhn2 : μ hn2 = some (.inr (0, [.int (nI 158), .int (nI 157), .ref la2, .int (nI (158 * k))]))) (ha2 : μ la2 = some (.inl (G.2 0, 158 * k + 158, .inr (.inl g)))) (hk : k ≤ 1022) (hb1 : b ≤ 1) (hb2 : b2 ≤ 1) (hne : la ≠ la2) (hne0 : h ≠ h2) (ha9 : a9 < 6) : Met l yX1_makeFrom wsX1_makeFrom rm_X1_makeFrom (va_Pc [.ref h, .ref h2, .int (nI 2), .int (nI a9), .int l9, .int c9] (KW G B μ)) (va_Qv (fun μ2 => ∃ (g9 : Nat → Int64) (b9 : Nat), μ2 = mu (mu μ h (.inr (1, [.ref hn, .int (nI b9)]))) la (.inl (G.2 0, 158 * k + 158, .inr (.inl g9))) ∧ b9 ≤ 1 ∧ (k = 0 → ∃ f1 : Nat → Int64, (∀ j, j < 158 → f1 j = g j) ∧ RR (sc f1 a9 l9.toInt64 c9.toInt64) g9 b2 b9)) (BB G B) (fun q => B ≤ q)) 0 0 (fun q => B ≤ q) := by
  refine Met.ofW (cc := cX1_makeFrom) (maxL := 6) (ret := none) (by decide) rfl ?_
  intro p e s m args below meth c s₁ B9 hml hv
  obtain ⟨hargs, hBs, hP, hKK⟩ := hv
  have hx := B9.exec
  have hb := B9.bytes
  have hr := B9.returns
  have hts := atoms_spec (ws := wsX1_makeFrom) B9.pre
  have hown : s.vm.findClass RX1 = some m.cls := findClass_of_methodNamed B9.named
  have hlocks := B9.notSynchronized
  have hK := hKK.k
  have hS : va_S (fun q => B ≤ q) s.heap s.heap [] := va_S.rf
  obtain ⟨Q, hQ⟩ : ∃ Q, Q = MQ below (va_Qv (fun μ2 => ∃ (g9 : Nat → Int64) (b9 : Nat), μ2 = mu (mu μ h (.inr (1, [.ref hn, .int (nI b9)]))) la (.inl (G.2 0, 158 * k + 158, .inr (.inl g9))) ∧ b9 ≤ 1 ∧ (k = 0 → ∃ f1 : Nat → Int64, (∀ j, j < 158 → f1 j = g j) ∧ RR (sc f1 a9 l9.toInt64 c9.toInt64) g9 b2 b9)) (BB G B) (fun q => B ≤ q)) args s 0 0 (fun q => B ≤ q) := ⟨_, rfl⟩
  rw [← hQ]
  have ne0_1 : h ≠ hn := mp_ne hh hhn (by simp)
  have ne0_2 : h ≠ la := mp_ne hh ha (by simp)
  have ne0_4 : h ≠ hn2 := mp_ne hh hhn2 (by simp)
  have ne0_5 : h ≠ la2 := mp_ne hh ha2 (by simp)
  have ne1_2 : hn ≠ la := mp_ne hhn ha (by simp)
  have ne1_3 : hn ≠ h2 := mp_ne hhn hh2 (by simp)
  have ne1_5 : hn ≠ la2 := mp_ne hhn ha2 (by simp)
  have ne2_3 : la ≠ h2 := mp_ne ha hh2 (by simp)
  have ne2_4 : la ≠ hn2 := mp_ne ha hhn2 (by simp)
  have ne3_4 : h2 ≠ hn2 := mp_ne hh2 hhn2 (by simp)
  have ne3_5 : h2 ≠ la2 := mp_ne hh2 ha2 (by simp)
  have ne4_5 : hn2 ≠ la2 := mp_ne hhn2 ha2 (by simp)
  have hP : mw G.1 vwCl B (mu (mu μ h (.inr (1, [.ref hn, .int (nI b)]))) la (.inl (G.2 0, 158 * k + 158, .inr (.inl f)))) s.heap := mw_eq ((congrArg (fun z => mu z la (.inl (G.2 0, 158 * k + 158, .inr (.inl f)))) (mu_i hh)).trans (mu_i ha)).symm hP
  have hl := lv_entry ([.ref h, .ref h2, .int (nI 2), .int (nI a9), .int l9, .int c9]) (n := 6) (Nat.le_of_ble_eq_true rfl)
  have he9 : entryFrame m args 6 = entryFrame m ([.ref h, .ref h2, .int (nI 2), .int (nI a9), .int l9, .int c9] : List Value).toArray 6 := by rw [hargs]
  rw [he9, lg_entry_eq]
  generalize (lg_sl ([.ref h, .ref h2, .int (nI 2), .int (nI a9), .int l9, .int c9]) ++ List.replicate (6 - (lg_sl ([.ref h, .ref h2, .int (nI 2), .int (nI a9), .int l9, .int c9])).length) Slot.unset).toArray = ls at hl ⊢
  have hl : lv_has ls 6 [(0, .ref h), (1, .ref h2), (2, .int (nI 2)), (3, .int (nI a9)), (4, .int l9), (5, .int c9)] := hl
  refine lv_iload_n hx hb dX1_makeFrom_0 rfl (lv_at hl 2 rfl) ?_
  refine lv_iconst (v := nI 1) hx hb dX1_makeFrom_1 (by decide) ?_
  refine nv_icmp_ne (tgt := 16) hx hb (by omega) (by omega) dX1_makeFrom_2 (by decide) (fun hc2 => ?_) (fun hc2 => ?_)
  · refine lv_aload_n hx hb dX1_makeFrom_16 rfl (lv_at hl 0 rfl) ?_
    refine lv_aload_n hx hb dX1_makeFrom_17 rfl (lv_at hl 1 rfl) ?_
    refine kc_v (va_runV (As := [.ref h2]) (rest := []) ⟨hx, hb, hml, hown, hts⟩ (c_X1_takeOver l G B (mu (mu μ h (.inr (1, [.ref hn, .int (nI b)]))) la (.inl (G.2 0, 158 * k + 158, .inr (.inl f)))) h hn la k b f h2 hn2 la2 b2 g  ((mu_n ne0_2).trans (mu_s _ _ _)) ((mu_n ne1_2).trans ((mu_n ((Ne.symm ne0_1))).trans (hhn))) (mu_s _ _ _) ((mu_n ((Ne.symm ne2_3))).trans ((mu_n ((Ne.symm hne0))).trans (hh2))) ((mu_n ((Ne.symm ne2_4))).trans ((mu_n ((Ne.symm ne0_4))).trans (hhn2))) ((mu_n ((Ne.symm hne))).trans ((mu_n ((Ne.symm ne0_5))).trans (ha2))) (by omega) (by omega)) (cwV 1 hts gX1_makeFrom_X1_takeOver rfl rfl rfl (by decide +kernel) ⟨Nat.le_of_ble_eq_true rfl, Nat.le_of_ble_eq_true rfl⟩) ⟨KW.blind, hP.recv hK rfl ((mu_n ne0_2).trans (mu_s _ _ _)), fun U9 hU9 hW9 => ⟨rfl, KW.pre hBs hKK hS hP U9 hU9 hW9⟩⟩ rfl rfl hl.1 rfl (lv_room (Nat.le_of_ble_eq_true rfl)) dX1_makeFrom_18 ⟨Nat.le_of_ble_eq_true rfl, Nat.le_of_ble_eq_true rfl⟩) hS (fun m18 H locs hq9 hP hz9 hS => ?_)
    obtain ⟨g18, rfl, hg18⟩ := hq9
    have hP : mw G.1 vwCl B (mu (mu μ h (.inr (1, [.ref hn, .int (nI b2)]))) la (.inl (G.2 0, 158 * k + 158, .inr (.inl g18)))) _ := mw_eq ((congrArg (fun z => mu z h (.inr (1, [.ref hn, .int (nI b2)]))) (mu_u _ _ _ _)).trans ((mu_c _ _ ((Ne.symm ne0_2))).trans (congrArg (fun z => mu z la (.inl (G.2 0, 158 * k + 158, .inr (.inl g18)))) (mu_u _ _ _ _)))) hP
    refine lv_iload_n hx hb dX1_makeFrom_21 rfl (lv_at hl 2 rfl) ?_
    refine lv_if_ne (tgt := 62) hx hb dX1_makeFrom_22 (by decide) (fun hc22 => ?_) (fun hc22 => ?_)
    · refine lv_aload_n hx hb dX1_makeFrom_62 rfl (lv_at hl 0 rfl) ?_
      refine lv_iload_n hx hb dX1_makeFrom_63 rfl (lv_at hl 3 rfl) ?_
      refine lv_iload hx hb dX1_makeFrom_64 (lv_at hl 4 rfl) ?_
      refine lv_i2l (v := l9.toInt64) hx hb dX1_makeFrom_66 rfl ?_
      refine lv_iload hx hb dX1_makeFrom_67 (lv_at hl 5 rfl) ?_
      refine lv_i2l (v := c9.toInt64) hx hb dX1_makeFrom_69 rfl ?_
      refine kc_v (va_runV (As := [.int (nI a9), .long l9.toInt64, .long c9.toInt64]) (rest := []) ⟨hx, hb, hml, hown, hts⟩ (c_X1_scatter l G B (mu (mu μ h (.inr (1, [.ref hn, .int (nI b2)]))) la (.inl (G.2 0, 158 * k + 158, .inr (.inl g18)))) h hn la k b2 g18 a9 l9.toInt64 c9.toInt64 ((mu_n ne0_2).trans (mu_s _ _ _)) ((mu_n ne1_2).trans ((mu_n ((Ne.symm ne0_1))).trans (hhn))) (mu_s _ _ _) (by omega) (by omega) (by omega)) (cwV 3 hts gX1_makeFrom_X1_scatter rfl rfl rfl (by decide +kernel) ⟨Nat.le_of_ble_eq_true rfl, Nat.le_of_ble_eq_true rfl⟩) ⟨KW.blind, hP.recv hK rfl ((mu_n ne0_2).trans (mu_s _ _ _)), fun U9 hU9 hW9 => ⟨rfl, KW.pre hBs hKK hS hP U9 hU9 hW9⟩⟩ rfl rfl hl.1 rfl (lv_room (Nat.le_of_ble_eq_true rfl)) dX1_makeFrom_70 ⟨Nat.le_of_ble_eq_true rfl, Nat.le_of_ble_eq_true rfl⟩) hS (fun m70 H locs hq9 hP hz9 hS => ?_)
      obtain ⟨g70, b70, rfl, hb70, hg70⟩ := hq9
      have hP : mw G.1 vwCl B (mu (mu μ h (.inr (1, [.ref hn, .int (nI b70)]))) la (.inl (G.2 0, 158 * k + 158, .inr (.inl g70)))) _ := mw_eq ((congrArg (fun z => mu z la (.inl (G.2 0, 158 * k + 158, .inr (.inl g70)))) ((mu_c _ _ ((Ne.symm ne0_2))).trans (congrArg (fun z => mu z la (.inl (G.2 0, 158 * k + 158, .inr (.inl g18)))) (mu_u _ _ _ _)))).trans (mu_u _ _ _ _)) hP
      rw [hQ]
      exact W.vret hx hb hr (fun t99 ht99 hW99 => ⟨⟨mu (mu μ h (.inr (1, [.ref hn, .int (nI b70)]))) la (.inl (G.2 0, 158 * k + 158, .inr (.inl g70))), rfl, (⟨_, _, rfl, hb70, fun h0 => ⟨g18, fun j hj => hg18 j (by omega), hg70 h0⟩⟩), by show mw _ _ _ _ t99.heap; rw [ht99]; exact hP⟩, hS.F ht99⟩) hS.2.2 dX1_makeFrom_73
    · exact absurd hc22 (by decide)
  · exact absurd hc2 (by omega)

abbrev rm_X1_close : Room := { frames := 3, cells := 0, slots := 0, locals := 73 }
set_option maxHeartbeats 4000000 in
set_option maxRecDepth 100000 in
theorem c_X1_close (l : Launch) (G : GG) (B : Nat) (μ : mp) (h hn la k b : Nat) (f : Nat → Int64) (hh : μ h = some (.inr (1, [.ref hn, .int (nI b)]))) (hhn : μ hn = some (.inr (0, [.int (nI 158), .int (nI 157), .ref la, .int (nI (158 * k))]))) (ha : μ la = some (.inl (G.2 0, 158 * k + 158, .inr (.inl f)))) (hk : k ≤ 1022) (hb1 : b ≤ 1) : Met l yX1_close wsX1_close rm_X1_close (va_Pc [.ref h] (KW G B μ)) (va_Qv (fun μ2 => ∃ (g9 : Nat → Int64) (b9 : Nat), μ2 = mu (mu μ h (.inr (1, [.ref hn, .int (nI b9)]))) la (.inl (G.2 0, 158 * k + 158, .inr (.inl g9))) ∧ b9 ≤ 1 ∧ (k = 0 → RR f g9 b b9)) (BB G B) (fun q => B ≤ q)) 0 0 (fun q => B ≤ q) := by
  refine Met.ofW (cc := cX1_close) (maxL := 4) (ret := none) (by decide) rfl ?_
  intro p e s m args below meth c s₁ B9 hml hv
  obtain ⟨hargs, hBs, hP, hKK⟩ := hv
  have hx := B9.exec
  have hb := B9.bytes
  have hr := B9.returns
  have hts := atoms_spec (ws := wsX1_close) B9.pre
  have hown : s.vm.findClass RX1 = some m.cls := findClass_of_methodNamed B9.named
  have hlocks := B9.notSynchronized
  have hK := hKK.k
  have hS : va_S (fun q => B ≤ q) s.heap s.heap [] := va_S.rf
  obtain ⟨Q, hQ⟩ : ∃ Q, Q = MQ below (va_Qv (fun μ2 => ∃ (g9 : Nat → Int64) (b9 : Nat), μ2 = mu (mu μ h (.inr (1, [.ref hn, .int (nI b9)]))) la (.inl (G.2 0, 158 * k + 158, .inr (.inl g9))) ∧ b9 ≤ 1 ∧ (k = 0 → RR f g9 b b9)) (BB G B) (fun q => B ≤ q)) args s 0 0 (fun q => B ≤ q) := ⟨_, rfl⟩
  rw [← hQ]
  have ne0_1 : h ≠ hn := mp_ne hh hhn (by simp)
  have ne0_2 : h ≠ la := mp_ne hh ha (by simp)
  have ne1_2 : hn ≠ la := mp_ne hhn ha (by simp)
  have in_X1_close_X1 : ∀ w ∈ wsX10, w ∈ wsX1_close := by decide +kernel
  have hP : mw G.1 vwCl B (mu (mu μ h (.inr (1, [.ref hn, .int (nI b)]))) la (.inl (G.2 0, 158 * k + 158, .inr (.inl f)))) s.heap := mw_eq ((congrArg (fun z => mu z la (.inl (G.2 0, 158 * k + 158, .inr (.inl f)))) (mu_i hh)).trans (mu_i ha)).symm hP
  have L2 : ∀ (N2 : Nat) (r1 : Nat) (g1 : Nat → Int64) (b1 : Nat) (hN2 : 12 - r1 < N2) (hrr : r1 ≤ 12) (hbb : b1 ≤ 1) (hz : k = 0 → RR f g1 b b1), ∀ (H : Heap) (locs : List Loc), mw G.1 vwCl B (mu (mu μ h (.inr (1, [.ref hn, .int (nI b1)]))) la (.inl (G.2 0, 158 * k + 158, .inr (.inl g1)))) H → va_S (fun q => B ≤ q) s.heap H locs → ∀ ls : Array Slot, lv_has ls 4 [(0, .ref h), (1, .int (nI r1))] → W p l e rm_X1_close s m args below meth c H locs 0 0 Q (F0 m 2 ls []) := by
    intro N2
    induction N2 with
    | zero => intro r1 g1 b1 hN2; exact absurd hN2 (Nat.not_lt_zero _)
    | succ N2 ih2 =>
      intro r1 g1 b1 hN2 hrr hbb hz H locs hP hS ls hl
      have L17 : ∀ (N17 : Nat) (p1 : Nat) (g1 : Nat → Int64) (hN17 : 12 - p1 < N17) (hpo : r1 < 12) (hp : p1 ≤ 12) (hz : k = 0 → RR f g1 b b1), ∀ (H : Heap) (locs : List Loc), mw G.1 vwCl B (mu (mu μ h (.inr (1, [.ref hn, .int (nI b1)]))) la (.inl (G.2 0, 158 * k + 158, .inr (.inl g1)))) H → va_S (fun q => B ≤ q) s.heap H locs → ∀ ls : Array Slot, lv_has ls 4 [(0, .ref h), (1, .int (nI r1)), (2, .int (nI p1))] → W p l e rm_X1_close s m args below meth c H locs 0 0 Q (F0 m 17 ls []) := by
        intro N17
        induction N17 with
        | zero => intro p1 g1 hN17; exact absurd hN17 (Nat.not_lt_zero _)
        | succ N17 ih17 =>
          intro p1 g1 hN17 hpo hp hz H locs hP hS ls hl
          have L25 : ∀ (N25 : Nat) (q1 : Nat) (g1 : Nat → Int64) (hN25 : 12 - q1 < N25) (hpo : p1 < 12 ∧ r1 < 12) (hq : q1 ≤ 12) (hz : k = 0 → RR f g1 b b1), ∀ (H : Heap) (locs : List Loc), mw G.1 vwCl B (mu (mu μ h (.inr (1, [.ref hn, .int (nI b1)]))) la (.inl (G.2 0, 158 * k + 158, .inr (.inl g1)))) H → va_S (fun q => B ≤ q) s.heap H locs → ∀ ls : Array Slot, lv_has ls 4 [(0, .ref h), (1, .int (nI r1)), (2, .int (nI p1)), (3, .int (nI q1))] → W p l e rm_X1_close s m args below meth c H locs 0 0 Q (F0 m 25 ls []) := by
            intro N25
            induction N25 with
            | zero => intro q1 g1 hN25; exact absurd hN25 (Nat.not_lt_zero _)
            | succ N25 ih25 =>
              intro q1 g1 hN25 hpo hq hz H locs hP hS ls hl
              refine lv_iload_n hx hb dX1_close_25 rfl (lv_at hl 3 rfl) ?_
              refine lv_bipush (v := nI 12) hx hb dX1_close_26 (by decide) ?_
              refine nv_icmp_ge (tgt := 77) hx hb (by omega) (by omega) dX1_close_28 (by decide) (fun hc28 => ?_) (fun hc28 => ?_)
              · refine lv_iinc (v := nI (p1 + 1)) (lv' := [(2, .int (nI (p1 + 1))), (0, .ref h), (1, .int (nI r1)), (3, .int (nI q1))]) hx hb dX1_close_77 hl (k := 2) rfl (nI_add _ _) (by decide) rfl (fun ls hl => ?_)
                refine lv_goto (tgt := 17) hx hb dX1_close_80 (by decide) ?_
                exact ih17 (p1 + 1) g1 (by omega) (by omega) (by omega) (hz) _ _ hP hS ls (lv_sub hl [1, 2, 0] rfl)
              · refine lv_aload_n hx hb dX1_close_31 rfl (lv_at hl 0 rfl) ?_
                refine mw_get (C := RX1) (T := TX1) (N := 2) hx hb hts in_X1_close_X1 hown hK hP ((mu_n ne0_2).trans (mu_s _ _ _)) rfl 0 (by decide) (hts (.fieldLink RX1 16 "OctagonDesk$Shape" "numbers" "LOctagonDesk$Numbers;") (by decide +kernel)) (fun _ h9 => h9) rfl dX1_close_32 ?_
                refine lv_iload_n hx hb dX1_close_35 rfl (lv_at hl 2 rfl) ?_
                refine lv_iload_n hx hb dX1_close_36 rfl (lv_at hl 1 rfl) ?_
                refine kc_i (va_runS (As := [.int (nI p1), .int (nI r1)]) (rest := [.ref hn]) ⟨hx, hb, hml, hown, hts⟩ (c_X1_cell l G B (mu (mu μ h (.inr (1, [.ref hn, .int (nI b1)]))) la (.inl (G.2 0, 158 * k + 158, .inr (.inl g1)))) p1 r1) (va_cwS 2 hts gX1_close_X1_cell rfl rfl rfl (by decide +kernel) ⟨Nat.le_of_ble_eq_true rfl, Nat.le_of_ble_eq_true rfl⟩) ⟨KW.blind, fun U9 hU9 hW9 => ⟨rfl, KW.pre hBs hKK hS hP U9 hU9 hW9⟩⟩ rfl rfl hl.1 rfl (lv_room (Nat.le_of_ble_eq_true rfl)) dX1_close_37 ⟨Nat.le_of_ble_eq_true rfl, Nat.le_of_ble_eq_true rfl⟩) hS (fun r37 m37 H locs hq9 hP hz9 hS => ?_)
                obtain ⟨he9, rfl⟩ := hq9
                rw [he9] at hP
                refine kc_i (va_runV (As := [.int (nI (p1 * 12 + r1))]) (rest := []) ⟨hx, hb, hml, hown, hts⟩ (c_X0_isInfinite l G B (mu (mu μ h (.inr (1, [.ref hn, .int (nI b1)]))) la (.inl (G.2 0, 158 * k + 158, .inr (.inl g1)))) hn la k g1 (p1 * 12 + r1) ((mu_n ne1_2).trans ((mu_n ((Ne.symm ne0_1))).trans (hhn))) (mu_s _ _ _) (by omega) (by omega)) (cwV 1 hts gX1_close_X0_isInfinite rfl rfl rfl (by decide +kernel) ⟨Nat.le_of_ble_eq_true rfl, Nat.le_of_ble_eq_true rfl⟩) ⟨KW.blind, hP.recv hK rfl ((mu_n ne1_2).trans ((mu_n ((Ne.symm ne0_1))).trans (hhn))), fun U9 hU9 hW9 => ⟨rfl, KW.pre hBs hKK hS hP U9 hU9 hW9⟩⟩ rfl rfl hl.1 rfl (lv_room (Nat.le_of_ble_eq_true rfl)) dX1_close_40 ⟨Nat.le_of_ble_eq_true rfl, Nat.le_of_ble_eq_true rfl⟩) hS (fun r40 m40 H locs hq9 hP hz9 hS => ?_)
                obtain ⟨he9, hr40⟩ := hq9
                rw [he9] at hP
                refine lv_if_ne (tgt := 77) hx hb dX1_close_43 (by decide) (fun hc43 => ?_) (fun hc43 => ?_)
                · refine lv_iinc (v := nI (p1 + 1)) (lv' := [(2, .int (nI (p1 + 1))), (0, .ref h), (1, .int (nI r1)), (3, .int (nI q1))]) hx hb dX1_close_77 hl (k := 2) rfl (nI_add _ _) (by decide) rfl (fun ls hl => ?_)
                  refine lv_goto (tgt := 17) hx hb dX1_close_80 (by decide) ?_
                  exact ih17 (p1 + 1) g1 (by omega) (by omega) (by omega) (hz) _ _ hP hS ls (lv_sub hl [1, 2, 0] rfl)
                · refine lv_aload_n hx hb dX1_close_46 rfl (lv_at hl 0 rfl) ?_
                  refine mw_get (C := RX1) (T := TX1) (N := 2) hx hb hts in_X1_close_X1 hown hK hP ((mu_n ne0_2).trans (mu_s _ _ _)) rfl 0 (by decide) (hts (.fieldLink RX1 16 "OctagonDesk$Shape" "numbers" "LOctagonDesk$Numbers;") (by decide +kernel)) (fun _ h9 => h9) rfl dX1_close_47 ?_
                  refine lv_iload_n hx hb dX1_close_50 rfl (lv_at hl 2 rfl) ?_
                  refine lv_iload_n hx hb dX1_close_51 rfl (lv_at hl 3 rfl) ?_
                  refine kc_i (va_runS (As := [.int (nI p1), .int (nI q1)]) (rest := [.ref hn]) ⟨hx, hb, hml, hown, hts⟩ (c_X1_cell l G B (mu (mu μ h (.inr (1, [.ref hn, .int (nI b1)]))) la (.inl (G.2 0, 158 * k + 158, .inr (.inl g1)))) p1 q1) (va_cwS 2 hts gX1_close_X1_cell rfl rfl rfl (by decide +kernel) ⟨Nat.le_of_ble_eq_true rfl, Nat.le_of_ble_eq_true rfl⟩) ⟨KW.blind, fun U9 hU9 hW9 => ⟨rfl, KW.pre hBs hKK hS hP U9 hU9 hW9⟩⟩ rfl rfl hl.1 rfl (lv_room (Nat.le_of_ble_eq_true rfl)) dX1_close_52 ⟨Nat.le_of_ble_eq_true rfl, Nat.le_of_ble_eq_true rfl⟩) hS (fun r52 m52 H locs hq9 hP hz9 hS => ?_)
                  obtain ⟨he9, rfl⟩ := hq9
                  rw [he9] at hP
                  refine lv_iload_n hx hb dX1_close_55 rfl (lv_at hl 2 rfl) ?_
                  refine lv_iload_n hx hb dX1_close_56 rfl (lv_at hl 1 rfl) ?_
                  refine kc_i (va_runS (As := [.int (nI p1), .int (nI r1)]) (rest := [.int (nI (p1 * 12 + q1)), .ref hn]) ⟨hx, hb, hml, hown, hts⟩ (c_X1_cell l G B (mu (mu μ h (.inr (1, [.ref hn, .int (nI b1)]))) la (.inl (G.2 0, 158 * k + 158, .inr (.inl g1)))) p1 r1) (va_cwS 2 hts gX1_close_X1_cell rfl rfl rfl (by decide +kernel) ⟨Nat.le_of_ble_eq_true rfl, Nat.le_of_ble_eq_true rfl⟩) ⟨KW.blind, fun U9 hU9 hW9 => ⟨rfl, KW.pre hBs hKK hS hP U9 hU9 hW9⟩⟩ rfl rfl hl.1 rfl (lv_room (Nat.le_of_ble_eq_true rfl)) dX1_close_57 ⟨Nat.le_of_ble_eq_true rfl, Nat.le_of_ble_eq_true rfl⟩) hS (fun r57 m57 H locs hq9 hP hz9 hS => ?_)
                  obtain ⟨he9, rfl⟩ := hq9
                  rw [he9] at hP
                  refine lv_iload_n hx hb dX1_close_60 rfl (lv_at hl 1 rfl) ?_
                  refine kc_i (va_runSN (As := [.int (nI r1)]) (rest := [.int (nI (p1 * 12 + r1)), .int (nI (p1 * 12 + q1)), .ref hn]) ⟨hx, hb, hml, hown, hts⟩ (c_X3_negation l G B (mu (mu μ h (.inr (1, [.ref hn, .int (nI b1)]))) la (.inl (G.2 0, 158 * k + 158, .inr (.inl g1)))) r1 (by omega)) ⟨va_cnB 1 hts gX1_close_X3_negation_n82 rfl rfl rfl hKK.2.1.1 (hts (.initialized RX3) (by decide +kernel)) (by decide +kernel) ⟨Nat.le_of_ble_eq_true rfl, Nat.le_of_ble_eq_true rfl⟩, hts (.static yX3_negation) (by decide +kernel), trivial⟩ ⟨KW.blind, fun U9 hU9 hW9 => ⟨rfl, KW.pre hBs hKK hS hP U9 hU9 hW9⟩⟩ rfl rfl hl.1 rfl (lv_room (Nat.le_of_ble_eq_true rfl)) dX1_close_61 ⟨Nat.le_of_ble_eq_true rfl, Nat.le_of_ble_eq_true rfl⟩) hS (fun r61 m61 H locs hq9 hP hz9 hS => ?_)
                  obtain ⟨he9, rfl⟩ := hq9
                  rw [he9] at hP
                  have hne61 := ne_lt (p := r1) (by omega)
                  refine lv_iload_n hx hb dX1_close_64 rfl (lv_at hl 3 rfl) ?_
                  refine kc_i (va_runS (As := [.int (nI (ne r1)), .int (nI q1)]) (rest := [.int (nI (p1 * 12 + r1)), .int (nI (p1 * 12 + q1)), .ref hn]) ⟨hx, hb, hml, hown, hts⟩ (c_X1_cell l G B (mu (mu μ h (.inr (1, [.ref hn, .int (nI b1)]))) la (.inl (G.2 0, 158 * k + 158, .inr (.inl g1)))) (ne r1) q1) (va_cwS 2 hts gX1_close_X1_cell rfl rfl rfl (by decide +kernel) ⟨Nat.le_of_ble_eq_true rfl, Nat.le_of_ble_eq_true rfl⟩) ⟨KW.blind, fun U9 hU9 hW9 => ⟨rfl, KW.pre hBs hKK hS hP U9 hU9 hW9⟩⟩ rfl rfl hl.1 rfl (lv_room (Nat.le_of_ble_eq_true rfl)) dX1_close_65 ⟨Nat.le_of_ble_eq_true rfl, Nat.le_of_ble_eq_true rfl⟩) hS (fun r65 m65 H locs hq9 hP hz9 hS => ?_)
                  obtain ⟨he9, rfl⟩ := hq9
                  rw [he9] at hP
                  refine kc_v (va_runV (As := [.int (nI (p1 * 12 + q1)), .int (nI (p1 * 12 + r1)), .int (nI ((ne r1) * 12 + q1))]) (rest := []) ⟨hx, hb, hml, hown, hts⟩ (c_X0_lower l G B (mu (mu μ h (.inr (1, [.ref hn, .int (nI b1)]))) la (.inl (G.2 0, 158 * k + 158, .inr (.inl g1)))) hn la k g1 (p1 * 12 + q1) (p1 * 12 + r1) ((ne r1) * 12 + q1) ((mu_n ne1_2).trans ((mu_n ((Ne.symm ne0_1))).trans (hhn))) (mu_s _ _ _) (by omega) (by omega) (by omega) (by omega)) (cwV 3 hts gX1_close_X0_lower rfl rfl rfl (by decide +kernel) ⟨Nat.le_of_ble_eq_true rfl, Nat.le_of_ble_eq_true rfl⟩) ⟨KW.blind, hP.recv hK rfl ((mu_n ne1_2).trans ((mu_n ((Ne.symm ne0_1))).trans (hhn))), fun U9 hU9 hW9 => ⟨rfl, KW.pre hBs hKK hS hP U9 hU9 hW9⟩⟩ rfl rfl hl.1 rfl (lv_room (Nat.le_of_ble_eq_true rfl)) dX1_close_68 ⟨Nat.le_of_ble_eq_true rfl, Nat.le_of_ble_eq_true rfl⟩) hS (fun m68 H locs hq9 hP hz9 hS => ?_)
                  obtain ⟨g68, rfl, hg68⟩ := hq9
                  have hP : mw G.1 vwCl B (mu (mu μ h (.inr (1, [.ref hn, .int (nI b1)]))) la (.inl (G.2 0, 158 * k + 158, .inr (.inl g68)))) _ := mw_eq (mu_u _ _ _ _) hP
                  refine lv_iinc (v := nI (q1 + 1)) (lv' := [(3, .int (nI (q1 + 1))), (0, .ref h), (1, .int (nI r1)), (2, .int (nI p1))]) hx hb dX1_close_71 hl (k := 3) rfl (nI_add _ _) (by decide) rfl (fun ls hl => ?_)
                  refine lv_goto (tgt := 25) hx hb dX1_close_74 (by decide) ?_
                  exact ih25 (q1 + 1) g68 (by omega) (by omega) (by omega) (fun h0 => by rw [hg68 h0]; exact cl_2 (by omega) (by omega) (by omega) (hz h0)) _ _ hP hS ls (lv_sub hl [1, 2, 3, 0] rfl)
          refine lv_iload_n hx hb dX1_close_17 rfl (lv_at hl 2 rfl) ?_
          refine lv_bipush (v := nI 12) hx hb dX1_close_18 (by decide) ?_
          refine nv_icmp_ge (tgt := 83) hx hb (by omega) (by omega) dX1_close_20 (by decide) (fun hc20 => ?_) (fun hc20 => ?_)
          · refine lv_aload_n hx hb dX1_close_83 rfl (lv_at hl 0 rfl) ?_
            refine kc_v (va_runV (As := []) (rest := []) ⟨hx, hb, hml, hown, hts⟩ (c_X1_findContradiction l G B (mu (mu μ h (.inr (1, [.ref hn, .int (nI b1)]))) la (.inl (G.2 0, 158 * k + 158, .inr (.inl g1)))) h hn la k b1 g1  ((mu_n ne0_2).trans (mu_s _ _ _)) ((mu_n ne1_2).trans ((mu_n ((Ne.symm ne0_1))).trans (hhn))) (mu_s _ _ _) (by omega) (by omega)) (cwV 0 hts gX1_close_X1_findContradiction rfl rfl rfl (by decide +kernel) ⟨Nat.le_of_ble_eq_true rfl, Nat.le_of_ble_eq_true rfl⟩) ⟨KW.blind, hP.recv hK rfl ((mu_n ne0_2).trans (mu_s _ _ _)), fun U9 hU9 hW9 => ⟨rfl, KW.pre hBs hKK hS hP U9 hU9 hW9⟩⟩ rfl rfl hl.1 rfl (lv_room (Nat.le_of_ble_eq_true rfl)) dX1_close_84 ⟨Nat.le_of_ble_eq_true rfl, Nat.le_of_ble_eq_true rfl⟩) hS (fun m84 H locs hq9 hP hz9 hS => ?_)
            obtain ⟨b84, rfl, hb84, hg84⟩ := hq9
            have hP : mw G.1 vwCl B (mu (mu μ h (.inr (1, [.ref hn, .int (nI b84)]))) la (.inl (G.2 0, 158 * k + 158, .inr (.inl g1)))) _ := mw_eq ((mu_c _ _ ((Ne.symm ne0_2))).trans (congrArg (fun z => mu z la (.inl (G.2 0, 158 * k + 158, .inr (.inl g1)))) (mu_u _ _ _ _))) hP
            refine lv_iinc (v := nI (r1 + 1)) (lv' := [(1, .int (nI (r1 + 1))), (0, .ref h), (2, .int (nI p1))]) hx hb dX1_close_87 hl (k := 1) rfl (nI_add _ _) (by decide) rfl (fun ls hl => ?_)
            refine lv_goto (tgt := 2) hx hb dX1_close_90 (by decide) ?_
            exact ih2 (r1 + 1) g1 b84 (by omega) (by omega) (by omega) (fun h0 => (hz h0).fc2 (hg84 h0)) _ _ hP hS ls (lv_sub hl [1, 0] rfl)
          · refine lv_iconst (v := nI 0) hx hb dX1_close_23 (by decide) ?_
            refine lv_istore_n (lv' := [(3, .int (nI 0)), (0, .ref h), (1, .int (nI r1)), (2, .int (nI p1))]) hx hb dX1_close_24 rfl hl (by decide) rfl (fun ls hl => ?_)
            exact L25 _ 0 g1 (Nat.lt_succ_self _) (by omega) (by omega) (hz) _ _ hP hS ls (lv_sub hl [1, 2, 3, 0] rfl)
      refine lv_iload_n hx hb dX1_close_2 rfl (lv_at hl 1 rfl) ?_
      refine lv_bipush (v := nI 12) hx hb dX1_close_3 (by decide) ?_
      refine nv_icmp_ge (tgt := 93) hx hb (by omega) (by omega) dX1_close_5 (by decide) (fun hc5 => ?_) (fun hc5 => ?_)
      · refine lv_aload_n hx hb dX1_close_93 rfl (lv_at hl 0 rfl) ?_
        refine kc_v (va_runV (As := []) (rest := []) ⟨hx, hb, hml, hown, hts⟩ (c_X1_combineSingles l G B (mu (mu μ h (.inr (1, [.ref hn, .int (nI b1)]))) la (.inl (G.2 0, 158 * k + 158, .inr (.inl g1)))) h hn la k b1 g1  ((mu_n ne0_2).trans (mu_s _ _ _)) ((mu_n ne1_2).trans ((mu_n ((Ne.symm ne0_1))).trans (hhn))) (mu_s _ _ _) (by omega) (by omega)) (cwV 0 hts gX1_close_X1_combineSingles rfl rfl rfl (by decide +kernel) ⟨Nat.le_of_ble_eq_true rfl, Nat.le_of_ble_eq_true rfl⟩) ⟨KW.blind, hP.recv hK rfl ((mu_n ne0_2).trans (mu_s _ _ _)), fun U9 hU9 hW9 => ⟨rfl, KW.pre hBs hKK hS hP U9 hU9 hW9⟩⟩ rfl rfl hl.1 rfl (lv_room (Nat.le_of_ble_eq_true rfl)) dX1_close_94 ⟨Nat.le_of_ble_eq_true rfl, Nat.le_of_ble_eq_true rfl⟩) hS (fun m94 H locs hq9 hP hz9 hS => ?_)
        obtain ⟨g94, b94, rfl, hb94, hg94⟩ := hq9
        have hP : mw G.1 vwCl B (mu (mu μ h (.inr (1, [.ref hn, .int (nI b94)]))) la (.inl (G.2 0, 158 * k + 158, .inr (.inl g94)))) _ := mw_eq ((congrArg (fun z => mu z la (.inl (G.2 0, 158 * k + 158, .inr (.inl g94)))) ((mu_c _ _ ((Ne.symm ne0_2))).trans (congrArg (fun z => mu z la (.inl (G.2 0, 158 * k + 158, .inr (.inl g1)))) (mu_u _ _ _ _)))).trans (mu_u _ _ _ _)) hP
        rw [hQ]
        exact W.vret hx hb hr (fun t99 ht99 hW99 => ⟨⟨mu (mu μ h (.inr (1, [.ref hn, .int (nI b94)]))) la (.inl (G.2 0, 158 * k + 158, .inr (.inl g94))), rfl, (⟨_, _, rfl, hb94, fun h0 => (hz h0).tr (hg94 h0).1⟩), by show mw _ _ _ _ t99.heap; rw [ht99]; exact hP⟩, hS.F ht99⟩) hS.2.2 dX1_close_97
      · refine lv_aload_n hx hb dX1_close_8 rfl (lv_at hl 0 rfl) ?_
        refine mw_get (C := RX1) (T := TX1) (N := 2) hx hb hts in_X1_close_X1 hown hK hP ((mu_n ne0_2).trans (mu_s _ _ _)) rfl 1 (by decide) (hts (.fieldLink RX1 20 "OctagonDesk$Shape" "empty" "Z") (by decide +kernel)) (fun _ h9 => h9) rfl dX1_close_9 ?_
        refine lv_if_ne (tgt := 93) hx hb dX1_close_12 (by decide) (fun hc12 => ?_) (fun hc12 => ?_)
        · refine lv_aload_n hx hb dX1_close_93 rfl (lv_at hl 0 rfl) ?_
          refine kc_v (va_runV (As := []) (rest := []) ⟨hx, hb, hml, hown, hts⟩ (c_X1_combineSingles l G B (mu (mu μ h (.inr (1, [.ref hn, .int (nI b1)]))) la (.inl (G.2 0, 158 * k + 158, .inr (.inl g1)))) h hn la k b1 g1  ((mu_n ne0_2).trans (mu_s _ _ _)) ((mu_n ne1_2).trans ((mu_n ((Ne.symm ne0_1))).trans (hhn))) (mu_s _ _ _) (by omega) (by omega)) (cwV 0 hts gX1_close_X1_combineSingles rfl rfl rfl (by decide +kernel) ⟨Nat.le_of_ble_eq_true rfl, Nat.le_of_ble_eq_true rfl⟩) ⟨KW.blind, hP.recv hK rfl ((mu_n ne0_2).trans (mu_s _ _ _)), fun U9 hU9 hW9 => ⟨rfl, KW.pre hBs hKK hS hP U9 hU9 hW9⟩⟩ rfl rfl hl.1 rfl (lv_room (Nat.le_of_ble_eq_true rfl)) dX1_close_94 ⟨Nat.le_of_ble_eq_true rfl, Nat.le_of_ble_eq_true rfl⟩) hS (fun m94 H locs hq9 hP hz9 hS => ?_)
          obtain ⟨g94, b94, rfl, hb94, hg94⟩ := hq9
          have hP : mw G.1 vwCl B (mu (mu μ h (.inr (1, [.ref hn, .int (nI b94)]))) la (.inl (G.2 0, 158 * k + 158, .inr (.inl g94)))) _ := mw_eq ((congrArg (fun z => mu z la (.inl (G.2 0, 158 * k + 158, .inr (.inl g94)))) ((mu_c _ _ ((Ne.symm ne0_2))).trans (congrArg (fun z => mu z la (.inl (G.2 0, 158 * k + 158, .inr (.inl g1)))) (mu_u _ _ _ _)))).trans (mu_u _ _ _ _)) hP
          rw [hQ]
          exact W.vret hx hb hr (fun t99 ht99 hW99 => ⟨⟨mu (mu μ h (.inr (1, [.ref hn, .int (nI b94)]))) la (.inl (G.2 0, 158 * k + 158, .inr (.inl g94))), rfl, (⟨_, _, rfl, hb94, fun h0 => (hz h0).tr (hg94 h0).1⟩), by show mw _ _ _ _ t99.heap; rw [ht99]; exact hP⟩, hS.F ht99⟩) hS.2.2 dX1_close_97
        · refine lv_iconst (v := nI 0) hx hb dX1_close_15 (by decide) ?_
          refine lv_istore_n (lv' := [(2, .int (nI 0)), (0, .ref h), (1, .int (nI r1))]) hx hb dX1_close_16 rfl hl (by decide) rfl (fun ls hl => ?_)
          exact L17 _ 0 g1 (Nat.lt_succ_self _) (by omega) (by omega) (hz) _ _ hP hS ls (lv_sub hl [1, 2, 0] rfl)
  have hl := lv_entry ([.ref h]) (n := 4) (Nat.le_of_ble_eq_true rfl)
  have he9 : entryFrame m args 4 = entryFrame m ([.ref h] : List Value).toArray 4 := by rw [hargs]
  rw [he9, lg_entry_eq]
  generalize (lg_sl ([.ref h]) ++ List.replicate (4 - (lg_sl ([.ref h])).length) Slot.unset).toArray = ls at hl ⊢
  have hl : lv_has ls 4 [(0, .ref h)] := hl
  refine lv_iconst (v := nI 0) hx hb dX1_close_0 (by decide) ?_
  refine lv_istore_n (lv' := [(1, .int (nI 0)), (0, .ref h)]) hx hb dX1_close_1 rfl hl (by decide) rfl (fun ls hl => ?_)
  exact L2 _ 0 f b (Nat.lt_succ_self _) (by omega) (by omega) (fun h0 => RR.rf f b) _ _ hP hS ls (lv_sub hl [1, 0] rfl)

abbrev rm_X1_cutTo : Room := { frames := 4, cells := 0, slots := 0, locals := 96 }
set_option maxHeartbeats 4000000 in
set_option maxRecDepth 100000 in
theorem c_X1_cutTo (l : Launch) (G : GG) (B : Nat) (μ : mp) (h hn la k b : Nat) (f : Nat → Int64) (h2 hn2 la2 b2 : Nat) (g : Nat → Int64) (hh : μ h = some (.inr (1, [.ref hn, .int (nI b)]))) (hhn : μ hn = some (.inr (0, [.int (nI 158), .int (nI 157), .ref la, .int (nI (158 * k))]))) (ha : μ la = some (.inl (G.2 0, 158 * k + 158, .inr (.inl f)))) (hh2 : μ h2 = some (.inr (1, [.ref hn2, .int (nI b2)]))) (hhn2 : μ hn2 = some (.inr (0, [.int (nI 158), .int (nI 157), .ref la2, .int (nI (158 * k))]))) (ha2 : μ la2 = some (.inl (G.2 0, 158 * k + 158, .inr (.inl g)))) (hk : k ≤ 1022) (hb1 : b ≤ 1) (hb2 : b2 ≤ 1) (hne : la ≠ la2) (hne0 : h ≠ h2) : Met l yX1_cutTo wsX1_cutTo rm_X1_cutTo (va_Pc [.ref h, .ref h2] (KW G B μ)) (va_Qv (fun μ2 => ∃ (g9 : Nat → Int64) (b9 : Nat), μ2 = mu (mu μ h (.inr (1, [.ref hn, .int (nI b9)]))) la (.inl (G.2 0, 158 * k + 158, .inr (.inl g9))) ∧ b9 ≤ 1 ∧ (k = 0 → b = 0 → b2 = 0 → (∀ c, c < 144 → ¬ g c < f c) → RR f g9 0 b9)) (BB G B) (fun q => B ≤ q)) 0 0 (fun q => B ≤ q) := by
  refine Met.ofW (cc := cX1_cutTo) (maxL := 3) (ret := none) (by decide) rfl ?_
  intro p e s m args below meth c s₁ B9 hml hv
  obtain ⟨hargs, hBs, hP, hKK⟩ := hv
  have hx := B9.exec
  have hb := B9.bytes
  have hr := B9.returns
  have hts := atoms_spec (ws := wsX1_cutTo) B9.pre
  have hown : s.vm.findClass RX1 = some m.cls := findClass_of_methodNamed B9.named
  have hlocks := B9.notSynchronized
  have hK := hKK.k
  have hS : va_S (fun q => B ≤ q) s.heap s.heap [] := va_S.rf
  obtain ⟨Q, hQ⟩ : ∃ Q, Q = MQ below (va_Qv (fun μ2 => ∃ (g9 : Nat → Int64) (b9 : Nat), μ2 = mu (mu μ h (.inr (1, [.ref hn, .int (nI b9)]))) la (.inl (G.2 0, 158 * k + 158, .inr (.inl g9))) ∧ b9 ≤ 1 ∧ (k = 0 → b = 0 → b2 = 0 → (∀ c, c < 144 → ¬ g c < f c) → RR f g9 0 b9)) (BB G B) (fun q => B ≤ q)) args s 0 0 (fun q => B ≤ q) := ⟨_, rfl⟩
  rw [← hQ]
  have ne0_1 : h ≠ hn := mp_ne hh hhn (by simp)
  have ne0_2 : h ≠ la := mp_ne hh ha (by simp)
  have ne0_4 : h ≠ hn2 := mp_ne hh hhn2 (by simp)
  have ne0_5 : h ≠ la2 := mp_ne hh ha2 (by simp)
  have ne1_2 : hn ≠ la := mp_ne hhn ha (by simp)
  have ne1_3 : hn ≠ h2 := mp_ne hhn hh2 (by simp)
  have ne1_5 : hn ≠ la2 := mp_ne hhn ha2 (by simp)
  have ne2_3 : la ≠ h2 := mp_ne ha hh2 (by simp)
  have ne2_4 : la ≠ hn2 := mp_ne ha hhn2 (by simp)
  have ne3_4 : h2 ≠ hn2 := mp_ne hh2 hhn2 (by simp)
  have ne3_5 : h2 ≠ la2 := mp_ne hh2 ha2 (by simp)
  have ne4_5 : hn2 ≠ la2 := mp_ne hhn2 ha2 (by simp)
  have in_X1_cutTo_X1 : ∀ w ∈ wsX10, w ∈ wsX1_cutTo := by decide +kernel
  have hP : mw G.1 vwCl B (mu (mu μ h (.inr (1, [.ref hn, .int (nI b)]))) la (.inl (G.2 0, 158 * k + 158, .inr (.inl f)))) s.heap := mw_eq ((congrArg (fun z => mu z la (.inl (G.2 0, 158 * k + 158, .inr (.inl f)))) (mu_i hh)).trans (mu_i ha)).symm hP
  have L22 : ∀ (N22 : Nat) (i1 : Nat) (g1 : Nat → Int64) (b1 : Nat) (hN22 : 144 - i1 < N22) (hi : i1 ≤ 144) (hbb : b1 ≤ 1) (hb0 : b = 0 → b2 = 0 → b1 = 0) (hz : k = 0 → (∀ c, c < 144 → ¬ g c < f c) → Sm f g1), ∀ (H : Heap) (locs : List Loc), mw G.1 vwCl B (mu (mu μ h (.inr (1, [.ref hn, .int (nI b1)]))) la (.inl (G.2 0, 158 * k + 158, .inr (.inl g1)))) H → va_S (fun q => B ≤ q) s.heap H locs → ∀ ls : Array Slot, lv_has ls 3 [(0, .ref h), (1, .ref h2), (2, .int (nI i1))] → W p l e rm_X1_cutTo s m args below meth c H locs 0 0 Q (F0 m 22 ls []) := by
    intro N22
    induction N22 with
    | zero => intro i1 g1 b1 hN22; exact absurd hN22 (Nat.not_lt_zero _)
    | succ N22 ih22 =>
      intro i1 g1 b1 hN22 hi hbb hb0 hz H locs hP hS ls hl
      refine lv_iload_n hx hb dX1_cutTo_22 rfl (lv_at hl 2 rfl) ?_
      refine lv_sipush (v := nI 144) hx hb dX1_cutTo_23 (by decide) ?_
      refine nv_icmp_ge (tgt := 64) hx hb (by omega) (by omega) dX1_cutTo_26 (by decide) (fun hc26 => ?_) (fun hc26 => ?_)
      · refine lv_aload_n hx hb dX1_cutTo_64 rfl (lv_at hl 0 rfl) ?_
        refine kc_v (va_runV (As := []) (rest := []) ⟨hx, hb, hml, hown, hts⟩ (c_X1_close l G B (mu (mu μ h (.inr (1, [.ref hn, .int (nI b1)]))) la (.inl (G.2 0, 158 * k + 158, .inr (.inl g1)))) h hn la k b1 g1  ((mu_n ne0_2).trans (mu_s _ _ _)) ((mu_n ne1_2).trans ((mu_n ((Ne.symm ne0_1))).trans (hhn))) (mu_s _ _ _) (by omega) (by omega)) (cwV 0 hts gX1_cutTo_X1_close rfl rfl rfl (by decide +kernel) ⟨Nat.le_of_ble_eq_true rfl, Nat.le_of_ble_eq_true rfl⟩) ⟨KW.blind, hP.recv hK rfl ((mu_n ne0_2).trans (mu_s _ _ _)), fun U9 hU9 hW9 => ⟨rfl, KW.pre hBs hKK hS hP U9 hU9 hW9⟩⟩ rfl rfl hl.1 rfl (lv_room (Nat.le_of_ble_eq_true rfl)) dX1_cutTo_65 ⟨Nat.le_of_ble_eq_true rfl, Nat.le_of_ble_eq_true rfl⟩) hS (fun m65 H locs hq9 hP hz9 hS => ?_)
        obtain ⟨g65, b65, rfl, hb65, hg65⟩ := hq9
        have hP : mw G.1 vwCl B (mu (mu μ h (.inr (1, [.ref hn, .int (nI b65)]))) la (.inl (G.2 0, 158 * k + 158, .inr (.inl g65)))) _ := mw_eq ((congrArg (fun z => mu z la (.inl (G.2 0, 158 * k + 158, .inr (.inl g65)))) ((mu_c _ _ ((Ne.symm ne0_2))).trans (congrArg (fun z => mu z la (.inl (G.2 0, 158 * k + 158, .inr (.inl g1)))) (mu_u _ _ _ _)))).trans (mu_u _ _ _ _)) hP
        rw [hQ]
        exact W.vret hx hb hr (fun t99 ht99 hW99 => ⟨⟨mu (mu μ h (.inr (1, [.ref hn, .int (nI b65)]))) la (.inl (G.2 0, 158 * k + 158, .inr (.inl g65))), rfl, (⟨_, _, rfl, hb65, fun h0 e1 e2 h1 => by have e3 := hb0 e1 e2; subst e3; exact RR.pre (hz h0 h1) (hg65 h0)⟩), by show mw _ _ _ _ t99.heap; rw [ht99]; exact hP⟩, hS.F ht99⟩) hS.2.2 dX1_cutTo_68
      · refine lv_aload_n hx hb dX1_cutTo_29 rfl (lv_at hl 1 rfl) ?_
        refine mw_get (C := RX1) (T := TX1) (N := 2) hx hb hts in_X1_cutTo_X1 hown hK hP ((mu_n ((Ne.symm ne2_3))).trans ((mu_n ((Ne.symm hne0))).trans (hh2))) rfl 0 (by decide) (hts (.fieldLink RX1 16 "OctagonDesk$Shape" "numbers" "LOctagonDesk$Numbers;") (by decide +kernel)) (fun _ h9 => h9) rfl dX1_cutTo_30 ?_
        refine lv_iload_n hx hb dX1_cutTo_33 rfl (lv_at hl 2 rfl) ?_
        refine lv_aload_n hx hb dX1_cutTo_34 rfl (lv_at hl 0 rfl) ?_
        refine mw_get (C := RX1) (T := TX1) (N := 2) hx hb hts in_X1_cutTo_X1 hown hK hP ((mu_n ne0_2).trans (mu_s _ _ _)) rfl 0 (by decide) (hts (.fieldLink RX1 16 "OctagonDesk$Shape" "numbers" "LOctagonDesk$Numbers;") (by decide +kernel)) (fun _ h9 => h9) rfl dX1_cutTo_35 ?_
        refine lv_iload_n hx hb dX1_cutTo_38 rfl (lv_at hl 2 rfl) ?_
        refine kc_i (va_runV (As := [.int (nI i1), .ref hn, .int (nI i1)]) (rest := []) ⟨hx, hb, hml, hown, hts⟩ (c_X0_isLess l G B (mu (mu μ h (.inr (1, [.ref hn, .int (nI b1)]))) la (.inl (G.2 0, 158 * k + 158, .inr (.inl g1)))) hn2 la2 k g hn la g1 i1 i1 ((mu_n ((Ne.symm ne2_4))).trans ((mu_n ((Ne.symm ne0_4))).trans (hhn2))) ((mu_n ((Ne.symm hne))).trans ((mu_n ((Ne.symm ne0_5))).trans (ha2))) ((mu_n ne1_2).trans ((mu_n ((Ne.symm ne0_1))).trans (hhn))) (mu_s _ _ _) (by omega) (by omega) (by omega)) (cwV 3 hts gX1_cutTo_X0_isLess rfl rfl rfl (by decide +kernel) ⟨Nat.le_of_ble_eq_true rfl, Nat.le_of_ble_eq_true rfl⟩) ⟨KW.blind, hP.recv hK rfl ((mu_n ((Ne.symm ne2_4))).trans ((mu_n ((Ne.symm ne0_4))).trans (hhn2))), fun U9 hU9 hW9 => ⟨rfl, KW.pre hBs hKK hS hP U9 hU9 hW9⟩⟩ rfl rfl hl.1 rfl (lv_room (Nat.le_of_ble_eq_true rfl)) dX1_cutTo_39 ⟨Nat.le_of_ble_eq_true rfl, Nat.le_of_ble_eq_true rfl⟩) hS (fun r39 m39 H locs hq9 hP hz9 hS => ?_)
        obtain ⟨he9, hbr39, hr39⟩ := hq9
        rw [he9] at hP
        refine lv_if_eq (tgt := 58) hx hb dX1_cutTo_42 (by decide) (fun hc42 => ?_) (fun hc42 => ?_)
        · refine lv_iinc (v := nI (i1 + 1)) (lv' := [(2, .int (nI (i1 + 1))), (0, .ref h), (1, .ref h2)]) hx hb dX1_cutTo_58 hl (k := 2) rfl (nI_add _ _) (by decide) rfl (fun ls hl => ?_)
          refine lv_goto (tgt := 22) hx hb dX1_cutTo_61 (by decide) ?_
          exact ih22 (i1 + 1) g1 b1 (by omega) (by omega) (by omega) (hb0) (hz) _ _ hP hS ls (lv_sub hl [1, 2, 0] rfl)
        · refine lv_aload_n hx hb dX1_cutTo_45 rfl (lv_at hl 0 rfl) ?_
          refine mw_get (C := RX1) (T := TX1) (N := 2) hx hb hts in_X1_cutTo_X1 hown hK hP ((mu_n ne0_2).trans (mu_s _ _ _)) rfl 0 (by decide) (hts (.fieldLink RX1 16 "OctagonDesk$Shape" "numbers" "LOctagonDesk$Numbers;") (by decide +kernel)) (fun _ h9 => h9) rfl dX1_cutTo_46 ?_
          refine lv_iload_n hx hb dX1_cutTo_49 rfl (lv_at hl 2 rfl) ?_
          refine lv_aload_n hx hb dX1_cutTo_50 rfl (lv_at hl 1 rfl) ?_
          refine mw_get (C := RX1) (T := TX1) (N := 2) hx hb hts in_X1_cutTo_X1 hown hK hP ((mu_n ((Ne.symm ne2_3))).trans ((mu_n ((Ne.symm hne0))).trans (hh2))) rfl 0 (by decide) (hts (.fieldLink RX1 16 "OctagonDesk$Shape" "numbers" "LOctagonDesk$Numbers;") (by decide +kernel)) (fun _ h9 => h9) rfl dX1_cutTo_51 ?_
          refine lv_iload_n hx hb dX1_cutTo_54 rfl (lv_at hl 2 rfl) ?_
          refine kc_v (va_runV (As := [.int (nI i1), .ref hn2, .int (nI i1)]) (rest := []) ⟨hx, hb, hml, hown, hts⟩ (c_X0_put_t l G B (mu (mu μ h (.inr (1, [.ref hn, .int (nI b1)]))) la (.inl (G.2 0, 158 * k + 158, .inr (.inl g1)))) hn la k g1 hn2 la2 g i1 i1 ((mu_n ne1_2).trans ((mu_n ((Ne.symm ne0_1))).trans (hhn))) (mu_s _ _ _) ((mu_n ((Ne.symm ne2_4))).trans ((mu_n ((Ne.symm ne0_4))).trans (hhn2))) ((mu_n ((Ne.symm hne))).trans ((mu_n ((Ne.symm ne0_5))).trans (ha2))) (by omega) (by omega) (by omega) (hne)) (cwV 3 hts gX1_cutTo_X0_put rfl rfl rfl (by decide +kernel) ⟨Nat.le_of_ble_eq_true rfl, Nat.le_of_ble_eq_true rfl⟩) ⟨KW.blind, hP.recv hK rfl ((mu_n ne1_2).trans ((mu_n ((Ne.symm ne0_1))).trans (hhn))), fun U9 hU9 hW9 => ⟨rfl, KW.pre hBs hKK hS hP U9 hU9 hW9⟩⟩ rfl rfl hl.1 rfl (lv_room (Nat.le_of_ble_eq_true rfl)) dX1_cutTo_55 ⟨Nat.le_of_ble_eq_true rfl, Nat.le_of_ble_eq_true rfl⟩) hS (fun m55 H locs hq9 hP hz9 hS => ?_)
          obtain ⟨g55, rfl, hg55⟩ := hq9
          have hP : mw G.1 vwCl B (mu (mu μ h (.inr (1, [.ref hn, .int (nI b1)]))) la (.inl (G.2 0, 158 * k + 158, .inr (.inl g55)))) _ := mw_eq (mu_u _ _ _ _) hP
          refine lv_iinc (v := nI (i1 + 1)) (lv' := [(2, .int (nI (i1 + 1))), (0, .ref h), (1, .ref h2)]) hx hb dX1_cutTo_58 hl (k := 2) rfl (nI_add _ _) (by decide) rfl (fun ls hl => ?_)
          refine lv_goto (tgt := 22) hx hb dX1_cutTo_61 (by decide) ?_
          exact ih22 (i1 + 1) g55 b1 (by omega) (by omega) (by omega) (hb0) (fun h0 h1 => ct_s h0 (by omega) h1 (hz h0 h1) hr39 hc42) _ _ hP hS ls (lv_sub hl [1, 2, 0] rfl)
  have hl := lv_entry ([.ref h, .ref h2]) (n := 3) (Nat.le_of_ble_eq_true rfl)
  have he9 : entryFrame m args 3 = entryFrame m ([.ref h, .ref h2] : List Value).toArray 3 := by rw [hargs]
  rw [he9, lg_entry_eq]
  generalize (lg_sl ([.ref h, .ref h2]) ++ List.replicate (3 - (lg_sl ([.ref h, .ref h2])).length) Slot.unset).toArray = ls at hl ⊢
  have hl : lv_has ls 3 [(0, .ref h), (1, .ref h2)] := hl
  refine lv_aload_n hx hb dX1_cutTo_0 rfl (lv_at hl 1 rfl) ?_
  refine mw_get (C := RX1) (T := TX1) (N := 2) hx hb hts in_X1_cutTo_X1 hown hK hP ((mu_n ((Ne.symm ne2_3))).trans ((mu_n ((Ne.symm hne0))).trans (hh2))) rfl 1 (by decide) (hts (.fieldLink RX1 20 "OctagonDesk$Shape" "empty" "Z") (by decide +kernel)) (fun _ h9 => h9) rfl dX1_cutTo_1 ?_
  refine lv_if_eq (tgt := 12) hx hb dX1_cutTo_4 (by decide) (fun hc4 => ?_) (fun hc4 => ?_)
  · refine lv_aload_n hx hb dX1_cutTo_12 rfl (lv_at hl 0 rfl) ?_
    refine mw_get (C := RX1) (T := TX1) (N := 2) hx hb hts in_X1_cutTo_X1 hown hK hP ((mu_n ne0_2).trans (mu_s _ _ _)) rfl 1 (by decide) (hts (.fieldLink RX1 20 "OctagonDesk$Shape" "empty" "Z") (by decide +kernel)) (fun _ h9 => h9) rfl dX1_cutTo_13 ?_
    refine lv_if_eq (tgt := 20) hx hb dX1_cutTo_16 (by decide) (fun hc16 => ?_) (fun hc16 => ?_)
    · refine lv_iconst (v := nI 0) hx hb dX1_cutTo_20 (by decide) ?_
      refine lv_istore_n (lv' := [(2, .int (nI 0)), (0, .ref h), (1, .ref h2)]) hx hb dX1_cutTo_21 rfl hl (by decide) rfl (fun ls hl => ?_)
      exact L22 _ 0 f b (Nat.lt_succ_self _) (by omega) (by omega) (by first | exact fun e _ => e | exact absurd hc16 (by decide)) (fun _ _ _ _ => rfl) _ _ hP hS ls (lv_sub hl [1, 2, 0] rfl)
    · rw [hQ]
      exact W.vret hx hb hr (fun t99 ht99 hW99 => ⟨⟨mu (mu μ h (.inr (1, [.ref hn, .int (nI b)]))) la (.inl (G.2 0, 158 * k + 158, .inr (.inl f))), rfl, (⟨_, _, rfl, by omega, fun h0 e1 e2 h1 => by first | exact absurd (nb_1 (by omega) hc16) (by omega) | exact absurd (nb_1 hb2 hc4) (by omega)⟩), by show mw _ _ _ _ t99.heap; rw [ht99]; exact hP⟩, hS.F ht99⟩) hS.2.2 dX1_cutTo_19
  · refine lv_aload_n hx hb dX1_cutTo_7 rfl (lv_at hl 0 rfl) ?_
    refine lv_iconst (v := nI 1) hx hb dX1_cutTo_8 (by decide) ?_
    refine mw_put (ty := .boolean) (v := .int (nI 1)) (C := RX1) (T := TX1) (N := 2) hx hb hts in_X1_cutTo_X1 tyX1 tyX1_ok nmX1 hown hK hP hS ((mu_n ne0_2).trans (mu_s _ _ _)) rfl 1 (by decide) (hts (.fieldLink RX1 20 "OctagonDesk$Shape" "empty" "Z") (by decide +kernel)) (fun _ h9 => h9) rfl (by decide +kernel) (by first | rfl | decide) (by first | rfl | decide) (Nat.le_of_ble_eq_true rfl) dX1_cutTo_9 (fun H locs hP hS => ?_)
    have hP : mw G.1 vwCl B (mu (mu μ h (.inr (1, [.ref hn, .int (nI 1)]))) la (.inl (G.2 0, 158 * k + 158, .inr (.inl f)))) _ := mw_eq ((mu_c _ _ ((Ne.symm ne0_2))).trans (congrArg (fun z => mu z la (.inl (G.2 0, 158 * k + 158, .inr (.inl f)))) (mu_u _ _ _ _))) hP
    refine lv_aload_n hx hb dX1_cutTo_12 rfl (lv_at hl 0 rfl) ?_
    refine mw_get (C := RX1) (T := TX1) (N := 2) hx hb hts in_X1_cutTo_X1 hown hK hP ((mu_n ne0_2).trans (mu_s _ _ _)) rfl 1 (by decide) (hts (.fieldLink RX1 20 "OctagonDesk$Shape" "empty" "Z") (by decide +kernel)) (fun _ h9 => h9) rfl dX1_cutTo_13 ?_
    refine lv_if_eq (tgt := 20) hx hb dX1_cutTo_16 (by decide) (fun hc16 => ?_) (fun hc16 => ?_)
    · refine lv_iconst (v := nI 0) hx hb dX1_cutTo_20 (by decide) ?_
      refine lv_istore_n (lv' := [(2, .int (nI 0)), (0, .ref h), (1, .ref h2)]) hx hb dX1_cutTo_21 rfl hl (by decide) rfl (fun ls hl => ?_)
      exact L22 _ 0 f 1 (Nat.lt_succ_self _) (by omega) (by omega) (by first | exact fun e _ => e | exact absurd hc16 (by decide)) (fun _ _ _ _ => rfl) _ _ hP hS ls (lv_sub hl [1, 2, 0] rfl)
    · rw [hQ]
      exact W.vret hx hb hr (fun t99 ht99 hW99 => ⟨⟨mu (mu μ h (.inr (1, [.ref hn, .int (nI 1)]))) la (.inl (G.2 0, 158 * k + 158, .inr (.inl f))), rfl, (⟨_, _, rfl, by omega, fun h0 e1 e2 h1 => by first | exact absurd (nb_1 (by omega) hc16) (by omega) | exact absurd (nb_1 hb2 hc4) (by omega)⟩), by show mw _ _ _ _ t99.heap; rw [ht99]; exact hP⟩, hS.F ht99⟩) hS.2.2 dX1_cutTo_19

abbrev rm_X1_isSettledByEmptiness : Room := { frames := 3, cells := 0, slots := 0, locals := 102 }
set_option maxHeartbeats 4000000 in
set_option maxRecDepth 100000 in
theorem c_X1_isSettledByEmptiness (l : Launch) (G : GG) (B : Nat) (μ : mp) (h hn la k b : Nat) (f : Nat → Int64) (h2 hn2 la2 b2 : Nat) (g : Nat → Int64) (hh : μ h = some (.inr (1, [.ref hn, .int (nI b)]))) (hhn : μ hn = some (.inr (0, [.int (nI 158), .int (nI 157), .ref la, .int (nI (158 * k))]))) (ha : μ la = some (.inl (G.2 0, 158 * k + 158, .inr (.inl f)))) (hh2 : μ h2 = some (.inr (1, [.ref hn2, .int (nI b2)]))) (hhn2 : μ hn2 = some (.inr (0, [.int (nI 158), .int (nI 157), .ref la2, .int (nI (158 * k))]))) (ha2 : μ la2 = some (.inl (G.2 0, 158 * k + 158, .inr (.inl g)))) (hk : k ≤ 1022) (hb1 : b ≤ 1) (hb2 : b2 ≤ 1) (hne : la ≠ la2) (hne0 : h ≠ h2) : Met l yX1_isSettledByEmptiness wsX1_isSettledByEmptiness rm_X1_isSettledByEmptiness (va_Pc [.ref h, .ref h2] (KW G B μ)) (va_Qi (fun r μ2 => (r = 0 ∨ r = 1) ∧ ∃ (g9 : Nat → Int64) (b9 : Nat), μ2 = mu (mu μ h (.inr (1, [.ref hn, .int (nI b9)]))) la (.inl (G.2 0, 158 * k + 158, .inr (.inl g9))) ∧ b9 ≤ 1) (BB G B) (fun q => B ≤ q)) 0 0 (fun q => B ≤ q) := by
  refine Met.ofW (cc := cX1_isSettledByEmptiness) (maxL := 3) (ret := (some .boolean)) (by decide) rfl ?_
  intro p e s m args below meth c s₁ B9 hml hv
  obtain ⟨hargs, hBs, hP, hKK⟩ := hv
  have hx := B9.exec
  have hb := B9.bytes
  have hr := B9.returns
  have hts := atoms_spec (ws := wsX1_isSettledByEmptiness) B9.pre
  have hown : s.vm.findClass RX1 = some m.cls := findClass_of_methodNamed B9.named
  have hlocks := B9.notSynchronized
  have hK := hKK.k
  have hS : va_S (fun q => B ≤ q) s.heap s.heap [] := va_S.rf
  obtain ⟨Q, hQ⟩ : ∃ Q, Q = MQ below (va_Qi (fun r μ2 => (r = 0 ∨ r = 1) ∧ ∃ (g9 : Nat → Int64) (b9 : Nat), μ2 = mu (mu μ h (.inr (1, [.ref hn, .int (nI b9)]))) la (.inl (G.2 0, 158 * k + 158, .inr (.inl g9))) ∧ b9 ≤ 1) (BB G B) (fun q => B ≤ q)) args s 0 0 (fun q => B ≤ q) := ⟨_, rfl⟩
  rw [← hQ]
  have ne0_1 : h ≠ hn := mp_ne hh hhn (by simp)
  have ne0_2 : h ≠ la := mp_ne hh ha (by simp)
  have ne0_4 : h ≠ hn2 := mp_ne hh hhn2 (by simp)
  have ne0_5 : h ≠ la2 := mp_ne hh ha2 (by simp)
  have ne1_2 : hn ≠ la := mp_ne hhn ha (by simp)
  have ne1_3 : hn ≠ h2 := mp_ne hhn hh2 (by simp)
  have ne1_5 : hn ≠ la2 := mp_ne hhn ha2 (by simp)
  have ne2_3 : la ≠ h2 := mp_ne ha hh2 (by simp)
  have ne2_4 : la ≠ hn2 := mp_ne ha hhn2 (by simp)
  have ne3_4 : h2 ≠ hn2 := mp_ne hh2 hhn2 (by simp)
  have ne3_5 : h2 ≠ la2 := mp_ne hh2 ha2 (by simp)
  have ne4_5 : hn2 ≠ la2 := mp_ne hhn2 ha2 (by simp)
  have in_X1_isSettledByEmptiness_X1 : ∀ w ∈ wsX10, w ∈ wsX1_isSettledByEmptiness := by decide +kernel
  have hP : mw G.1 vwCl B (mu (mu μ h (.inr (1, [.ref hn, .int (nI b)]))) la (.inl (G.2 0, 158 * k + 158, .inr (.inl f)))) s.heap := mw_eq ((congrArg (fun z => mu z la (.inl (G.2 0, 158 * k + 158, .inr (.inl f)))) (mu_i hh)).trans (mu_i ha)).symm hP
  have L19 : ∀ (r1 : Nat) (hr1 : r1 ≤ 1), ∀ (H : Heap) (locs : List Loc), mw G.1 vwCl B (mu (mu μ h (.inr (1, [.ref hn, .int (nI b)]))) la (.inl (G.2 0, 158 * k + 158, .inr (.inl f)))) H → va_S (fun q => B ≤ q) s.heap H locs → ∀ ls : Array Slot, lv_has ls 3 [(0, .ref h), (1, .ref h2)] → W p l e rm_X1_isSettledByEmptiness s m args below meth c H locs 0 0 Q (F0 m 19 ls [.int (nI r1)]) := by
    intro r1 hr1 H locs hP hS ls hl
    refine lv_istore_n (lv' := [(2, .int (nI r1)), (0, .ref h), (1, .ref h2)]) hx hb dX1_isSettledByEmptiness_19 rfl hl (by decide) rfl (fun ls hl => ?_)
    refine lv_aload_n hx hb dX1_isSettledByEmptiness_20 rfl (lv_at hl 1 rfl) ?_
    refine mw_get (C := RX1) (T := TX1) (N := 2) hx hb hts in_X1_isSettledByEmptiness_X1 hown hK hP ((mu_n ne0_2).trans (mu_s _ _ _)) rfl 1 (by decide) (hts (.fieldLink RX1 20 "OctagonDesk$Shape" "empty" "Z") (by decide +kernel)) (fun _ h9 => h9) rfl dX1_isSettledByEmptiness_21 ?_
    refine lv_if_eq (tgt := 32) hx hb dX1_isSettledByEmptiness_24 (by decide) (fun hc24 => ?_) (fun hc24 => ?_)
    · refine lv_iload_n hx hb dX1_isSettledByEmptiness_32 rfl (lv_at hl 0 rfl) ?_
      rw [hQ]
      exact W.zret (v := nI r1) (ty := .boolean) hx hb hr (zb_n (by omega)) (fun t99 ht99 hW99 => ⟨⟨nI r1, mu (mu μ h (.inr (1, [.ref hn, .int (nI b)]))) la (.inl (G.2 0, 158 * k + 158, .inr (.inl f))), rfl, (⟨by rcases (show r1 = 0 ∨ r1 = 1 by omega) with e | e <;> subst e; exact Or.inl rfl; exact Or.inr rfl, _, _, rfl, by omega⟩), by show mw _ _ _ _ t99.heap; rw [ht99]; exact hP⟩, hS.F ht99⟩) hS.2.2 dX1_isSettledByEmptiness_33
    · refine lv_aload_n hx hb dX1_isSettledByEmptiness_27 rfl (lv_at hl 1 rfl) ?_
      refine lv_aload_n hx hb dX1_isSettledByEmptiness_28 rfl (lv_at hl 2 rfl) ?_
      refine kc_v (va_runV (As := [.ref h2]) (rest := []) ⟨hx, hb, hml, hown, hts⟩ (c_X1_takeOver l G B (mu (mu μ h (.inr (1, [.ref hn, .int (nI b)]))) la (.inl (G.2 0, 158 * k + 158, .inr (.inl f)))) h hn la k b f h2 hn2 la2 b2 g  ((mu_n ne0_2).trans (mu_s _ _ _)) ((mu_n ne1_2).trans ((mu_n ((Ne.symm ne0_1))).trans (hhn))) (mu_s _ _ _) ((mu_n ((Ne.symm ne2_3))).trans ((mu_n ((Ne.symm hne0))).trans (hh2))) ((mu_n ((Ne.symm ne2_4))).trans ((mu_n ((Ne.symm ne0_4))).trans (hhn2))) ((mu_n ((Ne.symm hne))).trans ((mu_n ((Ne.symm ne0_5))).trans (ha2))) (by omega) (by omega)) (cwV 1 hts gX1_isSettledByEmptiness_X1_takeOver rfl rfl rfl (by decide +kernel) ⟨Nat.le_of_ble_eq_true rfl, Nat.le_of_ble_eq_true rfl⟩) ⟨KW.blind, hP.recv hK rfl ((mu_n ne0_2).trans (mu_s _ _ _)), fun U9 hU9 hW9 => ⟨rfl, KW.pre hBs hKK hS hP U9 hU9 hW9⟩⟩ rfl rfl hl.1 rfl (lv_room (Nat.le_of_ble_eq_true rfl)) dX1_isSettledByEmptiness_29 ⟨Nat.le_of_ble_eq_true rfl, Nat.le_of_ble_eq_true rfl⟩) hS (fun m29 H locs hq9 hP hz9 hS => ?_)
      obtain ⟨g29, rfl, hg29⟩ := hq9
      have hP : mw G.1 vwCl B (mu (mu μ h (.inr (1, [.ref hn, .int (nI b2)]))) la (.inl (G.2 0, 158 * k + 158, .inr (.inl g29)))) _ := mw_eq ((congrArg (fun z => mu z h (.inr (1, [.ref hn, .int (nI b2)]))) (mu_u _ _ _ _)).trans ((mu_c _ _ ((Ne.symm ne0_2))).trans (congrArg (fun z => mu z la (.inl (G.2 0, 158 * k + 158, .inr (.inl g29)))) (mu_u _ _ _ _)))) hP
      refine lv_iload_n hx hb dX1_isSettledByEmptiness_32 rfl (lv_at hl 0 rfl) ?_
      rw [hQ]
      exact W.zret (v := nI r1) (ty := .boolean) hx hb hr (zb_n (by omega)) (fun t99 ht99 hW99 => ⟨⟨nI r1, mu (mu μ h (.inr (1, [.ref hn, .int (nI b2)]))) la (.inl (G.2 0, 158 * k + 158, .inr (.inl g29))), rfl, (⟨by rcases (show r1 = 0 ∨ r1 = 1 by omega) with e | e <;> subst e; exact Or.inl rfl; exact Or.inr rfl, _, _, rfl, by omega⟩), by show mw _ _ _ _ t99.heap; rw [ht99]; exact hP⟩, hS.F ht99⟩) hS.2.2 dX1_isSettledByEmptiness_33
  have hl := lv_entry ([.ref h, .ref h2]) (n := 3) (Nat.le_of_ble_eq_true rfl)
  have he9 : entryFrame m args 3 = entryFrame m ([.ref h, .ref h2] : List Value).toArray 3 := by rw [hargs]
  rw [he9, lg_entry_eq]
  generalize (lg_sl ([.ref h, .ref h2]) ++ List.replicate (3 - (lg_sl ([.ref h, .ref h2])).length) Slot.unset).toArray = ls at hl ⊢
  have hl : lv_has ls 3 [(0, .ref h), (1, .ref h2)] := hl
  refine lv_aload_n hx hb dX1_isSettledByEmptiness_0 rfl (lv_at hl 0 rfl) ?_
  refine mw_get (C := RX1) (T := TX1) (N := 2) hx hb hts in_X1_isSettledByEmptiness_X1 hown hK hP ((mu_n ne0_2).trans (mu_s _ _ _)) rfl 1 (by decide) (hts (.fieldLink RX1 20 "OctagonDesk$Shape" "empty" "Z") (by decide +kernel)) (fun _ h9 => h9) rfl dX1_isSettledByEmptiness_1 ?_
  refine lv_if_ne (tgt := 14) hx hb dX1_isSettledByEmptiness_4 (by decide) (fun hc4 => ?_) (fun hc4 => ?_)
  · refine lv_iconst (v := nI 1) hx hb dX1_isSettledByEmptiness_14 (by decide) ?_
    refine lv_goto (tgt := 19) hx hb dX1_isSettledByEmptiness_15 (by decide) ?_
    exact L19 1 (by omega) _ _ hP hS ls (lv_sub hl [0, 1] rfl)
  · refine lv_aload_n hx hb dX1_isSettledByEmptiness_7 rfl (lv_at hl 1 rfl) ?_
    refine mw_get (C := RX1) (T := TX1) (N := 2) hx hb hts in_X1_isSettledByEmptiness_X1 hown hK hP ((mu_n ((Ne.symm ne2_3))).trans ((mu_n ((Ne.symm hne0))).trans (hh2))) rfl 1 (by decide) (hts (.fieldLink RX1 20 "OctagonDesk$Shape" "empty" "Z") (by decide +kernel)) (fun _ h9 => h9) rfl dX1_isSettledByEmptiness_8 ?_
    refine lv_if_eq (tgt := 18) hx hb dX1_isSettledByEmptiness_11 (by decide) (fun hc11 => ?_) (fun hc11 => ?_)
    · refine lv_iconst (v := nI 0) hx hb dX1_isSettledByEmptiness_18 (by decide) ?_
      exact L19 0 (by omega) _ _ hP hS ls (lv_sub hl [0, 1] rfl)
    · refine lv_iconst (v := nI 1) hx hb dX1_isSettledByEmptiness_14 (by decide) ?_
      refine lv_goto (tgt := 19) hx hb dX1_isSettledByEmptiness_15 (by decide) ?_
      exact L19 1 (by omega) _ _ hP hS ls (lv_sub hl [0, 1] rfl)

abbrev rm_X1_stretchOver : Room := { frames := 4, cells := 0, slots := 0, locals := 124 }
set_option maxHeartbeats 4000000 in
set_option maxRecDepth 100000 in
theorem c_X1_stretchOver (l : Launch) (G : GG) (B : Nat) (μ : mp) (h hn la k b : Nat) (f : Nat → Int64) (h2 hn2 la2 b2 : Nat) (g : Nat → Int64) (hh : μ h = some (.inr (1, [.ref hn, .int (nI b)]))) (hhn : μ hn = some (.inr (0, [.int (nI 158), .int (nI 157), .ref la, .int (nI (158 * k))]))) (ha : μ la = some (.inl (G.2 0, 158 * k + 158, .inr (.inl f)))) (hh2 : μ h2 = some (.inr (1, [.ref hn2, .int (nI b2)]))) (hhn2 : μ hn2 = some (.inr (0, [.int (nI 158), .int (nI 157), .ref la2, .int (nI (158 * k))]))) (ha2 : μ la2 = some (.inl (G.2 0, 158 * k + 158, .inr (.inl g)))) (hk : k ≤ 1022) (hb1 : b ≤ 1) (hb2 : b2 ≤ 1) (hne : la ≠ la2) (hne0 : h ≠ h2) : Met l yX1_stretchOver wsX1_stretchOver rm_X1_stretchOver (va_Pc [.ref h, .ref h2] (KW G B μ)) (va_Qv (fun μ2 => ∃ (g9 : Nat → Int64) (b9 : Nat), μ2 = mu (mu μ h (.inr (1, [.ref hn, .int (nI b9)]))) la (.inl (G.2 0, 158 * k + 158, .inr (.inl g9))) ∧ b9 ≤ 1) (BB G B) (fun q => B ≤ q)) 0 0 (fun q => B ≤ q) := by
  refine Met.ofW (cc := cX1_stretchOver) (maxL := 3) (ret := none) (by decide) rfl ?_
  intro p e s m args below meth c s₁ B9 hml hv
  obtain ⟨hargs, hBs, hP, hKK⟩ := hv
  have hx := B9.exec
  have hb := B9.bytes
  have hr := B9.returns
  have hts := atoms_spec (ws := wsX1_stretchOver) B9.pre
  have hown : s.vm.findClass RX1 = some m.cls := findClass_of_methodNamed B9.named
  have hlocks := B9.notSynchronized
  have hK := hKK.k
  have hS : va_S (fun q => B ≤ q) s.heap s.heap [] := va_S.rf
  obtain ⟨Q, hQ⟩ : ∃ Q, Q = MQ below (va_Qv (fun μ2 => ∃ (g9 : Nat → Int64) (b9 : Nat), μ2 = mu (mu μ h (.inr (1, [.ref hn, .int (nI b9)]))) la (.inl (G.2 0, 158 * k + 158, .inr (.inl g9))) ∧ b9 ≤ 1) (BB G B) (fun q => B ≤ q)) args s 0 0 (fun q => B ≤ q) := ⟨_, rfl⟩
  rw [← hQ]
  have ne0_1 : h ≠ hn := mp_ne hh hhn (by simp)
  have ne0_2 : h ≠ la := mp_ne hh ha (by simp)
  have ne0_4 : h ≠ hn2 := mp_ne hh hhn2 (by simp)
  have ne0_5 : h ≠ la2 := mp_ne hh ha2 (by simp)
  have ne1_2 : hn ≠ la := mp_ne hhn ha (by simp)
  have ne1_3 : hn ≠ h2 := mp_ne hhn hh2 (by simp)
  have ne1_5 : hn ≠ la2 := mp_ne hhn ha2 (by simp)
  have ne2_3 : la ≠ h2 := mp_ne ha hh2 (by simp)
  have ne2_4 : la ≠ hn2 := mp_ne ha hhn2 (by simp)
  have ne3_4 : h2 ≠ hn2 := mp_ne hh2 hhn2 (by simp)
  have ne3_5 : h2 ≠ la2 := mp_ne hh2 ha2 (by simp)
  have ne4_5 : hn2 ≠ la2 := mp_ne hhn2 ha2 (by simp)
  have in_X1_stretchOver_X1 : ∀ w ∈ wsX10, w ∈ wsX1_stretchOver := by decide +kernel
  have hP : mw G.1 vwCl B (mu (mu μ h (.inr (1, [.ref hn, .int (nI b)]))) la (.inl (G.2 0, 158 * k + 158, .inr (.inl f)))) s.heap := mw_eq ((congrArg (fun z => mu z la (.inl (G.2 0, 158 * k + 158, .inr (.inl f)))) (mu_i hh)).trans (mu_i ha)).symm hP
  have L11 : ∀ (N11 : Nat) (i1 : Nat) (g1 : Nat → Int64) (b1 : Nat) (hN11 : 144 - i1 < N11) (hi : i1 ≤ 144) (hbb : b1 ≤ 1), ∀ (H : Heap) (locs : List Loc), mw G.1 vwCl B (mu (mu μ h (.inr (1, [.ref hn, .int (nI b1)]))) la (.inl (G.2 0, 158 * k + 158, .inr (.inl g1)))) H → va_S (fun q => B ≤ q) s.heap H locs → ∀ ls : Array Slot, lv_has ls 3 [(0, .ref h), (1, .ref h2), (2, .int (nI i1))] → W p l e rm_X1_stretchOver s m args below meth c H locs 0 0 Q (F0 m 11 ls []) := by
    intro N11
    induction N11 with
    | zero => intro i1 g1 b1 hN11; exact absurd hN11 (Nat.not_lt_zero _)
    | succ N11 ih11 =>
      intro i1 g1 b1 hN11 hi hbb H locs hP hS ls hl
      refine lv_iload_n hx hb dX1_stretchOver_11 rfl (lv_at hl 2 rfl) ?_
      refine lv_sipush (v := nI 144) hx hb dX1_stretchOver_12 (by decide) ?_
      refine nv_icmp_ge (tgt := 53) hx hb (by omega) (by omega) dX1_stretchOver_15 (by decide) (fun hc15 => ?_) (fun hc15 => ?_)
      · rw [hQ]
        exact W.vret hx hb hr (fun t99 ht99 hW99 => ⟨⟨mu (mu μ h (.inr (1, [.ref hn, .int (nI b1)]))) la (.inl (G.2 0, 158 * k + 158, .inr (.inl g1))), rfl, (⟨_, _, rfl, by omega⟩), by show mw _ _ _ _ t99.heap; rw [ht99]; exact hP⟩, hS.F ht99⟩) hS.2.2 dX1_stretchOver_53
      · refine lv_aload_n hx hb dX1_stretchOver_18 rfl (lv_at hl 0 rfl) ?_
        refine mw_get (C := RX1) (T := TX1) (N := 2) hx hb hts in_X1_stretchOver_X1 hown hK hP ((mu_n ne0_2).trans (mu_s _ _ _)) rfl 0 (by decide) (hts (.fieldLink RX1 16 "OctagonDesk$Shape" "numbers" "LOctagonDesk$Numbers;") (by decide +kernel)) (fun _ h9 => h9) rfl dX1_stretchOver_19 ?_
        refine lv_iload_n hx hb dX1_stretchOver_22 rfl (lv_at hl 2 rfl) ?_
        refine lv_aload_n hx hb dX1_stretchOver_23 rfl (lv_at hl 1 rfl) ?_
        refine mw_get (C := RX1) (T := TX1) (N := 2) hx hb hts in_X1_stretchOver_X1 hown hK hP ((mu_n ((Ne.symm ne2_3))).trans ((mu_n ((Ne.symm hne0))).trans (hh2))) rfl 0 (by decide) (hts (.fieldLink RX1 16 "OctagonDesk$Shape" "numbers" "LOctagonDesk$Numbers;") (by decide +kernel)) (fun _ h9 => h9) rfl dX1_stretchOver_24 ?_
        refine lv_iload_n hx hb dX1_stretchOver_27 rfl (lv_at hl 2 rfl) ?_
        refine kc_i (va_runV (As := [.int (nI i1), .ref hn2, .int (nI i1)]) (rest := []) ⟨hx, hb, hml, hown, hts⟩ (c_X0_isLess l G B (mu (mu μ h (.inr (1, [.ref hn, .int (nI b1)]))) la (.inl (G.2 0, 158 * k + 158, .inr (.inl g1)))) hn la k g1 hn2 la2 g i1 i1 ((mu_n ne1_2).trans ((mu_n ((Ne.symm ne0_1))).trans (hhn))) (mu_s _ _ _) ((mu_n ((Ne.symm ne2_4))).trans ((mu_n ((Ne.symm ne0_4))).trans (hhn2))) ((mu_n ((Ne.symm hne))).trans ((mu_n ((Ne.symm ne0_5))).trans (ha2))) (by omega) (by omega) (by omega)) (cwV 3 hts gX1_stretchOver_X0_isLess rfl rfl rfl (by decide +kernel) ⟨Nat.le_of_ble_eq_true rfl, Nat.le_of_ble_eq_true rfl⟩) ⟨KW.blind, hP.recv hK rfl ((mu_n ne1_2).trans ((mu_n ((Ne.symm ne0_1))).trans (hhn))), fun U9 hU9 hW9 => ⟨rfl, KW.pre hBs hKK hS hP U9 hU9 hW9⟩⟩ rfl rfl hl.1 rfl (lv_room (Nat.le_of_ble_eq_true rfl)) dX1_stretchOver_28 ⟨Nat.le_of_ble_eq_true rfl, Nat.le_of_ble_eq_true rfl⟩) hS (fun r28 m28 H locs hq9 hP hz9 hS => ?_)
        obtain ⟨he9, hbr28, hr28⟩ := hq9
        rw [he9] at hP
        refine lv_if_eq (tgt := 47) hx hb dX1_stretchOver_31 (by decide) (fun hc31 => ?_) (fun hc31 => ?_)
        · refine lv_iinc (v := nI (i1 + 1)) (lv' := [(2, .int (nI (i1 + 1))), (0, .ref h), (1, .ref h2)]) hx hb dX1_stretchOver_47 hl (k := 2) rfl (nI_add _ _) (by decide) rfl (fun ls hl => ?_)
          refine lv_goto (tgt := 11) hx hb dX1_stretchOver_50 (by decide) ?_
          exact ih11 (i1 + 1) g1 b1 (by omega) (by omega) (by omega) _ _ hP hS ls (lv_sub hl [1, 2, 0] rfl)
        · refine lv_aload_n hx hb dX1_stretchOver_34 rfl (lv_at hl 0 rfl) ?_
          refine mw_get (C := RX1) (T := TX1) (N := 2) hx hb hts in_X1_stretchOver_X1 hown hK hP ((mu_n ne0_2).trans (mu_s _ _ _)) rfl 0 (by decide) (hts (.fieldLink RX1 16 "OctagonDesk$Shape" "numbers" "LOctagonDesk$Numbers;") (by decide +kernel)) (fun _ h9 => h9) rfl dX1_stretchOver_35 ?_
          refine lv_iload_n hx hb dX1_stretchOver_38 rfl (lv_at hl 2 rfl) ?_
          refine lv_aload_n hx hb dX1_stretchOver_39 rfl (lv_at hl 1 rfl) ?_
          refine mw_get (C := RX1) (T := TX1) (N := 2) hx hb hts in_X1_stretchOver_X1 hown hK hP ((mu_n ((Ne.symm ne2_3))).trans ((mu_n ((Ne.symm hne0))).trans (hh2))) rfl 0 (by decide) (hts (.fieldLink RX1 16 "OctagonDesk$Shape" "numbers" "LOctagonDesk$Numbers;") (by decide +kernel)) (fun _ h9 => h9) rfl dX1_stretchOver_40 ?_
          refine lv_iload_n hx hb dX1_stretchOver_43 rfl (lv_at hl 2 rfl) ?_
          refine kc_v (va_runV (As := [.int (nI i1), .ref hn2, .int (nI i1)]) (rest := []) ⟨hx, hb, hml, hown, hts⟩ (c_X0_put_t l G B (mu (mu μ h (.inr (1, [.ref hn, .int (nI b1)]))) la (.inl (G.2 0, 158 * k + 158, .inr (.inl g1)))) hn la k g1 hn2 la2 g i1 i1 ((mu_n ne1_2).trans ((mu_n ((Ne.symm ne0_1))).trans (hhn))) (mu_s _ _ _) ((mu_n ((Ne.symm ne2_4))).trans ((mu_n ((Ne.symm ne0_4))).trans (hhn2))) ((mu_n ((Ne.symm hne))).trans ((mu_n ((Ne.symm ne0_5))).trans (ha2))) (by omega) (by omega) (by omega) (hne)) (cwV 3 hts gX1_stretchOver_X0_put rfl rfl rfl (by decide +kernel) ⟨Nat.le_of_ble_eq_true rfl, Nat.le_of_ble_eq_true rfl⟩) ⟨KW.blind, hP.recv hK rfl ((mu_n ne1_2).trans ((mu_n ((Ne.symm ne0_1))).trans (hhn))), fun U9 hU9 hW9 => ⟨rfl, KW.pre hBs hKK hS hP U9 hU9 hW9⟩⟩ rfl rfl hl.1 rfl (lv_room (Nat.le_of_ble_eq_true rfl)) dX1_stretchOver_44 ⟨Nat.le_of_ble_eq_true rfl, Nat.le_of_ble_eq_true rfl⟩) hS (fun m44 H locs hq9 hP hz9 hS => ?_)
          obtain ⟨g44, rfl, hg44⟩ := hq9
          have hP : mw G.1 vwCl B (mu (mu μ h (.inr (1, [.ref hn, .int (nI b1)]))) la (.inl (G.2 0, 158 * k + 158, .inr (.inl g44)))) _ := mw_eq (mu_u _ _ _ _) hP
          refine lv_iinc (v := nI (i1 + 1)) (lv' := [(2, .int (nI (i1 + 1))), (0, .ref h), (1, .ref h2)]) hx hb dX1_stretchOver_47 hl (k := 2) rfl (nI_add _ _) (by decide) rfl (fun ls hl => ?_)
          refine lv_goto (tgt := 11) hx hb dX1_stretchOver_50 (by decide) ?_
          exact ih11 (i1 + 1) g44 b1 (by omega) (by omega) (by omega) _ _ hP hS ls (lv_sub hl [1, 2, 0] rfl)
  have hl := lv_entry ([.ref h, .ref h2]) (n := 3) (Nat.le_of_ble_eq_true rfl)
  have he9 : entryFrame m args 3 = entryFrame m ([.ref h, .ref h2] : List Value).toArray 3 := by rw [hargs]
  rw [he9, lg_entry_eq]
  generalize (lg_sl ([.ref h, .ref h2]) ++ List.replicate (3 - (lg_sl ([.ref h, .ref h2])).length) Slot.unset).toArray = ls at hl ⊢
  have hl : lv_has ls 3 [(0, .ref h), (1, .ref h2)] := hl
  refine lv_aload_n hx hb dX1_stretchOver_0 rfl (lv_at hl 0 rfl) ?_
  refine lv_aload_n hx hb dX1_stretchOver_1 rfl (lv_at hl 1 rfl) ?_
  refine kc_i (va_runV (As := [.ref h2]) (rest := []) ⟨hx, hb, hml, hown, hts⟩ (c_X1_isSettledByEmptiness l G B (mu (mu μ h (.inr (1, [.ref hn, .int (nI b)]))) la (.inl (G.2 0, 158 * k + 158, .inr (.inl f)))) h hn la k b f h2 hn2 la2 b2 g  ((mu_n ne0_2).trans (mu_s _ _ _)) ((mu_n ne1_2).trans ((mu_n ((Ne.symm ne0_1))).trans (hhn))) (mu_s _ _ _) ((mu_n ((Ne.symm ne2_3))).trans ((mu_n ((Ne.symm hne0))).trans (hh2))) ((mu_n ((Ne.symm ne2_4))).trans ((mu_n ((Ne.symm ne0_4))).trans (hhn2))) ((mu_n ((Ne.symm hne))).trans ((mu_n ((Ne.symm ne0_5))).trans (ha2))) (by omega) (by omega) (by omega) (hne) (hne0)) (cwV 1 hts gX1_stretchOver_X1_isSettledByEmptiness rfl rfl rfl (by decide +kernel) ⟨Nat.le_of_ble_eq_true rfl, Nat.le_of_ble_eq_true rfl⟩) ⟨KW.blind, hP.recv hK rfl ((mu_n ne0_2).trans (mu_s _ _ _)), fun U9 hU9 hW9 => ⟨rfl, KW.pre hBs hKK hS hP U9 hU9 hW9⟩⟩ rfl rfl hl.1 rfl (lv_room (Nat.le_of_ble_eq_true rfl)) dX1_stretchOver_2 ⟨Nat.le_of_ble_eq_true rfl, Nat.le_of_ble_eq_true rfl⟩) hS (fun r2 m2 H locs hq9 hP hz9 hS => ?_)
  obtain ⟨hr2, g2, b2, rfl, hb2⟩ := hq9
  have hP : mw G.1 vwCl B (mu (mu μ h (.inr (1, [.ref hn, .int (nI b2)]))) la (.inl (G.2 0, 158 * k + 158, .inr (.inl g2)))) _ := mw_eq ((congrArg (fun z => mu z la (.inl (G.2 0, 158 * k + 158, .inr (.inl g2)))) ((mu_c _ _ ((Ne.symm ne0_2))).trans (congrArg (fun z => mu z la (.inl (G.2 0, 158 * k + 158, .inr (.inl f)))) (mu_u _ _ _ _)))).trans (mu_u _ _ _ _)) hP
  refine lv_if_eq (tgt := 9) hx hb dX1_stretchOver_5 (by decide) (fun hc5 => ?_) (fun hc5 => ?_)
  · refine lv_iconst (v := nI 0) hx hb dX1_stretchOver_9 (by decide) ?_
    refine lv_istore_n (lv' := [(2, .int (nI 0)), (0, .ref h), (1, .ref h2)]) hx hb dX1_stretchOver_10 rfl hl (by decide) rfl (fun ls hl => ?_)
    exact L11 _ 0 g2 b2 (Nat.lt_succ_self _) (by omega) (by omega) _ _ hP hS ls (lv_sub hl [1, 2, 0] rfl)
  · rw [hQ]
    exact W.vret hx hb hr (fun t99 ht99 hW99 => ⟨⟨mu (mu μ h (.inr (1, [.ref hn, .int (nI b2)]))) la (.inl (G.2 0, 158 * k + 158, .inr (.inl g2))), rfl, (⟨_, _, rfl, by omega⟩), by show mw _ _ _ _ t99.heap; rw [ht99]; exact hP⟩, hS.F ht99⟩) hS.2.2 dX1_stretchOver_8

abbrev rm_X1_loosenBy : Room := { frames := 4, cells := 0, slots := 0, locals := 124 }
set_option maxHeartbeats 4000000 in
set_option maxRecDepth 100000 in
theorem c_X1_loosenBy (l : Launch) (G : GG) (B : Nat) (μ : mp) (h hn la k b : Nat) (f : Nat → Int64) (h2 hn2 la2 b2 : Nat) (g : Nat → Int64) (hh : μ h = some (.inr (1, [.ref hn, .int (nI b)]))) (hhn : μ hn = some (.inr (0, [.int (nI 158), .int (nI 157), .ref la, .int (nI (158 * k))]))) (ha : μ la = some (.inl (G.2 0, 158 * k + 158, .inr (.inl f)))) (hh2 : μ h2 = some (.inr (1, [.ref hn2, .int (nI b2)]))) (hhn2 : μ hn2 = some (.inr (0, [.int (nI 158), .int (nI 157), .ref la2, .int (nI (158 * k))]))) (ha2 : μ la2 = some (.inl (G.2 0, 158 * k + 158, .inr (.inl g)))) (hk : k ≤ 1022) (hb1 : b ≤ 1) (hb2 : b2 ≤ 1) (hne : la ≠ la2) (hne0 : h ≠ h2) : Met l yX1_loosenBy wsX1_loosenBy rm_X1_loosenBy (va_Pc [.ref h, .ref h2] (KW G B μ)) (va_Qv (fun μ2 => ∃ (g9 : Nat → Int64) (b9 : Nat), μ2 = mu (mu μ h (.inr (1, [.ref hn, .int (nI b9)]))) la (.inl (G.2 0, 158 * k + 158, .inr (.inl g9))) ∧ b9 ≤ 1) (BB G B) (fun q => B ≤ q)) 0 0 (fun q => B ≤ q) := by
  refine Met.ofW (cc := cX1_loosenBy) (maxL := 3) (ret := none) (by decide) rfl ?_
  intro p e s m args below meth c s₁ B9 hml hv
  obtain ⟨hargs, hBs, hP, hKK⟩ := hv
  have hx := B9.exec
  have hb := B9.bytes
  have hr := B9.returns
  have hts := atoms_spec (ws := wsX1_loosenBy) B9.pre
  have hown : s.vm.findClass RX1 = some m.cls := findClass_of_methodNamed B9.named
  have hlocks := B9.notSynchronized
  have hK := hKK.k
  have hS : va_S (fun q => B ≤ q) s.heap s.heap [] := va_S.rf
  obtain ⟨Q, hQ⟩ : ∃ Q, Q = MQ below (va_Qv (fun μ2 => ∃ (g9 : Nat → Int64) (b9 : Nat), μ2 = mu (mu μ h (.inr (1, [.ref hn, .int (nI b9)]))) la (.inl (G.2 0, 158 * k + 158, .inr (.inl g9))) ∧ b9 ≤ 1) (BB G B) (fun q => B ≤ q)) args s 0 0 (fun q => B ≤ q) := ⟨_, rfl⟩
  rw [← hQ]
  have ne0_1 : h ≠ hn := mp_ne hh hhn (by simp)
  have ne0_2 : h ≠ la := mp_ne hh ha (by simp)
  have ne0_4 : h ≠ hn2 := mp_ne hh hhn2 (by simp)
  have ne0_5 : h ≠ la2 := mp_ne hh ha2 (by simp)
  have ne1_2 : hn ≠ la := mp_ne hhn ha (by simp)
  have ne1_3 : hn ≠ h2 := mp_ne hhn hh2 (by simp)
  have ne1_5 : hn ≠ la2 := mp_ne hhn ha2 (by simp)
  have ne2_3 : la ≠ h2 := mp_ne ha hh2 (by simp)
  have ne2_4 : la ≠ hn2 := mp_ne ha hhn2 (by simp)
  have ne3_4 : h2 ≠ hn2 := mp_ne hh2 hhn2 (by simp)
  have ne3_5 : h2 ≠ la2 := mp_ne hh2 ha2 (by simp)
  have ne4_5 : hn2 ≠ la2 := mp_ne hhn2 ha2 (by simp)
  have in_X1_loosenBy_X1 : ∀ w ∈ wsX10, w ∈ wsX1_loosenBy := by decide +kernel
  have hP : mw G.1 vwCl B (mu (mu μ h (.inr (1, [.ref hn, .int (nI b)]))) la (.inl (G.2 0, 158 * k + 158, .inr (.inl f)))) s.heap := mw_eq ((congrArg (fun z => mu z la (.inl (G.2 0, 158 * k + 158, .inr (.inl f)))) (mu_i hh)).trans (mu_i ha)).symm hP
  have L11 : ∀ (N11 : Nat) (i1 : Nat) (g1 : Nat → Int64) (b1 : Nat) (hN11 : 144 - i1 < N11) (hi : i1 ≤ 144) (hbb : b1 ≤ 1), ∀ (H : Heap) (locs : List Loc), mw G.1 vwCl B (mu (mu μ h (.inr (1, [.ref hn, .int (nI b1)]))) la (.inl (G.2 0, 158 * k + 158, .inr (.inl g1)))) H → va_S (fun q => B ≤ q) s.heap H locs → ∀ ls : Array Slot, lv_has ls 3 [(0, .ref h), (1, .ref h2), (2, .int (nI i1))] → W p l e rm_X1_loosenBy s m args below meth c H locs 0 0 Q (F0 m 11 ls []) := by
    intro N11
    induction N11 with
    | zero => intro i1 g1 b1 hN11; exact absurd hN11 (Nat.not_lt_zero _)
    | succ N11 ih11 =>
      intro i1 g1 b1 hN11 hi hbb H locs hP hS ls hl
      refine lv_iload_n hx hb dX1_loosenBy_11 rfl (lv_at hl 2 rfl) ?_
      refine lv_sipush (v := nI 144) hx hb dX1_loosenBy_12 (by decide) ?_
      refine nv_icmp_ge (tgt := 48) hx hb (by omega) (by omega) dX1_loosenBy_15 (by decide) (fun hc15 => ?_) (fun hc15 => ?_)
      · refine lv_aload_n hx hb dX1_loosenBy_48 rfl (lv_at hl 0 rfl) ?_
        refine kc_v (va_runV (As := []) (rest := []) ⟨hx, hb, hml, hown, hts⟩ (c_X1_close l G B (mu (mu μ h (.inr (1, [.ref hn, .int (nI b1)]))) la (.inl (G.2 0, 158 * k + 158, .inr (.inl g1)))) h hn la k b1 g1  ((mu_n ne0_2).trans (mu_s _ _ _)) ((mu_n ne1_2).trans ((mu_n ((Ne.symm ne0_1))).trans (hhn))) (mu_s _ _ _) (by omega) (by omega)) (cwV 0 hts gX1_loosenBy_X1_close rfl rfl rfl (by decide +kernel) ⟨Nat.le_of_ble_eq_true rfl, Nat.le_of_ble_eq_true rfl⟩) ⟨KW.blind, hP.recv hK rfl ((mu_n ne0_2).trans (mu_s _ _ _)), fun U9 hU9 hW9 => ⟨rfl, KW.pre hBs hKK hS hP U9 hU9 hW9⟩⟩ rfl rfl hl.1 rfl (lv_room (Nat.le_of_ble_eq_true rfl)) dX1_loosenBy_49 ⟨Nat.le_of_ble_eq_true rfl, Nat.le_of_ble_eq_true rfl⟩) hS (fun m49 H locs hq9 hP hz9 hS => ?_)
        obtain ⟨g49, b49, rfl, hb49, hg49⟩ := hq9
        have hP : mw G.1 vwCl B (mu (mu μ h (.inr (1, [.ref hn, .int (nI b49)]))) la (.inl (G.2 0, 158 * k + 158, .inr (.inl g49)))) _ := mw_eq ((congrArg (fun z => mu z la (.inl (G.2 0, 158 * k + 158, .inr (.inl g49)))) ((mu_c _ _ ((Ne.symm ne0_2))).trans (congrArg (fun z => mu z la (.inl (G.2 0, 158 * k + 158, .inr (.inl g1)))) (mu_u _ _ _ _)))).trans (mu_u _ _ _ _)) hP
        rw [hQ]
        exact W.vret hx hb hr (fun t99 ht99 hW99 => ⟨⟨mu (mu μ h (.inr (1, [.ref hn, .int (nI b49)]))) la (.inl (G.2 0, 158 * k + 158, .inr (.inl g49))), rfl, (⟨_, _, rfl, by omega⟩), by show mw _ _ _ _ t99.heap; rw [ht99]; exact hP⟩, hS.F ht99⟩) hS.2.2 dX1_loosenBy_52
      · refine lv_aload_n hx hb dX1_loosenBy_18 rfl (lv_at hl 0 rfl) ?_
        refine mw_get (C := RX1) (T := TX1) (N := 2) hx hb hts in_X1_loosenBy_X1 hown hK hP ((mu_n ne0_2).trans (mu_s _ _ _)) rfl 0 (by decide) (hts (.fieldLink RX1 16 "OctagonDesk$Shape" "numbers" "LOctagonDesk$Numbers;") (by decide +kernel)) (fun _ h9 => h9) rfl dX1_loosenBy_19 ?_
        refine lv_iload_n hx hb dX1_loosenBy_22 rfl (lv_at hl 2 rfl) ?_
        refine lv_aload_n hx hb dX1_loosenBy_23 rfl (lv_at hl 1 rfl) ?_
        refine mw_get (C := RX1) (T := TX1) (N := 2) hx hb hts in_X1_loosenBy_X1 hown hK hP ((mu_n ((Ne.symm ne2_3))).trans ((mu_n ((Ne.symm hne0))).trans (hh2))) rfl 0 (by decide) (hts (.fieldLink RX1 16 "OctagonDesk$Shape" "numbers" "LOctagonDesk$Numbers;") (by decide +kernel)) (fun _ h9 => h9) rfl dX1_loosenBy_24 ?_
        refine lv_iload_n hx hb dX1_loosenBy_27 rfl (lv_at hl 2 rfl) ?_
        refine kc_i (va_runV (As := [.int (nI i1), .ref hn2, .int (nI i1)]) (rest := []) ⟨hx, hb, hml, hown, hts⟩ (c_X0_isLess l G B (mu (mu μ h (.inr (1, [.ref hn, .int (nI b1)]))) la (.inl (G.2 0, 158 * k + 158, .inr (.inl g1)))) hn la k g1 hn2 la2 g i1 i1 ((mu_n ne1_2).trans ((mu_n ((Ne.symm ne0_1))).trans (hhn))) (mu_s _ _ _) ((mu_n ((Ne.symm ne2_4))).trans ((mu_n ((Ne.symm ne0_4))).trans (hhn2))) ((mu_n ((Ne.symm hne))).trans ((mu_n ((Ne.symm ne0_5))).trans (ha2))) (by omega) (by omega) (by omega)) (cwV 3 hts gX1_loosenBy_X0_isLess rfl rfl rfl (by decide +kernel) ⟨Nat.le_of_ble_eq_true rfl, Nat.le_of_ble_eq_true rfl⟩) ⟨KW.blind, hP.recv hK rfl ((mu_n ne1_2).trans ((mu_n ((Ne.symm ne0_1))).trans (hhn))), fun U9 hU9 hW9 => ⟨rfl, KW.pre hBs hKK hS hP U9 hU9 hW9⟩⟩ rfl rfl hl.1 rfl (lv_room (Nat.le_of_ble_eq_true rfl)) dX1_loosenBy_28 ⟨Nat.le_of_ble_eq_true rfl, Nat.le_of_ble_eq_true rfl⟩) hS (fun r28 m28 H locs hq9 hP hz9 hS => ?_)
        obtain ⟨he9, hbr28, hr28⟩ := hq9
        rw [he9] at hP
        refine lv_if_eq (tgt := 42) hx hb dX1_loosenBy_31 (by decide) (fun hc31 => ?_) (fun hc31 => ?_)
        · refine lv_iinc (v := nI (i1 + 1)) (lv' := [(2, .int (nI (i1 + 1))), (0, .ref h), (1, .ref h2)]) hx hb dX1_loosenBy_42 hl (k := 2) rfl (nI_add _ _) (by decide) rfl (fun ls hl => ?_)
          refine lv_goto (tgt := 11) hx hb dX1_loosenBy_45 (by decide) ?_
          exact ih11 (i1 + 1) g1 b1 (by omega) (by omega) (by omega) _ _ hP hS ls (lv_sub hl [1, 2, 0] rfl)
        · refine lv_aload_n hx hb dX1_loosenBy_34 rfl (lv_at hl 0 rfl) ?_
          refine mw_get (C := RX1) (T := TX1) (N := 2) hx hb hts in_X1_loosenBy_X1 hown hK hP ((mu_n ne0_2).trans (mu_s _ _ _)) rfl 0 (by decide) (hts (.fieldLink RX1 16 "OctagonDesk$Shape" "numbers" "LOctagonDesk$Numbers;") (by decide +kernel)) (fun _ h9 => h9) rfl dX1_loosenBy_35 ?_
          refine lv_iload_n hx hb dX1_loosenBy_38 rfl (lv_at hl 2 rfl) ?_
          refine kc_v (va_runV (As := [.int (nI i1)]) (rest := []) ⟨hx, hb, hml, hown, hts⟩ (c_X0_setInfinite l G B (mu (mu μ h (.inr (1, [.ref hn, .int (nI b1)]))) la (.inl (G.2 0, 158 * k + 158, .inr (.inl g1)))) hn la k g1 i1 ((mu_n ne1_2).trans ((mu_n ((Ne.symm ne0_1))).trans (hhn))) (mu_s _ _ _) (by omega) (by omega)) (cwV 1 hts gX1_loosenBy_X0_setInfinite rfl rfl rfl (by decide +kernel) ⟨Nat.le_of_ble_eq_true rfl, Nat.le_of_ble_eq_true rfl⟩) ⟨KW.blind, hP.recv hK rfl ((mu_n ne1_2).trans ((mu_n ((Ne.symm ne0_1))).trans (hhn))), fun U9 hU9 hW9 => ⟨rfl, KW.pre hBs hKK hS hP U9 hU9 hW9⟩⟩ rfl rfl hl.1 rfl (lv_room (Nat.le_of_ble_eq_true rfl)) dX1_loosenBy_39 ⟨Nat.le_of_ble_eq_true rfl, Nat.le_of_ble_eq_true rfl⟩) hS (fun m39 H locs hq9 hP hz9 hS => ?_)
          obtain ⟨g39, rfl, hg39⟩ := hq9
          have hP : mw G.1 vwCl B (mu (mu μ h (.inr (1, [.ref hn, .int (nI b1)]))) la (.inl (G.2 0, 158 * k + 158, .inr (.inl g39)))) _ := mw_eq (mu_u _ _ _ _) hP
          refine lv_iinc (v := nI (i1 + 1)) (lv' := [(2, .int (nI (i1 + 1))), (0, .ref h), (1, .ref h2)]) hx hb dX1_loosenBy_42 hl (k := 2) rfl (nI_add _ _) (by decide) rfl (fun ls hl => ?_)
          refine lv_goto (tgt := 11) hx hb dX1_loosenBy_45 (by decide) ?_
          exact ih11 (i1 + 1) g39 b1 (by omega) (by omega) (by omega) _ _ hP hS ls (lv_sub hl [1, 2, 0] rfl)
  have hl := lv_entry ([.ref h, .ref h2]) (n := 3) (Nat.le_of_ble_eq_true rfl)
  have he9 : entryFrame m args 3 = entryFrame m ([.ref h, .ref h2] : List Value).toArray 3 := by rw [hargs]
  rw [he9, lg_entry_eq]
  generalize (lg_sl ([.ref h, .ref h2]) ++ List.replicate (3 - (lg_sl ([.ref h, .ref h2])).length) Slot.unset).toArray = ls at hl ⊢
  have hl : lv_has ls 3 [(0, .ref h), (1, .ref h2)] := hl
  refine lv_aload_n hx hb dX1_loosenBy_0 rfl (lv_at hl 0 rfl) ?_
  refine lv_aload_n hx hb dX1_loosenBy_1 rfl (lv_at hl 1 rfl) ?_
  refine kc_i (va_runV (As := [.ref h2]) (rest := []) ⟨hx, hb, hml, hown, hts⟩ (c_X1_isSettledByEmptiness l G B (mu (mu μ h (.inr (1, [.ref hn, .int (nI b)]))) la (.inl (G.2 0, 158 * k + 158, .inr (.inl f)))) h hn la k b f h2 hn2 la2 b2 g  ((mu_n ne0_2).trans (mu_s _ _ _)) ((mu_n ne1_2).trans ((mu_n ((Ne.symm ne0_1))).trans (hhn))) (mu_s _ _ _) ((mu_n ((Ne.symm ne2_3))).trans ((mu_n ((Ne.symm hne0))).trans (hh2))) ((mu_n ((Ne.symm ne2_4))).trans ((mu_n ((Ne.symm ne0_4))).trans (hhn2))) ((mu_n ((Ne.symm hne))).trans ((mu_n ((Ne.symm ne0_5))).trans (ha2))) (by omega) (by omega) (by omega) (hne) (hne0)) (cwV 1 hts gX1_loosenBy_X1_isSettledByEmptiness rfl rfl rfl (by decide +kernel) ⟨Nat.le_of_ble_eq_true rfl, Nat.le_of_ble_eq_true rfl⟩) ⟨KW.blind, hP.recv hK rfl ((mu_n ne0_2).trans (mu_s _ _ _)), fun U9 hU9 hW9 => ⟨rfl, KW.pre hBs hKK hS hP U9 hU9 hW9⟩⟩ rfl rfl hl.1 rfl (lv_room (Nat.le_of_ble_eq_true rfl)) dX1_loosenBy_2 ⟨Nat.le_of_ble_eq_true rfl, Nat.le_of_ble_eq_true rfl⟩) hS (fun r2 m2 H locs hq9 hP hz9 hS => ?_)
  obtain ⟨hr2, g2, b2, rfl, hb2⟩ := hq9
  have hP : mw G.1 vwCl B (mu (mu μ h (.inr (1, [.ref hn, .int (nI b2)]))) la (.inl (G.2 0, 158 * k + 158, .inr (.inl g2)))) _ := mw_eq ((congrArg (fun z => mu z la (.inl (G.2 0, 158 * k + 158, .inr (.inl g2)))) ((mu_c _ _ ((Ne.symm ne0_2))).trans (congrArg (fun z => mu z la (.inl (G.2 0, 158 * k + 158, .inr (.inl f)))) (mu_u _ _ _ _)))).trans (mu_u _ _ _ _)) hP
  refine lv_if_eq (tgt := 9) hx hb dX1_loosenBy_5 (by decide) (fun hc5 => ?_) (fun hc5 => ?_)
  · refine lv_iconst (v := nI 0) hx hb dX1_loosenBy_9 (by decide) ?_
    refine lv_istore_n (lv' := [(2, .int (nI 0)), (0, .ref h), (1, .ref h2)]) hx hb dX1_loosenBy_10 rfl hl (by decide) rfl (fun ls hl => ?_)
    exact L11 _ 0 g2 b2 (Nat.lt_succ_self _) (by omega) (by omega) _ _ hP hS ls (lv_sub hl [1, 2, 0] rfl)
  · rw [hQ]
    exact W.vret hx hb hr (fun t99 ht99 hW99 => ⟨⟨mu (mu μ h (.inr (1, [.ref hn, .int (nI b2)]))) la (.inl (G.2 0, 158 * k + 158, .inr (.inl g2))), rfl, (⟨_, _, rfl, by omega⟩), by show mw _ _ _ _ t99.heap; rw [ht99]; exact hP⟩, hS.F ht99⟩) hS.2.2 dX1_loosenBy_8

abbrev rm_X1_isWithin : Room := { frames := 1, cells := 0, slots := 0, locals := 28 }
set_option maxHeartbeats 4000000 in
set_option maxRecDepth 100000 in
theorem c_X1_isWithin (l : Launch) (G : GG) (B : Nat) (μ : mp) (h hn la k b : Nat) (f : Nat → Int64) (h2 hn2 la2 b2 : Nat) (g : Nat → Int64) (hh : μ h = some (.inr (1, [.ref hn, .int (nI b)]))) (hhn : μ hn = some (.inr (0, [.int (nI 158), .int (nI 157), .ref la, .int (nI (158 * k))]))) (ha : μ la = some (.inl (G.2 0, 158 * k + 158, .inr (.inl f)))) (hh2 : μ h2 = some (.inr (1, [.ref hn2, .int (nI b2)]))) (hhn2 : μ hn2 = some (.inr (0, [.int (nI 158), .int (nI 157), .ref la2, .int (nI (158 * k))]))) (ha2 : μ la2 = some (.inl (G.2 0, 158 * k + 158, .inr (.inl g)))) (hk : k ≤ 1022) (hb1 : b ≤ 1) (hb2 : b2 ≤ 1) : Met l yX1_isWithin wsX1_isWithin rm_X1_isWithin (va_Pc [.ref h, .ref h2] (KW G B μ)) (va_Qi (fun r μ2 => μ2 = μ ∧ (r = 0 ∨ r = 1) ∧ (k = 0 → b = 0 → b2 = 0 → (∀ c, c < 144 → ¬ g c < f c) → r = 1)) (BB G B) (fun q => B ≤ q)) 0 0 (fun q => B ≤ q) := by
  refine Met.ofW (cc := cX1_isWithin) (maxL := 3) (ret := (some .boolean)) (by decide) rfl ?_
  intro p e s m args below meth c s₁ B9 hml hv
  obtain ⟨hargs, hBs, hP, hKK⟩ := hv
  have hx := B9.exec
  have hb := B9.bytes
  have hr := B9.returns
  have hts := atoms_spec (ws := wsX1_isWithin) B9.pre
  have hown : s.vm.findClass RX1 = some m.cls := findClass_of_methodNamed B9.named
  have hlocks := B9.notSynchronized
  have hK := hKK.k
  have hS : va_S (fun q => B ≤ q) s.heap s.heap [] := va_S.rf
  obtain ⟨Q, hQ⟩ : ∃ Q, Q = MQ below (va_Qi (fun r μ2 => μ2 = μ ∧ (r = 0 ∨ r = 1) ∧ (k = 0 → b = 0 → b2 = 0 → (∀ c, c < 144 → ¬ g c < f c) → r = 1)) (BB G B) (fun q => B ≤ q)) args s 0 0 (fun q => B ≤ q) := ⟨_, rfl⟩
  rw [← hQ]
  have ne0_1 : h ≠ hn := mp_ne hh hhn (by simp)
  have ne0_2 : h ≠ la := mp_ne hh ha (by simp)
  have ne0_4 : h ≠ hn2 := mp_ne hh hhn2 (by simp)
  have ne0_5 : h ≠ la2 := mp_ne hh ha2 (by simp)
  have ne1_2 : hn ≠ la := mp_ne hhn ha (by simp)
  have ne1_3 : hn ≠ h2 := mp_ne hhn hh2 (by simp)
  have ne1_5 : hn ≠ la2 := mp_ne hhn ha2 (by simp)
  have ne2_3 : la ≠ h2 := mp_ne ha hh2 (by simp)
  have ne2_4 : la ≠ hn2 := mp_ne ha hhn2 (by simp)
  have ne3_4 : h2 ≠ hn2 := mp_ne hh2 hhn2 (by simp)
  have ne3_5 : h2 ≠ la2 := mp_ne hh2 ha2 (by simp)
  have ne4_5 : hn2 ≠ la2 := mp_ne hhn2 ha2 (by simp)
  have in_X1_isWithin_X1 : ∀ w ∈ wsX10, w ∈ wsX1_isWithin := by decide +kernel
  have L21 : ∀ (N21 : Nat) (i1 : Nat) (hN21 : 144 - i1 < N21) (hi : i1 ≤ 144), ∀ (H : Heap) (locs : List Loc), mw G.1 vwCl B (μ) H → va_S (fun q => B ≤ q) s.heap H locs → ∀ ls : Array Slot, lv_has ls 3 [(0, .ref h), (1, .ref h2), (2, .int (nI i1))] → W p l e rm_X1_isWithin s m args below meth c H locs 0 0 Q (F0 m 21 ls []) := by
    intro N21
    induction N21 with
    | zero => intro i1 hN21; exact absurd hN21 (Nat.not_lt_zero _)
    | succ N21 ih21 =>
      intro i1 hN21 hi H locs hP hS ls hl
      refine lv_iload_n hx hb dX1_isWithin_21 rfl (lv_at hl 2 rfl) ?_
      refine lv_sipush (v := nI 144) hx hb dX1_isWithin_22 (by decide) ?_
      refine nv_icmp_ge (tgt := 52) hx hb (by omega) (by omega) dX1_isWithin_25 (by decide) (fun hc25 => ?_) (fun hc25 => ?_)
      · refine lv_iconst (v := nI 1) hx hb dX1_isWithin_52 (by decide) ?_
        rw [hQ]
        exact W.zret (v := nI 1) (ty := .boolean) hx hb hr (by first | rfl | decide) (fun t99 ht99 hW99 => ⟨⟨nI 1, μ, rfl, (⟨rfl, Or.inr rfl, fun _ _ _ _ => rfl⟩), by show mw _ _ _ _ t99.heap; rw [ht99]; exact hP⟩, hS.F ht99⟩) hS.2.2 dX1_isWithin_53
      · refine lv_aload_n hx hb dX1_isWithin_28 rfl (lv_at hl 1 rfl) ?_
        refine mw_get (C := RX1) (T := TX1) (N := 2) hx hb hts in_X1_isWithin_X1 hown hK hP (hh2) rfl 0 (by decide) (hts (.fieldLink RX1 16 "OctagonDesk$Shape" "numbers" "LOctagonDesk$Numbers;") (by decide +kernel)) (fun _ h9 => h9) rfl dX1_isWithin_29 ?_
        refine lv_iload_n hx hb dX1_isWithin_32 rfl (lv_at hl 2 rfl) ?_
        refine lv_aload_n hx hb dX1_isWithin_33 rfl (lv_at hl 0 rfl) ?_
        refine mw_get (C := RX1) (T := TX1) (N := 2) hx hb hts in_X1_isWithin_X1 hown hK hP (hh) rfl 0 (by decide) (hts (.fieldLink RX1 16 "OctagonDesk$Shape" "numbers" "LOctagonDesk$Numbers;") (by decide +kernel)) (fun _ h9 => h9) rfl dX1_isWithin_34 ?_
        refine lv_iload_n hx hb dX1_isWithin_37 rfl (lv_at hl 2 rfl) ?_
        refine kc_i (va_runV (As := [.int (nI i1), .ref hn, .int (nI i1)]) (rest := []) ⟨hx, hb, hml, hown, hts⟩ (c_X0_isLess l G B (μ) hn2 la2 k g hn la f i1 i1 (hhn2) (ha2) (hhn) (ha) (by omega) (by omega) (by omega)) (cwV 3 hts gX1_isWithin_X0_isLess rfl rfl rfl (by decide +kernel) ⟨Nat.le_of_ble_eq_true rfl, Nat.le_of_ble_eq_true rfl⟩) ⟨KW.blind, hP.recv hK rfl (hhn2), fun U9 hU9 hW9 => ⟨rfl, KW.pre hBs hKK hS hP U9 hU9 hW9⟩⟩ rfl rfl hl.1 rfl (lv_room (Nat.le_of_ble_eq_true rfl)) dX1_isWithin_38 ⟨Nat.le_of_ble_eq_true rfl, Nat.le_of_ble_eq_true rfl⟩) hS (fun r38 m38 H locs hq9 hP hz9 hS => ?_)
        obtain ⟨he9, hbr38, hr38⟩ := hq9
        rw [he9] at hP
        refine lv_if_eq (tgt := 46) hx hb dX1_isWithin_41 (by decide) (fun hc41 => ?_) (fun hc41 => ?_)
        · refine lv_iinc (v := nI (i1 + 1)) (lv' := [(2, .int (nI (i1 + 1))), (0, .ref h), (1, .ref h2)]) hx hb dX1_isWithin_46 hl (k := 2) rfl (nI_add _ _) (by decide) rfl (fun ls hl => ?_)
          refine lv_goto (tgt := 21) hx hb dX1_isWithin_49 (by decide) ?_
          exact ih21 (i1 + 1) (by omega) (by omega) _ _ hP hS ls (lv_sub hl [1, 2, 0] rfl)
        · refine lv_iconst (v := nI 0) hx hb dX1_isWithin_44 (by decide) ?_
          rw [hQ]
          exact W.zret (v := nI 0) (ty := .boolean) hx hb hr (by first | rfl | decide) (fun t99 ht99 hW99 => ⟨⟨nI 0, μ, rfl, (⟨rfl, Or.inl rfl, fun h0 _ _ h1 => by have e := hr38 h0; rw [if_neg (h1 i1 (by omega))] at e; exact absurd e hc41⟩), by show mw _ _ _ _ t99.heap; rw [ht99]; exact hP⟩, hS.F ht99⟩) hS.2.2 dX1_isWithin_45
  have hl := lv_entry ([.ref h, .ref h2]) (n := 3) (Nat.le_of_ble_eq_true rfl)
  have he9 : entryFrame m args 3 = entryFrame m ([.ref h, .ref h2] : List Value).toArray 3 := by rw [hargs]
  rw [he9, lg_entry_eq]
  generalize (lg_sl ([.ref h, .ref h2]) ++ List.replicate (3 - (lg_sl ([.ref h, .ref h2])).length) Slot.unset).toArray = ls at hl ⊢
  have hl : lv_has ls 3 [(0, .ref h), (1, .ref h2)] := hl
  refine lv_aload_n hx hb dX1_isWithin_0 rfl (lv_at hl 0 rfl) ?_
  refine mw_get (C := RX1) (T := TX1) (N := 2) hx hb hts in_X1_isWithin_X1 hown hK hP (hh) rfl 1 (by decide) (hts (.fieldLink RX1 20 "OctagonDesk$Shape" "empty" "Z") (by decide +kernel)) (fun _ h9 => h9) rfl dX1_isWithin_1 ?_
  refine lv_if_ne (tgt := 14) hx hb dX1_isWithin_4 (by decide) (fun hc4 => ?_) (fun hc4 => ?_)
  · refine lv_aload_n hx hb dX1_isWithin_14 rfl (lv_at hl 0 rfl) ?_
    refine mw_get (C := RX1) (T := TX1) (N := 2) hx hb hts in_X1_isWithin_X1 hown hK hP (hh) rfl 1 (by decide) (hts (.fieldLink RX1 20 "OctagonDesk$Shape" "empty" "Z") (by decide +kernel)) (fun _ h9 => h9) rfl dX1_isWithin_15 ?_
    rw [hQ]
    exact W.zret (v := nI b) (ty := .boolean) hx hb hr (zb_n (by omega)) (fun t99 ht99 hW99 => ⟨⟨nI b, μ, rfl, (⟨rfl, by rcases (show b = 0 ∨ b = 1 by omega) with e | e <;> subst e; exact Or.inl rfl; exact Or.inr rfl, fun _ e1 e2 _ => by first | exact absurd (nb_1 hb2 hc11) (by omega) | exact absurd (nb_1 hb1 hc4) (by omega)⟩), by show mw _ _ _ _ t99.heap; rw [ht99]; exact hP⟩, hS.F ht99⟩) hS.2.2 dX1_isWithin_18
  · refine lv_aload_n hx hb dX1_isWithin_7 rfl (lv_at hl 1 rfl) ?_
    refine mw_get (C := RX1) (T := TX1) (N := 2) hx hb hts in_X1_isWithin_X1 hown hK hP (hh2) rfl 1 (by decide) (hts (.fieldLink RX1 20 "OctagonDesk$Shape" "empty" "Z") (by decide +kernel)) (fun _ h9 => h9) rfl dX1_isWithin_8 ?_
    refine lv_if_eq (tgt := 19) hx hb dX1_isWithin_11 (by decide) (fun hc11 => ?_) (fun hc11 => ?_)
    · refine lv_iconst (v := nI 0) hx hb dX1_isWithin_19 (by decide) ?_
      refine lv_istore_n (lv' := [(2, .int (nI 0)), (0, .ref h), (1, .ref h2)]) hx hb dX1_isWithin_20 rfl hl (by decide) rfl (fun ls hl => ?_)
      exact L21 _ 0 (Nat.lt_succ_self _) (by omega) _ _ hP hS ls (lv_sub hl [1, 2, 0] rfl)
    · refine lv_aload_n hx hb dX1_isWithin_14 rfl (lv_at hl 0 rfl) ?_
      refine mw_get (C := RX1) (T := TX1) (N := 2) hx hb hts in_X1_isWithin_X1 hown hK hP (hh) rfl 1 (by decide) (hts (.fieldLink RX1 20 "OctagonDesk$Shape" "empty" "Z") (by decide +kernel)) (fun _ h9 => h9) rfl dX1_isWithin_15 ?_
      rw [hQ]
      exact W.zret (v := nI b) (ty := .boolean) hx hb hr (zb_n (by omega)) (fun t99 ht99 hW99 => ⟨⟨nI b, μ, rfl, (⟨rfl, by rcases (show b = 0 ∨ b = 1 by omega) with e | e <;> subst e; exact Or.inl rfl; exact Or.inr rfl, fun _ e1 e2 _ => by first | exact absurd (nb_1 hb2 hc11) (by omega) | exact absurd (nb_1 hb1 hc4) (by omega)⟩), by show mw _ _ _ _ t99.heap; rw [ht99]; exact hP⟩, hS.F ht99⟩) hS.2.2 dX1_isWithin_18

abbrev rm_X1_mostOf : Room := { frames := 2, cells := 0, slots := 0, locals := 49 }
set_option maxHeartbeats 4000000 in
set_option maxRecDepth 100000 in
theorem c_X1_mostOf (l : Launch) (G : GG) (B : Nat) (μ : mp) (h hn la k b : Nat) (f : Nat → Int64) (p9 q9 : Nat) (hh : μ h = some (.inr (1, [.ref hn, .int (nI b)]))) (hhn : μ hn = some (.inr (0, [.int (nI 158), .int (nI 157), .ref la, .int (nI (158 * k))]))) (ha : μ la = some (.inl (G.2 0, 158 * k + 158, .inr (.inl f)))) (hk : k ≤ 1022) (hp9 : p9 < 12) (hq9a : q9 < 12) : Met l yX1_mostOf wsX1_mostOf rm_X1_mostOf (va_Pc [.ref h, .int (nI p9), .int (nI q9)] (KW G B μ)) (va_Ql (fun r μ2 => ∃ g9 : Nat → Int64, μ2 = mu μ la (.inl (G.2 0, 158 * k + 158, .inr (.inl g9))) ∧ (k = 0 → Sm f g9 ∧ r = if p9 = q9 then hf (f (p9 * 12 + p9)) else f (p9 * 12 + q9))) (BB G B) (fun q => B ≤ q)) 0 0 (fun q => B ≤ q) := by
  refine Met.ofW (cc := cX1_mostOf) (maxL := 3) (ret := (some .long)) (by decide) rfl ?_
  intro p e s m args below meth c s₁ B9 hml hv
  obtain ⟨hargs, hBs, hP, hKK⟩ := hv
  have hx := B9.exec
  have hb := B9.bytes
  have hr := B9.returns
  have hts := atoms_spec (ws := wsX1_mostOf) B9.pre
  have hown : s.vm.findClass RX1 = some m.cls := findClass_of_methodNamed B9.named
  have hlocks := B9.notSynchronized
  have hK := hKK.k
  have hS : va_S (fun q => B ≤ q) s.heap s.heap [] := va_S.rf
  obtain ⟨Q, hQ⟩ : ∃ Q, Q = MQ below (va_Ql (fun r μ2 => ∃ g9 : Nat → Int64, μ2 = mu μ la (.inl (G.2 0, 158 * k + 158, .inr (.inl g9))) ∧ (k = 0 → Sm f g9 ∧ r = if p9 = q9 then hf (f (p9 * 12 + p9)) else f (p9 * 12 + q9))) (BB G B) (fun q => B ≤ q)) args s 0 0 (fun q => B ≤ q) := ⟨_, rfl⟩
  rw [← hQ]
  have ne0_1 : h ≠ hn := mp_ne hh hhn (by simp)
  have ne0_2 : h ≠ la := mp_ne hh ha (by simp)
  have ne1_2 : hn ≠ la := mp_ne hhn ha (by simp)
  have in_X1_mostOf_X1 : ∀ w ∈ wsX10, w ∈ wsX1_mostOf := by decide +kernel
  have hP : mw G.1 vwCl B (mu μ la (.inl (G.2 0, 158 * k + 158, .inr (.inl f)))) s.heap := mw_eq (mu_i ha).symm hP
  have hl := lv_entry ([.ref h, .int (nI p9), .int (nI q9)]) (n := 3) (Nat.le_of_ble_eq_true rfl)
  have he9 : entryFrame m args 3 = entryFrame m ([.ref h, .int (nI p9), .int (nI q9)] : List Value).toArray 3 := by rw [hargs]
  rw [he9, lg_entry_eq]
  generalize (lg_sl ([.ref h, .int (nI p9), .int (nI q9)]) ++ List.replicate (3 - (lg_sl ([.ref h, .int (nI p9), .int (nI q9)])).length) Slot.unset).toArray = ls at hl ⊢
  have hl : lv_has ls 3 [(0, .ref h), (1, .int (nI p9)), (2, .int (nI q9))] := hl
  refine lv_iload_n hx hb dX1_mostOf_0 rfl (lv_at hl 1 rfl) ?_
  refine lv_iload_n hx hb dX1_mostOf_1 rfl (lv_at hl 2 rfl) ?_
  refine nv_icmp_eq (tgt := 18) hx hb (by omega) (by omega) dX1_mostOf_2 (by decide) (fun hc2 => ?_) (fun hc2 => ?_)
  · refine lv_aload_n hx hb dX1_mostOf_18 rfl (lv_at hl 0 rfl) ?_
    refine mw_get (C := RX1) (T := TX1) (N := 2) hx hb hts in_X1_mostOf_X1 hown hK hP ((mu_n ne0_2).trans (hh)) rfl 0 (by decide) (hts (.fieldLink RX1 16 "OctagonDesk$Shape" "numbers" "LOctagonDesk$Numbers;") (by decide +kernel)) (fun _ h9 => h9) rfl dX1_mostOf_19 ?_
    refine lv_sipush (v := nI 156) hx hb dX1_mostOf_22 (by decide) ?_
    refine lv_iload_n hx hb dX1_mostOf_25 rfl (lv_at hl 1 rfl) ?_
    refine lv_iload_n hx hb dX1_mostOf_26 rfl (lv_at hl 1 rfl) ?_
    refine kc_i (va_runS (As := [.int (nI p9), .int (nI p9)]) (rest := [.int (nI 156), .ref hn]) ⟨hx, hb, hml, hown, hts⟩ (c_X1_cell l G B (mu μ la (.inl (G.2 0, 158 * k + 158, .inr (.inl f)))) p9 p9) (va_cwS 2 hts gX1_mostOf_X1_cell rfl rfl rfl (by decide +kernel) ⟨Nat.le_of_ble_eq_true rfl, Nat.le_of_ble_eq_true rfl⟩) ⟨KW.blind, fun U9 hU9 hW9 => ⟨rfl, KW.pre hBs hKK hS hP U9 hU9 hW9⟩⟩ rfl rfl hl.1 rfl (lv_room (Nat.le_of_ble_eq_true rfl)) dX1_mostOf_27 ⟨Nat.le_of_ble_eq_true rfl, Nat.le_of_ble_eq_true rfl⟩) hS (fun r27 m27 H locs hq9 hP hz9 hS => ?_)
    obtain ⟨he9, rfl⟩ := hq9
    rw [he9] at hP
    refine kc_v (va_runV (As := [.int (nI 156), .int (nI (p9 * 12 + p9))]) (rest := []) ⟨hx, hb, hml, hown, hts⟩ (c_X0_putHalf l G B (mu μ la (.inl (G.2 0, 158 * k + 158, .inr (.inl f)))) hn la k f 156 (p9 * 12 + p9) ((mu_n ne1_2).trans (hhn)) (mu_s _ _ _) (by omega) (by omega) (by omega)) (cwV 2 hts gX1_mostOf_X0_putHalf rfl rfl rfl (by decide +kernel) ⟨Nat.le_of_ble_eq_true rfl, Nat.le_of_ble_eq_true rfl⟩) ⟨KW.blind, hP.recv hK rfl ((mu_n ne1_2).trans (hhn)), fun U9 hU9 hW9 => ⟨rfl, KW.pre hBs hKK hS hP U9 hU9 hW9⟩⟩ rfl rfl hl.1 rfl (lv_room (Nat.le_of_ble_eq_true rfl)) dX1_mostOf_30 ⟨Nat.le_of_ble_eq_true rfl, Nat.le_of_ble_eq_true rfl⟩) hS (fun m30 H locs hq9 hP hz9 hS => ?_)
    obtain ⟨g30, rfl, hg30⟩ := hq9
    have hP : mw G.1 vwCl B (mu μ la (.inl (G.2 0, 158 * k + 158, .inr (.inl g30)))) _ := mw_eq (mu_u _ _ _ _) hP
    refine lv_aload_n hx hb dX1_mostOf_33 rfl (lv_at hl 0 rfl) ?_
    refine mw_get (C := RX1) (T := TX1) (N := 2) hx hb hts in_X1_mostOf_X1 hown hK hP ((mu_n ne0_2).trans (hh)) rfl 0 (by decide) (hts (.fieldLink RX1 16 "OctagonDesk$Shape" "numbers" "LOctagonDesk$Numbers;") (by decide +kernel)) (fun _ h9 => h9) rfl dX1_mostOf_34 ?_
    refine lv_sipush (v := nI 156) hx hb dX1_mostOf_37 (by decide) ?_
    refine kc_l (va_runV (As := [.int (nI 156)]) (rest := []) ⟨hx, hb, hml, hown, hts⟩ (c_X0_nearestLong l G B (mu μ la (.inl (G.2 0, 158 * k + 158, .inr (.inl g30)))) hn la k g30 156 ((mu_n ne1_2).trans (hhn)) (mu_s _ _ _) (by omega) (by omega)) (cwV 1 hts gX1_mostOf_X0_nearestLong rfl rfl rfl (by decide +kernel) ⟨Nat.le_of_ble_eq_true rfl, Nat.le_of_ble_eq_true rfl⟩) ⟨KW.blind, hP.recv hK rfl ((mu_n ne1_2).trans (hhn)), fun U9 hU9 hW9 => ⟨rfl, KW.pre hBs hKK hS hP U9 hU9 hW9⟩⟩ rfl rfl hl.1 rfl (lv_room (Nat.le_of_ble_eq_true rfl)) dX1_mostOf_40 ⟨Nat.le_of_ble_eq_true rfl, Nat.le_of_ble_eq_true rfl⟩) hS (fun r40 m40 H locs hq9 hP hz9 hS => ?_)
    obtain ⟨he9, hr40⟩ := hq9
    rw [he9] at hP
    rw [hQ]
    exact W.lret (v := r40) hx hb hr (fun t99 ht99 hW99 => ⟨⟨r40, mu μ la (.inl (G.2 0, 158 * k + 158, .inr (.inl g30))), rfl, (⟨_, rfl, fun h0 => ⟨by rw [hg30 h0]; exact (Sm.rf f).upd (by omega) _, by rw [if_pos hc2, hr40 h0, hg30 h0, pk_uLs]⟩⟩), by show mw _ _ _ _ t99.heap; rw [ht99]; exact hP⟩, hS.F ht99⟩) hS.2.2 dX1_mostOf_43
  · refine lv_aload_n hx hb dX1_mostOf_5 rfl (lv_at hl 0 rfl) ?_
    refine mw_get (C := RX1) (T := TX1) (N := 2) hx hb hts in_X1_mostOf_X1 hown hK hP ((mu_n ne0_2).trans (hh)) rfl 0 (by decide) (hts (.fieldLink RX1 16 "OctagonDesk$Shape" "numbers" "LOctagonDesk$Numbers;") (by decide +kernel)) (fun _ h9 => h9) rfl dX1_mostOf_6 ?_
    refine lv_iload_n hx hb dX1_mostOf_9 rfl (lv_at hl 1 rfl) ?_
    refine lv_iload_n hx hb dX1_mostOf_10 rfl (lv_at hl 2 rfl) ?_
    refine kc_i (va_runS (As := [.int (nI p9), .int (nI q9)]) (rest := [.ref hn]) ⟨hx, hb, hml, hown, hts⟩ (c_X1_cell l G B (mu μ la (.inl (G.2 0, 158 * k + 158, .inr (.inl f)))) p9 q9) (va_cwS 2 hts gX1_mostOf_X1_cell rfl rfl rfl (by decide +kernel) ⟨Nat.le_of_ble_eq_true rfl, Nat.le_of_ble_eq_true rfl⟩) ⟨KW.blind, fun U9 hU9 hW9 => ⟨rfl, KW.pre hBs hKK hS hP U9 hU9 hW9⟩⟩ rfl rfl hl.1 rfl (lv_room (Nat.le_of_ble_eq_true rfl)) dX1_mostOf_11 ⟨Nat.le_of_ble_eq_true rfl, Nat.le_of_ble_eq_true rfl⟩) hS (fun r11 m11 H locs hq9 hP hz9 hS => ?_)
    obtain ⟨he9, rfl⟩ := hq9
    rw [he9] at hP
    refine kc_l (va_runV (As := [.int (nI (p9 * 12 + q9))]) (rest := []) ⟨hx, hb, hml, hown, hts⟩ (c_X0_nearestLong l G B (mu μ la (.inl (G.2 0, 158 * k + 158, .inr (.inl f)))) hn la k f (p9 * 12 + q9) ((mu_n ne1_2).trans (hhn)) (mu_s _ _ _) (by omega) (by omega)) (cwV 1 hts gX1_mostOf_X0_nearestLong rfl rfl rfl (by decide +kernel) ⟨Nat.le_of_ble_eq_true rfl, Nat.le_of_ble_eq_true rfl⟩) ⟨KW.blind, hP.recv hK rfl ((mu_n ne1_2).trans (hhn)), fun U9 hU9 hW9 => ⟨rfl, KW.pre hBs hKK hS hP U9 hU9 hW9⟩⟩ rfl rfl hl.1 rfl (lv_room (Nat.le_of_ble_eq_true rfl)) dX1_mostOf_14 ⟨Nat.le_of_ble_eq_true rfl, Nat.le_of_ble_eq_true rfl⟩) hS (fun r14 m14 H locs hq9 hP hz9 hS => ?_)
    obtain ⟨he9, hr14⟩ := hq9
    rw [he9] at hP
    rw [hQ]
    exact W.lret (v := r14) hx hb hr (fun t99 ht99 hW99 => ⟨⟨r14, mu μ la (.inl (G.2 0, 158 * k + 158, .inr (.inl f))), rfl, (⟨_, rfl, fun h0 => ⟨fun _ _ => rfl, by rw [if_neg hc2]; exact hr14 h0⟩⟩), by show mw _ _ _ _ t99.heap; rw [ht99]; exact hP⟩, hS.F ht99⟩) hS.2.2 dX1_mostOf_17

abbrev rm_X1_countBounds : Room := { frames := 1, cells := 0, slots := 0, locals := 21 }
set_option maxHeartbeats 4000000 in
set_option maxRecDepth 100000 in
theorem c_X1_countBounds (l : Launch) (G : GG) (B : Nat) (μ : mp) (h hn la k b : Nat) (f : Nat → Int64) (hh : μ h = some (.inr (1, [.ref hn, .int (nI b)]))) (hhn : μ hn = some (.inr (0, [.int (nI 158), .int (nI 157), .ref la, .int (nI (158 * k))]))) (ha : μ la = some (.inl (G.2 0, 158 * k + 158, .inr (.inl f)))) (hk : k ≤ 1022) : Met l yX1_countBounds wsX1_countBounds rm_X1_countBounds (va_Pc [.ref h] (KW G B μ)) (va_Qi (fun r μ2 => μ2 = μ ∧ ∃ n9 : Nat, r = nI n9 ∧ (k = 0 → (∀ p q, p < 12 → q < 12 → q ≠ ne p → f (p * 12 + q) = INF) → n9 = 0)) (BB G B) (fun q => B ≤ q)) 0 0 (fun q => B ≤ q) := by
  refine Met.ofW (cc := cX1_countBounds) (maxL := 4) (ret := (some .int)) (by decide) rfl ?_
  intro p e s m args below meth c s₁ B9 hml hv
  obtain ⟨hargs, hBs, hP, hKK⟩ := hv
  have hx := B9.exec
  have hb := B9.bytes
  have hr := B9.returns
  have hts := atoms_spec (ws := wsX1_countBounds) B9.pre
  have hown : s.vm.findClass RX1 = some m.cls := findClass_of_methodNamed B9.named
  have hlocks := B9.notSynchronized
  have hK := hKK.k
  have hS : va_S (fun q => B ≤ q) s.heap s.heap [] := va_S.rf
  obtain ⟨Q, hQ⟩ : ∃ Q, Q = MQ below (va_Qi (fun r μ2 => μ2 = μ ∧ ∃ n9 : Nat, r = nI n9 ∧ (k = 0 → (∀ p q, p < 12 → q < 12 → q ≠ ne p → f (p * 12 + q) = INF) → n9 = 0)) (BB G B) (fun q => B ≤ q)) args s 0 0 (fun q => B ≤ q) := ⟨_, rfl⟩
  rw [← hQ]
  have ne0_1 : h ≠ hn := mp_ne hh hhn (by simp)
  have ne0_2 : h ≠ la := mp_ne hh ha (by simp)
  have ne1_2 : hn ≠ la := mp_ne hhn ha (by simp)
  have in_X1_countBounds_X1 : ∀ w ∈ wsX10, w ∈ wsX1_countBounds := by decide +kernel
  have L4 : ∀ (N4 : Nat) (p1 : Nat) (n1 : Nat) (hN4 : 12 - p1 < N4) (hp : p1 ≤ 12) (hz : k = 0 → (∀ p q, p < 12 → q < 12 → q ≠ ne p → f (p * 12 + q) = INF) → n1 = 0), ∀ (H : Heap) (locs : List Loc), mw G.1 vwCl B (μ) H → va_S (fun q => B ≤ q) s.heap H locs → ∀ ls : Array Slot, lv_has ls 4 [(0, .ref h), (1, .int (nI n1)), (2, .int (nI p1))] → W p l e rm_X1_countBounds s m args below meth c H locs 0 0 Q (F0 m 4 ls []) := by
    intro N4
    induction N4 with
    | zero => intro p1 n1 hN4; exact absurd hN4 (Nat.not_lt_zero _)
    | succ N4 ih4 =>
      intro p1 n1 hN4 hp hz H locs hP hS ls hl
      have L12 : ∀ (N12 : Nat) (q1 : Nat) (n1 : Nat) (hN12 : 12 - q1 < N12) (hpo : p1 < 12) (hq : q1 ≤ 12) (hz : k = 0 → (∀ p q, p < 12 → q < 12 → q ≠ ne p → f (p * 12 + q) = INF) → n1 = 0), ∀ (H : Heap) (locs : List Loc), mw G.1 vwCl B (μ) H → va_S (fun q => B ≤ q) s.heap H locs → ∀ ls : Array Slot, lv_has ls 4 [(0, .ref h), (1, .int (nI n1)), (2, .int (nI p1)), (3, .int (nI q1))] → W p l e rm_X1_countBounds s m args below meth c H locs 0 0 Q (F0 m 12 ls []) := by
        intro N12
        induction N12 with
        | zero => intro q1 n1 hN12; exact absurd hN12 (Nat.not_lt_zero _)
        | succ N12 ih12 =>
          intro q1 n1 hN12 hpo hq hz H locs hP hS ls hl
          refine lv_iload_n hx hb dX1_countBounds_12 rfl (lv_at hl 3 rfl) ?_
          refine lv_bipush (v := nI 12) hx hb dX1_countBounds_13 (by decide) ?_
          refine nv_icmp_ge (tgt := 50) hx hb (by omega) (by omega) dX1_countBounds_15 (by decide) (fun hc15 => ?_) (fun hc15 => ?_)
          · refine lv_iinc (v := nI (p1 + 1)) (lv' := [(2, .int (nI (p1 + 1))), (0, .ref h), (1, .int (nI n1)), (3, .int (nI q1))]) hx hb dX1_countBounds_50 hl (k := 2) rfl (nI_add _ _) (by decide) rfl (fun ls hl => ?_)
            refine lv_goto (tgt := 4) hx hb dX1_countBounds_53 (by decide) ?_
            exact ih4 (p1 + 1) n1 (by omega) (by omega) (hz) _ _ hP hS ls (lv_sub hl [1, 2, 0] rfl)
          · refine lv_iload_n hx hb dX1_countBounds_18 rfl (lv_at hl 3 rfl) ?_
            refine lv_iload_n hx hb dX1_countBounds_19 rfl (lv_at hl 2 rfl) ?_
            refine kc_i (va_runSN (As := [.int (nI p1)]) (rest := [.int (nI q1)]) ⟨hx, hb, hml, hown, hts⟩ (c_X3_negation l G B (μ) p1 (by omega)) ⟨va_cnB 1 hts gX1_countBounds_X3_negation_n82 rfl rfl rfl hKK.2.1.1 (hts (.initialized RX3) (by decide +kernel)) (by decide +kernel) ⟨Nat.le_of_ble_eq_true rfl, Nat.le_of_ble_eq_true rfl⟩, hts (.static yX3_negation) (by decide +kernel), trivial⟩ ⟨KW.blind, fun U9 hU9 hW9 => ⟨rfl, KW.pre hBs hKK hS hP U9 hU9 hW9⟩⟩ rfl rfl hl.1 rfl (lv_room (Nat.le_of_ble_eq_true rfl)) dX1_countBounds_20 ⟨Nat.le_of_ble_eq_true rfl, Nat.le_of_ble_eq_true rfl⟩) hS (fun r20 m20 H locs hq9 hP hz9 hS => ?_)
            obtain ⟨he9, rfl⟩ := hq9
            rw [he9] at hP
            have hne20 := ne_lt (p := p1) (by omega)
            refine nv_icmp_eq (tgt := 44) hx hb (by omega) (by omega) dX1_countBounds_23 (by decide) (fun hc23 => ?_) (fun hc23 => ?_)
            · refine lv_iinc (v := nI (q1 + 1)) (lv' := [(3, .int (nI (q1 + 1))), (0, .ref h), (1, .int (nI n1)), (2, .int (nI p1))]) hx hb dX1_countBounds_44 hl (k := 3) rfl (nI_add _ _) (by decide) rfl (fun ls hl => ?_)
              refine lv_goto (tgt := 12) hx hb dX1_countBounds_47 (by decide) ?_
              exact ih12 (q1 + 1) n1 (by omega) (by omega) (by omega) (hz) _ _ hP hS ls (lv_sub hl [1, 2, 3, 0] rfl)
            · refine lv_aload_n hx hb dX1_countBounds_26 rfl (lv_at hl 0 rfl) ?_
              refine mw_get (C := RX1) (T := TX1) (N := 2) hx hb hts in_X1_countBounds_X1 hown hK hP (hh) rfl 0 (by decide) (hts (.fieldLink RX1 16 "OctagonDesk$Shape" "numbers" "LOctagonDesk$Numbers;") (by decide +kernel)) (fun _ h9 => h9) rfl dX1_countBounds_27 ?_
              refine lv_iload_n hx hb dX1_countBounds_30 rfl (lv_at hl 2 rfl) ?_
              refine lv_iload_n hx hb dX1_countBounds_31 rfl (lv_at hl 3 rfl) ?_
              refine kc_i (va_runS (As := [.int (nI p1), .int (nI q1)]) (rest := [.ref hn]) ⟨hx, hb, hml, hown, hts⟩ (c_X1_cell l G B (μ) p1 q1) (va_cwS 2 hts gX1_countBounds_X1_cell rfl rfl rfl (by decide +kernel) ⟨Nat.le_of_ble_eq_true rfl, Nat.le_of_ble_eq_true rfl⟩) ⟨KW.blind, fun U9 hU9 hW9 => ⟨rfl, KW.pre hBs hKK hS hP U9 hU9 hW9⟩⟩ rfl rfl hl.1 rfl (lv_room (Nat.le_of_ble_eq_true rfl)) dX1_countBounds_32 ⟨Nat.le_of_ble_eq_true rfl, Nat.le_of_ble_eq_true rfl⟩) hS (fun r32 m32 H locs hq9 hP hz9 hS => ?_)
              obtain ⟨he9, rfl⟩ := hq9
              rw [he9] at hP
              refine kc_i (va_runV (As := [.int (nI (p1 * 12 + q1))]) (rest := []) ⟨hx, hb, hml, hown, hts⟩ (c_X0_isInfinite l G B (μ) hn la k f (p1 * 12 + q1) (hhn) (ha) (by omega) (by omega)) (cwV 1 hts gX1_countBounds_X0_isInfinite rfl rfl rfl (by decide +kernel) ⟨Nat.le_of_ble_eq_true rfl, Nat.le_of_ble_eq_true rfl⟩) ⟨KW.blind, hP.recv hK rfl (hhn), fun U9 hU9 hW9 => ⟨rfl, KW.pre hBs hKK hS hP U9 hU9 hW9⟩⟩ rfl rfl hl.1 rfl (lv_room (Nat.le_of_ble_eq_true rfl)) dX1_countBounds_35 ⟨Nat.le_of_ble_eq_true rfl, Nat.le_of_ble_eq_true rfl⟩) hS (fun r35 m35 H locs hq9 hP hz9 hS => ?_)
              obtain ⟨he9, hr35⟩ := hq9
              rw [he9] at hP
              refine lv_if_ne (tgt := 44) hx hb dX1_countBounds_38 (by decide) (fun hc38 => ?_) (fun hc38 => ?_)
              · refine lv_iinc (v := nI (q1 + 1)) (lv' := [(3, .int (nI (q1 + 1))), (0, .ref h), (1, .int (nI n1)), (2, .int (nI p1))]) hx hb dX1_countBounds_44 hl (k := 3) rfl (nI_add _ _) (by decide) rfl (fun ls hl => ?_)
                refine lv_goto (tgt := 12) hx hb dX1_countBounds_47 (by decide) ?_
                exact ih12 (q1 + 1) n1 (by omega) (by omega) (by omega) (hz) _ _ hP hS ls (lv_sub hl [1, 2, 3, 0] rfl)
              · refine lv_iinc (v := nI (n1 + 1)) (lv' := [(1, .int (nI (n1 + 1))), (0, .ref h), (2, .int (nI p1)), (3, .int (nI q1))]) hx hb dX1_countBounds_41 hl (k := 1) rfl (nI_add _ _) (by decide) rfl (fun ls hl => ?_)
                refine lv_iinc (v := nI (q1 + 1)) (lv' := [(3, .int (nI (q1 + 1))), (1, .int (nI (n1 + 1))), (0, .ref h), (2, .int (nI p1))]) hx hb dX1_countBounds_44 hl (k := 3) rfl (nI_add _ _) (by decide) rfl (fun ls hl => ?_)
                refine lv_goto (tgt := 12) hx hb dX1_countBounds_47 (by decide) ?_
                exact ih12 (q1 + 1) (n1 + 1) (by omega) (by omega) (by omega) (fun h0 h1 => by have e := hr35; subst h0; rw [Nat.mul_zero, Nat.zero_add, if_pos (h1 p1 q1 (by omega) (by omega) hc23), hc38] at e; exact absurd e (by decide)) _ _ hP hS ls (lv_sub hl [2, 1, 3, 0] rfl)
      refine lv_iload_n hx hb dX1_countBounds_4 rfl (lv_at hl 2 rfl) ?_
      refine lv_bipush (v := nI 12) hx hb dX1_countBounds_5 (by decide) ?_
      refine nv_icmp_ge (tgt := 56) hx hb (by omega) (by omega) dX1_countBounds_7 (by decide) (fun hc7 => ?_) (fun hc7 => ?_)
      · refine lv_iload_n hx hb dX1_countBounds_56 rfl (lv_at hl 1 rfl) ?_
        rw [hQ]
        exact W.iret (v := nI n1) hx hb hr (fun t99 ht99 hW99 => ⟨⟨nI n1, μ, rfl, (⟨rfl, _, rfl, hz⟩), by show mw _ _ _ _ t99.heap; rw [ht99]; exact hP⟩, hS.F ht99⟩) hS.2.2 dX1_countBounds_57
      · refine lv_iload_n hx hb dX1_countBounds_10 rfl (lv_at hl 2 rfl) ?_
        refine lv_istore_n (lv' := [(3, .int (nI p1)), (0, .ref h), (1, .int (nI n1)), (2, .int (nI p1))]) hx hb dX1_countBounds_11 rfl hl (by decide) rfl (fun ls hl => ?_)
        exact L12 _ p1 n1 (Nat.lt_succ_self _) (by omega) (by omega) (hz) _ _ hP hS ls (lv_sub hl [1, 2, 3, 0] rfl)
  have hl := lv_entry ([.ref h]) (n := 4) (Nat.le_of_ble_eq_true rfl)
  have he9 : entryFrame m args 4 = entryFrame m ([.ref h] : List Value).toArray 4 := by rw [hargs]
  rw [he9, lg_entry_eq]
  generalize (lg_sl ([.ref h]) ++ List.replicate (4 - (lg_sl ([.ref h])).length) Slot.unset).toArray = ls at hl ⊢
  have hl : lv_has ls 4 [(0, .ref h)] := hl
  refine lv_iconst (v := nI 0) hx hb dX1_countBounds_0 (by decide) ?_
  refine lv_istore_n (lv' := [(1, .int (nI 0)), (0, .ref h)]) hx hb dX1_countBounds_1 rfl hl (by decide) rfl (fun ls hl => ?_)
  refine lv_iconst (v := nI 0) hx hb dX1_countBounds_2 (by decide) ?_
  refine lv_istore_n (lv' := [(2, .int (nI 0)), (1, .int (nI 0)), (0, .ref h)]) hx hb dX1_countBounds_3 rfl hl (by decide) rfl (fun ls hl => ?_)
  exact L4 _ 0 0 (Nat.lt_succ_self _) (by omega) (fun _ _ => rfl) _ _ hP hS ls (lv_sub hl [2, 1, 0] rfl)

abbrev rm_X1_settle : Room := { frames := 4, cells := 0, slots := 0, locals := 97 }
set_option maxHeartbeats 4000000 in
set_option maxRecDepth 100000 in
theorem c_X1_settle (l : Launch) (G : GG) (B : Nat) (μ : mp) (h hn la k b : Nat) (f : Nat → Int64) (i : Nat) (hh : μ h = some (.inr (1, [.ref hn, .int (nI b)]))) (hhn : μ hn = some (.inr (0, [.int (nI 158), .int (nI 157), .ref la, .int (nI (158 * k))]))) (ha : μ la = some (.inl (G.2 0, 158 * k + 158, .inr (.inl f)))) (hk : k ≤ 1022) (hb1 : b ≤ 1) (hi : i < 6) : Met l yX1_settle wsX1_settle rm_X1_settle (va_Pc [.ref h, .int (nI i)] (KW G B μ)) (va_Qv (fun μ2 => ∃ (g9 : Nat → Int64) (b9 : Nat), μ2 = mu (mu μ h (.inr (1, [.ref hn, .int (nI b9)]))) la (.inl (G.2 0, 158 * k + 158, .inr (.inl g9))) ∧ b9 ≤ 1 ∧ ((k = 0 → b = 0 → Zb (2 * i) f → (Zb (2 * i + 2) g9 ∧ g9 (2 * i * 12 + 2 * i) = 0 ∧ b9 = 0)) ∧ (k = 0 → ZZ f g9))) (BB G B) (fun q => B ≤ q)) 0 0 (fun q => B ≤ q) := by
  refine Met.ofW (cc := cX1_settle) (maxL := 4) (ret := none) (by decide) rfl ?_
  intro p e s m args below meth c s₁ B9 hml hv
  obtain ⟨hargs, hBs, hP, hKK⟩ := hv
  have hx := B9.exec
  have hb := B9.bytes
  have hr := B9.returns
  have hts := atoms_spec (ws := wsX1_settle) B9.pre
  have hown : s.vm.findClass RX1 = some m.cls := findClass_of_methodNamed B9.named
  have hlocks := B9.notSynchronized
  have hK := hKK.k
  have hS : va_S (fun q => B ≤ q) s.heap s.heap [] := va_S.rf
  obtain ⟨Q, hQ⟩ : ∃ Q, Q = MQ below (va_Qv (fun μ2 => ∃ (g9 : Nat → Int64) (b9 : Nat), μ2 = mu (mu μ h (.inr (1, [.ref hn, .int (nI b9)]))) la (.inl (G.2 0, 158 * k + 158, .inr (.inl g9))) ∧ b9 ≤ 1 ∧ ((k = 0 → b = 0 → Zb (2 * i) f → (Zb (2 * i + 2) g9 ∧ g9 (2 * i * 12 + 2 * i) = 0 ∧ b9 = 0)) ∧ (k = 0 → ZZ f g9))) (BB G B) (fun q => B ≤ q)) args s 0 0 (fun q => B ≤ q) := ⟨_, rfl⟩
  rw [← hQ]
  have ne0_1 : h ≠ hn := mp_ne hh hhn (by simp)
  have ne0_2 : h ≠ la := mp_ne hh ha (by simp)
  have ne1_2 : hn ≠ la := mp_ne hhn ha (by simp)
  have in_X1_settle_X1 : ∀ w ∈ wsX10, w ∈ wsX1_settle := by decide +kernel
  have hP : mw G.1 vwCl B (mu (mu μ h (.inr (1, [.ref hn, .int (nI b)]))) la (.inl (G.2 0, 158 * k + 158, .inr (.inl f)))) s.heap := mw_eq ((congrArg (fun z => mu z la (.inl (G.2 0, 158 * k + 158, .inr (.inl f)))) (mu_i hh)).trans (mu_i ha)).symm hP
  have L67 : ∀ (g1 : Nat → Int64) (b1 : Nat) (hbb : b1 ≤ 1) (hz : k = 0 → b = 0 → Zb (2 * i) f → (Zb (2 * i + 2) g1 ∧ g1 (2 * i * 12 + 2 * i) = 0 ∧ b1 = 0)) (hzz : k = 0 → ZZ f g1), ∀ (H : Heap) (locs : List Loc), mw G.1 vwCl B (mu (mu μ h (.inr (1, [.ref hn, .int (nI b1)]))) la (.inl (G.2 0, 158 * k + 158, .inr (.inl g1)))) H → va_S (fun q => B ≤ q) s.heap H locs → ∀ ls : Array Slot, lv_has ls 4 [(0, .ref h), (1, .int (nI i)), (2, .int (nI ((2 * i) * 12 + (2 * i)))), (3, .int (nI ((2 * i + 1) * 12 + (2 * i + 1))))] → W p l e rm_X1_settle s m args below meth c H locs 0 0 Q (F0 m 67 ls []) := by
    intro g1 b1 hbb hz hzz H locs hP hS ls hl
    refine lv_aload_n hx hb dX1_settle_67 rfl (lv_at hl 0 rfl) ?_
    refine mw_get (C := RX1) (T := TX1) (N := 2) hx hb hts in_X1_settle_X1 hown hK hP ((mu_n ne0_2).trans (mu_s _ _ _)) rfl 0 (by decide) (hts (.fieldLink RX1 16 "OctagonDesk$Shape" "numbers" "LOctagonDesk$Numbers;") (by decide +kernel)) (fun _ h9 => h9) rfl dX1_settle_68 ?_
    refine lv_iload_n hx hb dX1_settle_71 rfl (lv_at hl 3 rfl) ?_
    refine kc_i (va_runV (As := [.int (nI ((2 * i + 1) * 12 + (2 * i + 1)))]) (rest := []) ⟨hx, hb, hml, hown, hts⟩ (c_X0_isInfinite l G B (mu (mu μ h (.inr (1, [.ref hn, .int (nI b1)]))) la (.inl (G.2 0, 158 * k + 158, .inr (.inl g1)))) hn la k g1 ((2 * i + 1) * 12 + (2 * i + 1)) ((mu_n ne1_2).trans ((mu_n ((Ne.symm ne0_1))).trans (hhn))) (mu_s _ _ _) (by omega) (by omega)) (cwV 1 hts gX1_settle_X0_isInfinite rfl rfl rfl (by decide +kernel) ⟨Nat.le_of_ble_eq_true rfl, Nat.le_of_ble_eq_true rfl⟩) ⟨KW.blind, hP.recv hK rfl ((mu_n ne1_2).trans ((mu_n ((Ne.symm ne0_1))).trans (hhn))), fun U9 hU9 hW9 => ⟨rfl, KW.pre hBs hKK hS hP U9 hU9 hW9⟩⟩ rfl rfl hl.1 rfl (lv_room (Nat.le_of_ble_eq_true rfl)) dX1_settle_72 ⟨Nat.le_of_ble_eq_true rfl, Nat.le_of_ble_eq_true rfl⟩) hS (fun r72 m72 H locs hq9 hP hz9 hS => ?_)
    obtain ⟨he9, hr72⟩ := hq9
    rw [he9] at hP
    refine lv_if_eq (tgt := 106) hx hb dX1_settle_75 (by decide) (fun hc75 => ?_) (fun hc75 => ?_)
    · refine lv_aload_n hx hb dX1_settle_106 rfl (lv_at hl 0 rfl) ?_
      refine mw_get (C := RX1) (T := TX1) (N := 2) hx hb hts in_X1_settle_X1 hown hK hP ((mu_n ne0_2).trans (mu_s _ _ _)) rfl 0 (by decide) (hts (.fieldLink RX1 16 "OctagonDesk$Shape" "numbers" "LOctagonDesk$Numbers;") (by decide +kernel)) (fun _ h9 => h9) rfl dX1_settle_107 ?_
      refine lv_sipush (v := nI 156) hx hb dX1_settle_110 (by decide) ?_
      refine lv_iload_n hx hb dX1_settle_113 rfl (lv_at hl 3 rfl) ?_
      refine kc_v (va_runV (As := [.int (nI 156), .int (nI ((2 * i + 1) * 12 + (2 * i + 1)))]) (rest := []) ⟨hx, hb, hml, hown, hts⟩ (c_X0_putNegative l G B (mu (mu μ h (.inr (1, [.ref hn, .int (nI b1)]))) la (.inl (G.2 0, 158 * k + 158, .inr (.inl g1)))) hn la k g1 156 ((2 * i + 1) * 12 + (2 * i + 1)) ((mu_n ne1_2).trans ((mu_n ((Ne.symm ne0_1))).trans (hhn))) (mu_s _ _ _) (by omega) (by omega) (by omega)) (cwV 2 hts gX1_settle_X0_putNegative rfl rfl rfl (by decide +kernel) ⟨Nat.le_of_ble_eq_true rfl, Nat.le_of_ble_eq_true rfl⟩) ⟨KW.blind, hP.recv hK rfl ((mu_n ne1_2).trans ((mu_n ((Ne.symm ne0_1))).trans (hhn))), fun U9 hU9 hW9 => ⟨rfl, KW.pre hBs hKK hS hP U9 hU9 hW9⟩⟩ rfl rfl hl.1 rfl (lv_room (Nat.le_of_ble_eq_true rfl)) dX1_settle_114 ⟨Nat.le_of_ble_eq_true rfl, Nat.le_of_ble_eq_true rfl⟩) hS (fun m114 H locs hq9 hP hz9 hS => ?_)
      obtain ⟨g114, rfl, hg114⟩ := hq9
      have hP : mw G.1 vwCl B (mu (mu μ h (.inr (1, [.ref hn, .int (nI b1)]))) la (.inl (G.2 0, 158 * k + 158, .inr (.inl g114)))) _ := mw_eq (mu_u _ _ _ _) hP
      refine lv_aload_n hx hb dX1_settle_117 rfl (lv_at hl 0 rfl) ?_
      refine lv_iconst (v := nI 2) hx hb dX1_settle_118 (by decide) ?_
      refine lv_iload_n hx hb dX1_settle_119 rfl (lv_at hl 1 rfl) ?_
      refine nv_imul hx hb dX1_settle_120 ?_
      refine lv_iconst (v := nI 2) hx hb dX1_settle_121 (by decide) ?_
      refine lv_iload_n hx hb dX1_settle_122 rfl (lv_at hl 1 rfl) ?_
      refine nv_imul hx hb dX1_settle_123 ?_
      refine kc_v (va_runV (As := [.int (nI (2 * i)), .int (nI (2 * i))]) (rest := []) ⟨hx, hb, hml, hown, hts⟩ (c_X1_holdToSpare l G B (mu (mu μ h (.inr (1, [.ref hn, .int (nI b1)]))) la (.inl (G.2 0, 158 * k + 158, .inr (.inl g114)))) h hn la k b1 g114 (2 * i) (2 * i) ((mu_n ne0_2).trans (mu_s _ _ _)) ((mu_n ne1_2).trans ((mu_n ((Ne.symm ne0_1))).trans (hhn))) (mu_s _ _ _) (by omega) (by omega) (by omega) (by omega)) (cwV 2 hts gX1_settle_X1_holdToSpare rfl rfl rfl (by decide +kernel) ⟨Nat.le_of_ble_eq_true rfl, Nat.le_of_ble_eq_true rfl⟩) ⟨KW.blind, hP.recv hK rfl ((mu_n ne0_2).trans (mu_s _ _ _)), fun U9 hU9 hW9 => ⟨rfl, KW.pre hBs hKK hS hP U9 hU9 hW9⟩⟩ rfl rfl hl.1 rfl (lv_room (Nat.le_of_ble_eq_true rfl)) dX1_settle_124 ⟨Nat.le_of_ble_eq_true rfl, Nat.le_of_ble_eq_true rfl⟩) hS (fun m124 H locs hq9 hP hz9 hS => ?_)
      obtain ⟨g124, b124, rfl, hb124, hg124⟩ := hq9
      have hP : mw G.1 vwCl B (mu (mu μ h (.inr (1, [.ref hn, .int (nI b124)]))) la (.inl (G.2 0, 158 * k + 158, .inr (.inl g124)))) _ := mw_eq ((congrArg (fun z => mu z la (.inl (G.2 0, 158 * k + 158, .inr (.inl g124)))) ((mu_c _ _ ((Ne.symm ne0_2))).trans (congrArg (fun z => mu z la (.inl (G.2 0, 158 * k + 158, .inr (.inl g114)))) (mu_u _ _ _ _)))).trans (mu_u _ _ _ _)) hP
      rw [hQ]
      exact W.vret hx hb hr (fun t99 ht99 hW99 => ⟨⟨mu (mu μ h (.inr (1, [.ref hn, .int (nI b124)]))) la (.inl (G.2 0, 158 * k + 158, .inr (.inl g124))), rfl, (⟨_, _, rfl, hb124, fun h0 e1 h1 => by have e := hz h0 e1 h1; have e2 := (hg124 h0).1; rw [hg114 h0] at e2; obtain ⟨e3, e4, e5⟩ := e; subst e5; exact se_c hi (by omega) (by omega) ⟨e3, e4, rfl⟩ e2, fun h0 e => (hg124 h0).2 (by rw [hg114 h0]; exact (hzz h0 e).upd ((hzz h0 e).neg (by omega)))⟩), by show mw _ _ _ _ t99.heap; rw [ht99]; exact hP⟩, hS.F ht99⟩) hS.2.2 dX1_settle_127
    · refine lv_aload_n hx hb dX1_settle_78 rfl (lv_at hl 0 rfl) ?_
      refine mw_get (C := RX1) (T := TX1) (N := 2) hx hb hts in_X1_settle_X1 hown hK hP ((mu_n ne0_2).trans (mu_s _ _ _)) rfl 0 (by decide) (hts (.fieldLink RX1 16 "OctagonDesk$Shape" "numbers" "LOctagonDesk$Numbers;") (by decide +kernel)) (fun _ h9 => h9) rfl dX1_settle_79 ?_
      refine lv_sipush (v := nI 156) hx hb dX1_settle_82 (by decide) ?_
      refine lv_iload_n hx hb dX1_settle_85 rfl (lv_at hl 2 rfl) ?_
      refine kc_v (va_runV (As := [.int (nI 156), .int (nI ((2 * i) * 12 + (2 * i)))]) (rest := []) ⟨hx, hb, hml, hown, hts⟩ (c_X0_putNegative l G B (mu (mu μ h (.inr (1, [.ref hn, .int (nI b1)]))) la (.inl (G.2 0, 158 * k + 158, .inr (.inl g1)))) hn la k g1 156 ((2 * i) * 12 + (2 * i)) ((mu_n ne1_2).trans ((mu_n ((Ne.symm ne0_1))).trans (hhn))) (mu_s _ _ _) (by omega) (by omega) (by omega)) (cwV 2 hts gX1_settle_X0_putNegative rfl rfl rfl (by decide +kernel) ⟨Nat.le_of_ble_eq_true rfl, Nat.le_of_ble_eq_true rfl⟩) ⟨KW.blind, hP.recv hK rfl ((mu_n ne1_2).trans ((mu_n ((Ne.symm ne0_1))).trans (hhn))), fun U9 hU9 hW9 => ⟨rfl, KW.pre hBs hKK hS hP U9 hU9 hW9⟩⟩ rfl rfl hl.1 rfl (lv_room (Nat.le_of_ble_eq_true rfl)) dX1_settle_86 ⟨Nat.le_of_ble_eq_true rfl, Nat.le_of_ble_eq_true rfl⟩) hS (fun m86 H locs hq9 hP hz9 hS => ?_)
      obtain ⟨g86, rfl, hg86⟩ := hq9
      have hP : mw G.1 vwCl B (mu (mu μ h (.inr (1, [.ref hn, .int (nI b1)]))) la (.inl (G.2 0, 158 * k + 158, .inr (.inl g86)))) _ := mw_eq (mu_u _ _ _ _) hP
      refine lv_aload_n hx hb dX1_settle_89 rfl (lv_at hl 0 rfl) ?_
      refine lv_iconst (v := nI 2) hx hb dX1_settle_90 (by decide) ?_
      refine lv_iload_n hx hb dX1_settle_91 rfl (lv_at hl 1 rfl) ?_
      refine nv_imul hx hb dX1_settle_92 ?_
      refine lv_iconst (v := nI 1) hx hb dX1_settle_93 (by decide) ?_
      refine nv_iadd hx hb dX1_settle_94 ?_
      refine lv_iconst (v := nI 2) hx hb dX1_settle_95 (by decide) ?_
      refine lv_iload_n hx hb dX1_settle_96 rfl (lv_at hl 1 rfl) ?_
      refine nv_imul hx hb dX1_settle_97 ?_
      refine lv_iconst (v := nI 1) hx hb dX1_settle_98 (by decide) ?_
      refine nv_iadd hx hb dX1_settle_99 ?_
      refine kc_v (va_runV (As := [.int (nI ((2 * i) + 1)), .int (nI ((2 * i) + 1))]) (rest := []) ⟨hx, hb, hml, hown, hts⟩ (c_X1_holdToSpare l G B (mu (mu μ h (.inr (1, [.ref hn, .int (nI b1)]))) la (.inl (G.2 0, 158 * k + 158, .inr (.inl g86)))) h hn la k b1 g86 ((2 * i) + 1) ((2 * i) + 1) ((mu_n ne0_2).trans (mu_s _ _ _)) ((mu_n ne1_2).trans ((mu_n ((Ne.symm ne0_1))).trans (hhn))) (mu_s _ _ _) (by omega) (by omega) (by omega) (by omega)) (cwV 2 hts gX1_settle_X1_holdToSpare rfl rfl rfl (by decide +kernel) ⟨Nat.le_of_ble_eq_true rfl, Nat.le_of_ble_eq_true rfl⟩) ⟨KW.blind, hP.recv hK rfl ((mu_n ne0_2).trans (mu_s _ _ _)), fun U9 hU9 hW9 => ⟨rfl, KW.pre hBs hKK hS hP U9 hU9 hW9⟩⟩ rfl rfl hl.1 rfl (lv_room (Nat.le_of_ble_eq_true rfl)) dX1_settle_100 ⟨Nat.le_of_ble_eq_true rfl, Nat.le_of_ble_eq_true rfl⟩) hS (fun m100 H locs hq9 hP hz9 hS => ?_)
      obtain ⟨g100, b100, rfl, hb100, hg100⟩ := hq9
      have hP : mw G.1 vwCl B (mu (mu μ h (.inr (1, [.ref hn, .int (nI b100)]))) la (.inl (G.2 0, 158 * k + 158, .inr (.inl g100)))) _ := mw_eq ((congrArg (fun z => mu z la (.inl (G.2 0, 158 * k + 158, .inr (.inl g100)))) ((mu_c _ _ ((Ne.symm ne0_2))).trans (congrArg (fun z => mu z la (.inl (G.2 0, 158 * k + 158, .inr (.inl g86)))) (mu_u _ _ _ _)))).trans (mu_u _ _ _ _)) hP
      refine lv_goto (tgt := 127) hx hb dX1_settle_103 (by decide) ?_
      rw [hQ]
      exact W.vret hx hb hr (fun t99 ht99 hW99 => ⟨⟨mu (mu μ h (.inr (1, [.ref hn, .int (nI b100)]))) la (.inl (G.2 0, 158 * k + 158, .inr (.inl g100))), rfl, (⟨_, _, rfl, hb100, fun h0 e1 h1 => by have e := hz h0 e1 h1; have e2 := (hg100 h0).1; rw [hg86 h0] at e2; obtain ⟨e3, e4, e5⟩ := e; subst e5; exact se_c hi (by omega) (by omega) ⟨e3, e4, rfl⟩ e2, fun h0 e => (hg100 h0).2 (by rw [hg86 h0]; exact (hzz h0 e).upd ((hzz h0 e).neg (by omega)))⟩), by show mw _ _ _ _ t99.heap; rw [ht99]; exact hP⟩, hS.F ht99⟩) hS.2.2 dX1_settle_127
  have hl := lv_entry ([.ref h, .int (nI i)]) (n := 4) (Nat.le_of_ble_eq_true rfl)
  have he9 : entryFrame m args 4 = entryFrame m ([.ref h, .int (nI i)] : List Value).toArray 4 := by rw [hargs]
  rw [he9, lg_entry_eq]
  generalize (lg_sl ([.ref h, .int (nI i)]) ++ List.replicate (4 - (lg_sl ([.ref h, .int (nI i)])).length) Slot.unset).toArray = ls at hl ⊢
  have hl : lv_has ls 4 [(0, .ref h), (1, .int (nI i))] := hl
  refine lv_iconst (v := nI 2) hx hb dX1_settle_0 (by decide) ?_
  refine lv_iload_n hx hb dX1_settle_1 rfl (lv_at hl 1 rfl) ?_
  refine nv_imul hx hb dX1_settle_2 ?_
  refine lv_iconst (v := nI 2) hx hb dX1_settle_3 (by decide) ?_
  refine lv_iload_n hx hb dX1_settle_4 rfl (lv_at hl 1 rfl) ?_
  refine nv_imul hx hb dX1_settle_5 ?_
  refine kc_i (va_runS (As := [.int (nI (2 * i)), .int (nI (2 * i))]) (rest := []) ⟨hx, hb, hml, hown, hts⟩ (c_X1_cell l G B (mu (mu μ h (.inr (1, [.ref hn, .int (nI b)]))) la (.inl (G.2 0, 158 * k + 158, .inr (.inl f)))) (2 * i) (2 * i)) (va_cwS 2 hts gX1_settle_X1_cell rfl rfl rfl (by decide +kernel) ⟨Nat.le_of_ble_eq_true rfl, Nat.le_of_ble_eq_true rfl⟩) ⟨KW.blind, fun U9 hU9 hW9 => ⟨rfl, KW.pre hBs hKK hS hP U9 hU9 hW9⟩⟩ rfl rfl hl.1 rfl (lv_room (Nat.le_of_ble_eq_true rfl)) dX1_settle_6 ⟨Nat.le_of_ble_eq_true rfl, Nat.le_of_ble_eq_true rfl⟩) hS (fun r6 m6 H locs hq9 hP hz9 hS => ?_)
  obtain ⟨he9, rfl⟩ := hq9
  rw [he9] at hP
  refine lv_istore_n (lv' := [(2, .int (nI ((2 * i) * 12 + (2 * i)))), (0, .ref h), (1, .int (nI i))]) hx hb dX1_settle_9 rfl hl (by decide) rfl (fun ls hl => ?_)
  refine lv_iconst (v := nI 2) hx hb dX1_settle_10 (by decide) ?_
  refine lv_iload_n hx hb dX1_settle_11 rfl (lv_at hl 2 rfl) ?_
  refine nv_imul hx hb dX1_settle_12 ?_
  refine lv_iconst (v := nI 1) hx hb dX1_settle_13 (by decide) ?_
  refine nv_iadd hx hb dX1_settle_14 ?_
  refine lv_iconst (v := nI 2) hx hb dX1_settle_15 (by decide) ?_
  refine lv_iload_n hx hb dX1_settle_16 rfl (lv_at hl 2 rfl) ?_
  refine nv_imul hx hb dX1_settle_17 ?_
  refine lv_iconst (v := nI 1) hx hb dX1_settle_18 (by decide) ?_
  refine nv_iadd hx hb dX1_settle_19 ?_
  refine kc_i (va_runS (As := [.int (nI ((2 * i) + 1)), .int (nI ((2 * i) + 1))]) (rest := []) ⟨hx, hb, hml, hown, hts⟩ (c_X1_cell l G B (mu (mu μ h (.inr (1, [.ref hn, .int (nI b)]))) la (.inl (G.2 0, 158 * k + 158, .inr (.inl f)))) ((2 * i) + 1) ((2 * i) + 1)) (va_cwS 2 hts gX1_settle_X1_cell rfl rfl rfl (by decide +kernel) ⟨Nat.le_of_ble_eq_true rfl, Nat.le_of_ble_eq_true rfl⟩) ⟨KW.blind, fun U9 hU9 hW9 => ⟨rfl, KW.pre hBs hKK hS hP U9 hU9 hW9⟩⟩ rfl rfl hl.1 rfl (lv_room (Nat.le_of_ble_eq_true rfl)) dX1_settle_20 ⟨Nat.le_of_ble_eq_true rfl, Nat.le_of_ble_eq_true rfl⟩) hS (fun r20 m20 H locs hq9 hP hz9 hS => ?_)
  obtain ⟨he9, rfl⟩ := hq9
  rw [he9] at hP
  refine lv_istore_n (lv' := [(3, .int (nI (((2 * i) + 1) * 12 + ((2 * i) + 1)))), (2, .int (nI ((2 * i) * 12 + (2 * i)))), (0, .ref h), (1, .int (nI i))]) hx hb dX1_settle_23 rfl hl (by decide) rfl (fun ls hl => ?_)
  refine lv_aload_n hx hb dX1_settle_24 rfl (lv_at hl 2 rfl) ?_
  refine mw_get (C := RX1) (T := TX1) (N := 2) hx hb hts in_X1_settle_X1 hown hK hP ((mu_n ne0_2).trans (mu_s _ _ _)) rfl 0 (by decide) (hts (.fieldLink RX1 16 "OctagonDesk$Shape" "numbers" "LOctagonDesk$Numbers;") (by decide +kernel)) (fun _ h9 => h9) rfl dX1_settle_25 ?_
  refine lv_iload_n hx hb dX1_settle_28 rfl (lv_at hl 1 rfl) ?_
  refine kc_i (va_runV (As := [.int (nI ((2 * i) * 12 + (2 * i)))]) (rest := []) ⟨hx, hb, hml, hown, hts⟩ (c_X0_isInfinite l G B (mu (mu μ h (.inr (1, [.ref hn, .int (nI b)]))) la (.inl (G.2 0, 158 * k + 158, .inr (.inl f)))) hn la k f ((2 * i) * 12 + (2 * i)) ((mu_n ne1_2).trans ((mu_n ((Ne.symm ne0_1))).trans (hhn))) (mu_s _ _ _) (by omega) (by omega)) (cwV 1 hts gX1_settle_X0_isInfinite rfl rfl rfl (by decide +kernel) ⟨Nat.le_of_ble_eq_true rfl, Nat.le_of_ble_eq_true rfl⟩) ⟨KW.blind, hP.recv hK rfl ((mu_n ne1_2).trans ((mu_n ((Ne.symm ne0_1))).trans (hhn))), fun U9 hU9 hW9 => ⟨rfl, KW.pre hBs hKK hS hP U9 hU9 hW9⟩⟩ rfl rfl hl.1 rfl (lv_room (Nat.le_of_ble_eq_true rfl)) dX1_settle_29 ⟨Nat.le_of_ble_eq_true rfl, Nat.le_of_ble_eq_true rfl⟩) hS (fun r29 m29 H locs hq9 hP hz9 hS => ?_)
  obtain ⟨he9, hr29⟩ := hq9
  rw [he9] at hP
  refine lv_if_eq (tgt := 67) hx hb dX1_settle_32 (by decide) (fun hc32 => ?_) (fun hc32 => ?_)
  · exact L67 f b (by omega) (fun h0 e1 h1 => by first | exact se_b h0 (by omega) (by omega) h1 hr40 hc43 | exact se_b h0 (by omega) (by omega) h1 hr29 hc32) (fun _ e => e) _ _ hP hS ls (lv_sub hl [2, 3, 1, 0] rfl)
  · refine lv_aload_n hx hb dX1_settle_35 rfl (lv_at hl 2 rfl) ?_
    refine mw_get (C := RX1) (T := TX1) (N := 2) hx hb hts in_X1_settle_X1 hown hK hP ((mu_n ne0_2).trans (mu_s _ _ _)) rfl 0 (by decide) (hts (.fieldLink RX1 16 "OctagonDesk$Shape" "numbers" "LOctagonDesk$Numbers;") (by decide +kernel)) (fun _ h9 => h9) rfl dX1_settle_36 ?_
    refine lv_iload_n hx hb dX1_settle_39 rfl (lv_at hl 0 rfl) ?_
    refine kc_i (va_runV (As := [.int (nI (((2 * i) + 1) * 12 + ((2 * i) + 1)))]) (rest := []) ⟨hx, hb, hml, hown, hts⟩ (c_X0_isInfinite l G B (mu (mu μ h (.inr (1, [.ref hn, .int (nI b)]))) la (.inl (G.2 0, 158 * k + 158, .inr (.inl f)))) hn la k f (((2 * i) + 1) * 12 + ((2 * i) + 1)) ((mu_n ne1_2).trans ((mu_n ((Ne.symm ne0_1))).trans (hhn))) (mu_s _ _ _) (by omega) (by omega)) (cwV 1 hts gX1_settle_X0_isInfinite rfl rfl rfl (by decide +kernel) ⟨Nat.le_of_ble_eq_true rfl, Nat.le_of_ble_eq_true rfl⟩) ⟨KW.blind, hP.recv hK rfl ((mu_n ne1_2).trans ((mu_n ((Ne.symm ne0_1))).trans (hhn))), fun U9 hU9 hW9 => ⟨rfl, KW.pre hBs hKK hS hP U9 hU9 hW9⟩⟩ rfl rfl hl.1 rfl (lv_room (Nat.le_of_ble_eq_true rfl)) dX1_settle_40 ⟨Nat.le_of_ble_eq_true rfl, Nat.le_of_ble_eq_true rfl⟩) hS (fun r40 m40 H locs hq9 hP hz9 hS => ?_)
    obtain ⟨he9, hr40⟩ := hq9
    rw [he9] at hP
    refine lv_if_eq (tgt := 67) hx hb dX1_settle_43 (by decide) (fun hc43 => ?_) (fun hc43 => ?_)
    · exact L67 f b (by omega) (fun h0 e1 h1 => by first | exact se_b h0 (by omega) (by omega) h1 hr40 hc43 | exact se_b h0 (by omega) (by omega) h1 hr29 hc32) (fun _ e => e) _ _ hP hS ls (lv_sub hl [2, 3, 1, 0] rfl)
    · refine lv_aload_n hx hb dX1_settle_46 rfl (lv_at hl 2 rfl) ?_
      refine mw_get (C := RX1) (T := TX1) (N := 2) hx hb hts in_X1_settle_X1 hown hK hP ((mu_n ne0_2).trans (mu_s _ _ _)) rfl 0 (by decide) (hts (.fieldLink RX1 16 "OctagonDesk$Shape" "numbers" "LOctagonDesk$Numbers;") (by decide +kernel)) (fun _ h9 => h9) rfl dX1_settle_47 ?_
      refine lv_sipush (v := nI 156) hx hb dX1_settle_50 (by decide) ?_
      refine lv_lconst (v := 0) hx hb dX1_settle_53 (by decide) ?_
      refine kc_v (va_runV (As := [.int (nI 156), .long 0]) (rest := []) ⟨hx, hb, hml, hown, hts⟩ (c_X0_set l G B (mu (mu μ h (.inr (1, [.ref hn, .int (nI b)]))) la (.inl (G.2 0, 158 * k + 158, .inr (.inl f)))) hn la k f 156 0 ((mu_n ne1_2).trans ((mu_n ((Ne.symm ne0_1))).trans (hhn))) (mu_s _ _ _) (by omega) (by omega)) (cwV 2 hts gX1_settle_X0_set rfl rfl rfl (by decide +kernel) ⟨Nat.le_of_ble_eq_true rfl, Nat.le_of_ble_eq_true rfl⟩) ⟨KW.blind, hP.recv hK rfl ((mu_n ne1_2).trans ((mu_n ((Ne.symm ne0_1))).trans (hhn))), fun U9 hU9 hW9 => ⟨rfl, KW.pre hBs hKK hS hP U9 hU9 hW9⟩⟩ rfl rfl hl.1 rfl (lv_room (Nat.le_of_ble_eq_true rfl)) dX1_settle_54 ⟨Nat.le_of_ble_eq_true rfl, Nat.le_of_ble_eq_true rfl⟩) hS (fun m54 H locs hq9 hP hz9 hS => ?_)
      obtain ⟨g54, rfl, hg54⟩ := hq9
      have hP : mw G.1 vwCl B (mu (mu μ h (.inr (1, [.ref hn, .int (nI b)]))) la (.inl (G.2 0, 158 * k + 158, .inr (.inl g54)))) _ := mw_eq (mu_u _ _ _ _) hP
      refine lv_aload_n hx hb dX1_settle_57 rfl (lv_at hl 2 rfl) ?_
      refine lv_iconst (v := nI 2) hx hb dX1_settle_58 (by decide) ?_
      refine lv_iload_n hx hb dX1_settle_59 rfl (lv_at hl 3 rfl) ?_
      refine nv_imul hx hb dX1_settle_60 ?_
      refine lv_iconst (v := nI 2) hx hb dX1_settle_61 (by decide) ?_
      refine lv_iload_n hx hb dX1_settle_62 rfl (lv_at hl 3 rfl) ?_
      refine nv_imul hx hb dX1_settle_63 ?_
      refine kc_v (va_runV (As := [.int (nI (2 * i)), .int (nI (2 * i))]) (rest := []) ⟨hx, hb, hml, hown, hts⟩ (c_X1_holdToSpare l G B (mu (mu μ h (.inr (1, [.ref hn, .int (nI b)]))) la (.inl (G.2 0, 158 * k + 158, .inr (.inl g54)))) h hn la k b g54 (2 * i) (2 * i) ((mu_n ne0_2).trans (mu_s _ _ _)) ((mu_n ne1_2).trans ((mu_n ((Ne.symm ne0_1))).trans (hhn))) (mu_s _ _ _) (by omega) (by omega) (by omega) (by omega)) (cwV 2 hts gX1_settle_X1_holdToSpare rfl rfl rfl (by decide +kernel) ⟨Nat.le_of_ble_eq_true rfl, Nat.le_of_ble_eq_true rfl⟩) ⟨KW.blind, hP.recv hK rfl ((mu_n ne0_2).trans (mu_s _ _ _)), fun U9 hU9 hW9 => ⟨rfl, KW.pre hBs hKK hS hP U9 hU9 hW9⟩⟩ rfl rfl hl.1 rfl (lv_room (Nat.le_of_ble_eq_true rfl)) dX1_settle_64 ⟨Nat.le_of_ble_eq_true rfl, Nat.le_of_ble_eq_true rfl⟩) hS (fun m64 H locs hq9 hP hz9 hS => ?_)
      obtain ⟨g64, b64, rfl, hb64, hg64⟩ := hq9
      have hP : mw G.1 vwCl B (mu (mu μ h (.inr (1, [.ref hn, .int (nI b64)]))) la (.inl (G.2 0, 158 * k + 158, .inr (.inl g64)))) _ := mw_eq ((congrArg (fun z => mu z la (.inl (G.2 0, 158 * k + 158, .inr (.inl g64)))) ((mu_c _ _ ((Ne.symm ne0_2))).trans (congrArg (fun z => mu z la (.inl (G.2 0, 158 * k + 158, .inr (.inl g54)))) (mu_u _ _ _ _)))).trans (mu_u _ _ _ _)) hP
      exact L67 g64 b64 (by omega) (fun h0 e1 h1 => by subst e1; have e := (hg64 h0).1; rw [hg54 h0] at e; exact se_a hi h1 e) (fun h0 e => (hg64 h0).2 (by rw [hg54 h0]; exact e.upd (Or.inr rfl))) _ _ hP hS ls (lv_sub hl [2, 3, 1, 0] rfl)

abbrev rm_X1_shiftToLeast : Room := { frames := 2, cells := 0, slots := 0, locals := 49 }
set_option maxHeartbeats 4000000 in
set_option maxRecDepth 100000 in
theorem c_X1_shiftToLeast (l : Launch) (G : GG) (B : Nat) (μ : mp) (h hn la k b : Nat) (f : Nat → Int64) (hh : μ h = some (.inr (1, [.ref hn, .int (nI b)]))) (hhn : μ hn = some (.inr (0, [.int (nI 158), .int (nI 157), .ref la, .int (nI (158 * k))]))) (ha : μ la = some (.inl (G.2 0, 158 * k + 158, .inr (.inl f)))) (hk : k ≤ 1022) : Met l yX1_shiftToLeast wsX1_shiftToLeast rm_X1_shiftToLeast (va_Pc [.ref h] (KW G B μ)) (va_Qi (fun r μ2 => (r = 0 ∨ r = 1) ∧ ∃ g9 : Nat → Int64, μ2 = mu μ la (.inl (G.2 0, 158 * k + 158, .inr (.inl g9))) ∧ (k = 0 → f 0 = INF → r = 0)) (BB G B) (fun q => B ≤ q)) 0 0 (fun q => B ≤ q) := by
  refine Met.ofW (cc := cX1_shiftToLeast) (maxL := 3) (ret := (some .boolean)) (by decide) rfl ?_
  intro p e s m args below meth c s₁ B9 hml hv
  obtain ⟨hargs, hBs, hP, hKK⟩ := hv
  have hx := B9.exec
  have hb := B9.bytes
  have hr := B9.returns
  have hts := atoms_spec (ws := wsX1_shiftToLeast) B9.pre
  have hown : s.vm.findClass RX1 = some m.cls := findClass_of_methodNamed B9.named
  have hlocks := B9.notSynchronized
  have hK := hKK.k
  have hS : va_S (fun q => B ≤ q) s.heap s.heap [] := va_S.rf
  obtain ⟨Q, hQ⟩ : ∃ Q, Q = MQ below (va_Qi (fun r μ2 => (r = 0 ∨ r = 1) ∧ ∃ g9 : Nat → Int64, μ2 = mu μ la (.inl (G.2 0, 158 * k + 158, .inr (.inl g9))) ∧ (k = 0 → f 0 = INF → r = 0)) (BB G B) (fun q => B ≤ q)) args s 0 0 (fun q => B ≤ q) := ⟨_, rfl⟩
  rw [← hQ]
  have ne0_1 : h ≠ hn := mp_ne hh hhn (by simp)
  have ne0_2 : h ≠ la := mp_ne hh ha (by simp)
  have ne1_2 : hn ≠ la := mp_ne hhn ha (by simp)
  have in_X1_shiftToLeast_X1 : ∀ w ∈ wsX10, w ∈ wsX1_shiftToLeast := by decide +kernel
  have hP : mw G.1 vwCl B (mu μ la (.inl (G.2 0, 158 * k + 158, .inr (.inl f)))) s.heap := mw_eq (mu_i ha).symm hP
  have L100 : ∀ (N100 : Nat) (p1 : Nat) (g1 : Nat → Int64) (hN100 : 12 - p1 < N100) (hp : p1 ≤ 12) (hz : k = 0 → f 0 = INF → False), ∀ (H : Heap) (locs : List Loc), mw G.1 vwCl B (mu μ la (.inl (G.2 0, 158 * k + 158, .inr (.inl g1)))) H → va_S (fun q => B ≤ q) s.heap H locs → ∀ ls : Array Slot, lv_has ls 3 [(0, .ref h), (1, .int (nI p1))] → W p l e rm_X1_shiftToLeast s m args below meth c H locs 0 0 Q (F0 m 100 ls []) := by
    intro N100
    induction N100 with
    | zero => intro p1 g1 hN100; exact absurd hN100 (Nat.not_lt_zero _)
    | succ N100 ih100 =>
      intro p1 g1 hN100 hp hz H locs hP hS ls hl
      have L108 : ∀ (N108 : Nat) (q1 : Nat) (g1 : Nat → Int64) (hN108 : 12 - q1 < N108) (hpo : p1 < 12) (hq : q1 ≤ 12) (hz : k = 0 → f 0 = INF → False), ∀ (H : Heap) (locs : List Loc), mw G.1 vwCl B (mu μ la (.inl (G.2 0, 158 * k + 158, .inr (.inl g1)))) H → va_S (fun q => B ≤ q) s.heap H locs → ∀ ls : Array Slot, lv_has ls 3 [(0, .ref h), (1, .int (nI p1)), (2, .int (nI q1))] → W p l e rm_X1_shiftToLeast s m args below meth c H locs 0 0 Q (F0 m 108 ls []) := by
        intro N108
        induction N108 with
        | zero => intro q1 g1 hN108; exact absurd hN108 (Nat.not_lt_zero _)
        | succ N108 ih108 =>
          intro q1 g1 hN108 hpo hq hz H locs hP hS ls hl
          refine lv_iload_n hx hb dX1_shiftToLeast_108 rfl (lv_at hl 2 rfl) ?_
          refine lv_bipush (v := nI 12) hx hb dX1_shiftToLeast_109 (by decide) ?_
          refine nv_icmp_ge (tgt := 164) hx hb (by omega) (by omega) dX1_shiftToLeast_111 (by decide) (fun hc111 => ?_) (fun hc111 => ?_)
          · refine lv_iinc (v := nI (p1 + 1)) (lv' := [(1, .int (nI (p1 + 1))), (0, .ref h), (2, .int (nI q1))]) hx hb dX1_shiftToLeast_164 hl (k := 1) rfl (nI_add _ _) (by decide) rfl (fun ls hl => ?_)
            refine lv_goto (tgt := 100) hx hb dX1_shiftToLeast_167 (by decide) ?_
            exact ih100 (p1 + 1) g1 (by omega) (by omega) (hz) _ _ hP hS ls (lv_sub hl [1, 0] rfl)
          · refine lv_aload_n hx hb dX1_shiftToLeast_114 rfl (lv_at hl 0 rfl) ?_
            refine mw_get (C := RX1) (T := TX1) (N := 2) hx hb hts in_X1_shiftToLeast_X1 hown hK hP ((mu_n ne0_2).trans (hh)) rfl 0 (by decide) (hts (.fieldLink RX1 16 "OctagonDesk$Shape" "numbers" "LOctagonDesk$Numbers;") (by decide +kernel)) (fun _ h9 => h9) rfl dX1_shiftToLeast_115 ?_
            refine lv_iload_n hx hb dX1_shiftToLeast_118 rfl (lv_at hl 1 rfl) ?_
            refine lv_iload_n hx hb dX1_shiftToLeast_119 rfl (lv_at hl 2 rfl) ?_
            refine kc_i (va_runS (As := [.int (nI p1), .int (nI q1)]) (rest := [.ref hn]) ⟨hx, hb, hml, hown, hts⟩ (c_X1_cell l G B (mu μ la (.inl (G.2 0, 158 * k + 158, .inr (.inl g1)))) p1 q1) (va_cwS 2 hts gX1_shiftToLeast_X1_cell rfl rfl rfl (by decide +kernel) ⟨Nat.le_of_ble_eq_true rfl, Nat.le_of_ble_eq_true rfl⟩) ⟨KW.blind, fun U9 hU9 hW9 => ⟨rfl, KW.pre hBs hKK hS hP U9 hU9 hW9⟩⟩ rfl rfl hl.1 rfl (lv_room (Nat.le_of_ble_eq_true rfl)) dX1_shiftToLeast_120 ⟨Nat.le_of_ble_eq_true rfl, Nat.le_of_ble_eq_true rfl⟩) hS (fun r120 m120 H locs hq9 hP hz9 hS => ?_)
            obtain ⟨he9, rfl⟩ := hq9
            rw [he9] at hP
            refine lv_iload_n hx hb dX1_shiftToLeast_123 rfl (lv_at hl 1 rfl) ?_
            refine lv_iload_n hx hb dX1_shiftToLeast_124 rfl (lv_at hl 2 rfl) ?_
            refine kc_i (va_runS (As := [.int (nI p1), .int (nI q1)]) (rest := [.int (nI (p1 * 12 + q1)), .ref hn]) ⟨hx, hb, hml, hown, hts⟩ (c_X1_cell l G B (mu μ la (.inl (G.2 0, 158 * k + 158, .inr (.inl g1)))) p1 q1) (va_cwS 2 hts gX1_shiftToLeast_X1_cell rfl rfl rfl (by decide +kernel) ⟨Nat.le_of_ble_eq_true rfl, Nat.le_of_ble_eq_true rfl⟩) ⟨KW.blind, fun U9 hU9 hW9 => ⟨rfl, KW.pre hBs hKK hS hP U9 hU9 hW9⟩⟩ rfl rfl hl.1 rfl (lv_room (Nat.le_of_ble_eq_true rfl)) dX1_shiftToLeast_125 ⟨Nat.le_of_ble_eq_true rfl, Nat.le_of_ble_eq_true rfl⟩) hS (fun r125 m125 H locs hq9 hP hz9 hS => ?_)
            obtain ⟨he9, rfl⟩ := hq9
            rw [he9] at hP
            refine lv_sipush (v := nI 144) hx hb dX1_shiftToLeast_128 (by decide) ?_
            refine lv_iload_n hx hb dX1_shiftToLeast_131 rfl (lv_at hl 1 rfl) ?_
            refine nv_iadd hx hb dX1_shiftToLeast_132 ?_
            refine kc_v (va_runV (As := [.int (nI (p1 * 12 + q1)), .int (nI (p1 * 12 + q1)), .int (nI (144 + p1))]) (rest := []) ⟨hx, hb, hml, hown, hts⟩ (c_X0_putSum l G B (mu μ la (.inl (G.2 0, 158 * k + 158, .inr (.inl g1)))) hn la k g1 (p1 * 12 + q1) (p1 * 12 + q1) (144 + p1) ((mu_n ne1_2).trans (hhn)) (mu_s _ _ _) (by omega) (by omega) (by omega) (by omega)) (cwV 3 hts gX1_shiftToLeast_X0_putSum rfl rfl rfl (by decide +kernel) ⟨Nat.le_of_ble_eq_true rfl, Nat.le_of_ble_eq_true rfl⟩) ⟨KW.blind, hP.recv hK rfl ((mu_n ne1_2).trans (hhn)), fun U9 hU9 hW9 => ⟨rfl, KW.pre hBs hKK hS hP U9 hU9 hW9⟩⟩ rfl rfl hl.1 rfl (lv_room (Nat.le_of_ble_eq_true rfl)) dX1_shiftToLeast_133 ⟨Nat.le_of_ble_eq_true rfl, Nat.le_of_ble_eq_true rfl⟩) hS (fun m133 H locs hq9 hP hz9 hS => ?_)
            obtain ⟨g133, rfl, hg133⟩ := hq9
            have hP : mw G.1 vwCl B (mu μ la (.inl (G.2 0, 158 * k + 158, .inr (.inl g133)))) _ := mw_eq (mu_u _ _ _ _) hP
            refine lv_aload_n hx hb dX1_shiftToLeast_136 rfl (lv_at hl 0 rfl) ?_
            refine mw_get (C := RX1) (T := TX1) (N := 2) hx hb hts in_X1_shiftToLeast_X1 hown hK hP ((mu_n ne0_2).trans (hh)) rfl 0 (by decide) (hts (.fieldLink RX1 16 "OctagonDesk$Shape" "numbers" "LOctagonDesk$Numbers;") (by decide +kernel)) (fun _ h9 => h9) rfl dX1_shiftToLeast_137 ?_
            refine lv_iload_n hx hb dX1_shiftToLeast_140 rfl (lv_at hl 1 rfl) ?_
            refine lv_iload_n hx hb dX1_shiftToLeast_141 rfl (lv_at hl 2 rfl) ?_
            refine kc_i (va_runS (As := [.int (nI p1), .int (nI q1)]) (rest := [.ref hn]) ⟨hx, hb, hml, hown, hts⟩ (c_X1_cell l G B (mu μ la (.inl (G.2 0, 158 * k + 158, .inr (.inl g133)))) p1 q1) (va_cwS 2 hts gX1_shiftToLeast_X1_cell rfl rfl rfl (by decide +kernel) ⟨Nat.le_of_ble_eq_true rfl, Nat.le_of_ble_eq_true rfl⟩) ⟨KW.blind, fun U9 hU9 hW9 => ⟨rfl, KW.pre hBs hKK hS hP U9 hU9 hW9⟩⟩ rfl rfl hl.1 rfl (lv_room (Nat.le_of_ble_eq_true rfl)) dX1_shiftToLeast_142 ⟨Nat.le_of_ble_eq_true rfl, Nat.le_of_ble_eq_true rfl⟩) hS (fun r142 m142 H locs hq9 hP hz9 hS => ?_)
            obtain ⟨he9, rfl⟩ := hq9
            rw [he9] at hP
            refine lv_iload_n hx hb dX1_shiftToLeast_145 rfl (lv_at hl 1 rfl) ?_
            refine lv_iload_n hx hb dX1_shiftToLeast_146 rfl (lv_at hl 2 rfl) ?_
            refine kc_i (va_runS (As := [.int (nI p1), .int (nI q1)]) (rest := [.int (nI (p1 * 12 + q1)), .ref hn]) ⟨hx, hb, hml, hown, hts⟩ (c_X1_cell l G B (mu μ la (.inl (G.2 0, 158 * k + 158, .inr (.inl g133)))) p1 q1) (va_cwS 2 hts gX1_shiftToLeast_X1_cell rfl rfl rfl (by decide +kernel) ⟨Nat.le_of_ble_eq_true rfl, Nat.le_of_ble_eq_true rfl⟩) ⟨KW.blind, fun U9 hU9 hW9 => ⟨rfl, KW.pre hBs hKK hS hP U9 hU9 hW9⟩⟩ rfl rfl hl.1 rfl (lv_room (Nat.le_of_ble_eq_true rfl)) dX1_shiftToLeast_147 ⟨Nat.le_of_ble_eq_true rfl, Nat.le_of_ble_eq_true rfl⟩) hS (fun r147 m147 H locs hq9 hP hz9 hS => ?_)
            obtain ⟨he9, rfl⟩ := hq9
            rw [he9] at hP
            refine lv_sipush (v := nI 144) hx hb dX1_shiftToLeast_150 (by decide) ?_
            refine lv_iload_n hx hb dX1_shiftToLeast_153 rfl (lv_at hl 2 rfl) ?_
            refine nv_iadd hx hb dX1_shiftToLeast_154 ?_
            refine kc_v (va_runV (As := [.int (nI (p1 * 12 + q1)), .int (nI (p1 * 12 + q1)), .int (nI (144 + q1))]) (rest := []) ⟨hx, hb, hml, hown, hts⟩ (c_X0_putSum l G B (mu μ la (.inl (G.2 0, 158 * k + 158, .inr (.inl g133)))) hn la k g133 (p1 * 12 + q1) (p1 * 12 + q1) (144 + q1) ((mu_n ne1_2).trans (hhn)) (mu_s _ _ _) (by omega) (by omega) (by omega) (by omega)) (cwV 3 hts gX1_shiftToLeast_X0_putSum rfl rfl rfl (by decide +kernel) ⟨Nat.le_of_ble_eq_true rfl, Nat.le_of_ble_eq_true rfl⟩) ⟨KW.blind, hP.recv hK rfl ((mu_n ne1_2).trans (hhn)), fun U9 hU9 hW9 => ⟨rfl, KW.pre hBs hKK hS hP U9 hU9 hW9⟩⟩ rfl rfl hl.1 rfl (lv_room (Nat.le_of_ble_eq_true rfl)) dX1_shiftToLeast_155 ⟨Nat.le_of_ble_eq_true rfl, Nat.le_of_ble_eq_true rfl⟩) hS (fun m155 H locs hq9 hP hz9 hS => ?_)
            obtain ⟨g155, rfl, hg155⟩ := hq9
            have hP : mw G.1 vwCl B (mu μ la (.inl (G.2 0, 158 * k + 158, .inr (.inl g155)))) _ := mw_eq (mu_u _ _ _ _) hP
            refine lv_iinc (v := nI (q1 + 1)) (lv' := [(2, .int (nI (q1 + 1))), (0, .ref h), (1, .int (nI p1))]) hx hb dX1_shiftToLeast_158 hl (k := 2) rfl (nI_add _ _) (by decide) rfl (fun ls hl => ?_)
            refine lv_goto (tgt := 108) hx hb dX1_shiftToLeast_161 (by decide) ?_
            exact ih108 (q1 + 1) g155 (by omega) (by omega) (by omega) (hz) _ _ hP hS ls (lv_sub hl [1, 2, 0] rfl)
      refine lv_iload_n hx hb dX1_shiftToLeast_100 rfl (lv_at hl 1 rfl) ?_
      refine lv_bipush (v := nI 12) hx hb dX1_shiftToLeast_101 (by decide) ?_
      refine nv_icmp_ge (tgt := 170) hx hb (by omega) (by omega) dX1_shiftToLeast_103 (by decide) (fun hc103 => ?_) (fun hc103 => ?_)
      · refine lv_iconst (v := nI 1) hx hb dX1_shiftToLeast_170 (by decide) ?_
        rw [hQ]
        exact W.zret (v := nI 1) (ty := .boolean) hx hb hr (by first | rfl | decide) (fun t99 ht99 hW99 => ⟨⟨nI 1, mu μ la (.inl (G.2 0, 158 * k + 158, .inr (.inl g1))), rfl, (⟨Or.inr rfl, _, rfl, fun h0 h1 => (hz h0 h1).elim⟩), by show mw _ _ _ _ t99.heap; rw [ht99]; exact hP⟩, hS.F ht99⟩) hS.2.2 dX1_shiftToLeast_171
      · refine lv_iconst (v := nI 0) hx hb dX1_shiftToLeast_106 (by decide) ?_
        refine lv_istore_n (lv' := [(2, .int (nI 0)), (0, .ref h), (1, .int (nI p1))]) hx hb dX1_shiftToLeast_107 rfl hl (by decide) rfl (fun ls hl => ?_)
        exact L108 _ 0 g1 (Nat.lt_succ_self _) (by omega) (by omega) (hz) _ _ hP hS ls (lv_sub hl [1, 2, 0] rfl)
  have L2 : ∀ (N2 : Nat) (i1 : Nat) (g1 : Nat → Int64) (hN2 : 6 - i1 < N2) (hi : i1 ≤ 6) (hz : k = 0 → f 0 = INF → i1 = 0 ∧ g1 = f), ∀ (H : Heap) (locs : List Loc), mw G.1 vwCl B (mu μ la (.inl (G.2 0, 158 * k + 158, .inr (.inl g1)))) H → va_S (fun q => B ≤ q) s.heap H locs → ∀ ls : Array Slot, lv_has ls 3 [(0, .ref h), (1, .int (nI i1))] → W p l e rm_X1_shiftToLeast s m args below meth c H locs 0 0 Q (F0 m 2 ls []) := by
    intro N2
    induction N2 with
    | zero => intro i1 g1 hN2; exact absurd hN2 (Nat.not_lt_zero _)
    | succ N2 ih2 =>
      intro i1 g1 hN2 hi hz H locs hP hS ls hl
      refine lv_iload_n hx hb dX1_shiftToLeast_2 rfl (lv_at hl 1 rfl) ?_
      refine lv_bipush (v := nI 6) hx hb dX1_shiftToLeast_3 (by decide) ?_
      refine nv_icmp_ge (tgt := 98) hx hb (by omega) (by omega) dX1_shiftToLeast_5 (by decide) (fun hc5 => ?_) (fun hc5 => ?_)
      · refine lv_iconst (v := nI 0) hx hb dX1_shiftToLeast_98 (by decide) ?_
        refine lv_istore_n (lv' := [(1, .int (nI 0)), (0, .ref h)]) hx hb dX1_shiftToLeast_99 rfl hl (by decide) rfl (fun ls hl => ?_)
        exact L100 _ 0 g1 (Nat.lt_succ_self _) (by omega) (fun h0 h1 => absurd (hz h0 h1).1 (by omega)) _ _ hP hS ls (lv_sub hl [1, 0] rfl)
      · refine lv_iconst (v := nI 2) hx hb dX1_shiftToLeast_8 (by decide) ?_
        refine lv_iload_n hx hb dX1_shiftToLeast_9 rfl (lv_at hl 1 rfl) ?_
        refine nv_imul hx hb dX1_shiftToLeast_10 ?_
        refine lv_iconst (v := nI 1) hx hb dX1_shiftToLeast_11 (by decide) ?_
        refine nv_iadd hx hb dX1_shiftToLeast_12 ?_
        refine lv_iconst (v := nI 2) hx hb dX1_shiftToLeast_13 (by decide) ?_
        refine lv_iload_n hx hb dX1_shiftToLeast_14 rfl (lv_at hl 1 rfl) ?_
        refine nv_imul hx hb dX1_shiftToLeast_15 ?_
        refine lv_iconst (v := nI 1) hx hb dX1_shiftToLeast_16 (by decide) ?_
        refine nv_iadd hx hb dX1_shiftToLeast_17 ?_
        refine kc_i (va_runS (As := [.int (nI ((2 * i1) + 1)), .int (nI ((2 * i1) + 1))]) (rest := []) ⟨hx, hb, hml, hown, hts⟩ (c_X1_cell l G B (mu μ la (.inl (G.2 0, 158 * k + 158, .inr (.inl g1)))) ((2 * i1) + 1) ((2 * i1) + 1)) (va_cwS 2 hts gX1_shiftToLeast_X1_cell rfl rfl rfl (by decide +kernel) ⟨Nat.le_of_ble_eq_true rfl, Nat.le_of_ble_eq_true rfl⟩) ⟨KW.blind, fun U9 hU9 hW9 => ⟨rfl, KW.pre hBs hKK hS hP U9 hU9 hW9⟩⟩ rfl rfl hl.1 rfl (lv_room (Nat.le_of_ble_eq_true rfl)) dX1_shiftToLeast_18 ⟨Nat.le_of_ble_eq_true rfl, Nat.le_of_ble_eq_true rfl⟩) hS (fun r18 m18 H locs hq9 hP hz9 hS => ?_)
        obtain ⟨he9, rfl⟩ := hq9
        rw [he9] at hP
        refine lv_istore_n (lv' := [(2, .int (nI (((2 * i1) + 1) * 12 + ((2 * i1) + 1)))), (0, .ref h), (1, .int (nI i1))]) hx hb dX1_shiftToLeast_21 rfl hl (by decide) rfl (fun ls hl => ?_)
        refine lv_aload_n hx hb dX1_shiftToLeast_22 rfl (lv_at hl 1 rfl) ?_
        refine mw_get (C := RX1) (T := TX1) (N := 2) hx hb hts in_X1_shiftToLeast_X1 hown hK hP ((mu_n ne0_2).trans (hh)) rfl 0 (by decide) (hts (.fieldLink RX1 16 "OctagonDesk$Shape" "numbers" "LOctagonDesk$Numbers;") (by decide +kernel)) (fun _ h9 => h9) rfl dX1_shiftToLeast_23 ?_
        refine lv_iconst (v := nI 2) hx hb dX1_shiftToLeast_26 (by decide) ?_
        refine lv_iload_n hx hb dX1_shiftToLeast_27 rfl (lv_at hl 2 rfl) ?_
        refine nv_imul hx hb dX1_shiftToLeast_28 ?_
        refine lv_iconst (v := nI 2) hx hb dX1_shiftToLeast_29 (by decide) ?_
        refine lv_iload_n hx hb dX1_shiftToLeast_30 rfl (lv_at hl 2 rfl) ?_
        refine nv_imul hx hb dX1_shiftToLeast_31 ?_
        refine kc_i (va_runS (As := [.int (nI (2 * i1)), .int (nI (2 * i1))]) (rest := [.ref hn]) ⟨hx, hb, hml, hown, hts⟩ (c_X1_cell l G B (mu μ la (.inl (G.2 0, 158 * k + 158, .inr (.inl g1)))) (2 * i1) (2 * i1)) (va_cwS 2 hts gX1_shiftToLeast_X1_cell rfl rfl rfl (by decide +kernel) ⟨Nat.le_of_ble_eq_true rfl, Nat.le_of_ble_eq_true rfl⟩) ⟨KW.blind, fun U9 hU9 hW9 => ⟨rfl, KW.pre hBs hKK hS hP U9 hU9 hW9⟩⟩ rfl rfl hl.1 rfl (lv_room (Nat.le_of_ble_eq_true rfl)) dX1_shiftToLeast_32 ⟨Nat.le_of_ble_eq_true rfl, Nat.le_of_ble_eq_true rfl⟩) hS (fun r32 m32 H locs hq9 hP hz9 hS => ?_)
        obtain ⟨he9, rfl⟩ := hq9
        rw [he9] at hP
        refine kc_i (va_runV (As := [.int (nI ((2 * i1) * 12 + (2 * i1)))]) (rest := []) ⟨hx, hb, hml, hown, hts⟩ (c_X0_isInfinite l G B (mu μ la (.inl (G.2 0, 158 * k + 158, .inr (.inl g1)))) hn la k g1 ((2 * i1) * 12 + (2 * i1)) ((mu_n ne1_2).trans (hhn)) (mu_s _ _ _) (by omega) (by omega)) (cwV 1 hts gX1_shiftToLeast_X0_isInfinite rfl rfl rfl (by decide +kernel) ⟨Nat.le_of_ble_eq_true rfl, Nat.le_of_ble_eq_true rfl⟩) ⟨KW.blind, hP.recv hK rfl ((mu_n ne1_2).trans (hhn)), fun U9 hU9 hW9 => ⟨rfl, KW.pre hBs hKK hS hP U9 hU9 hW9⟩⟩ rfl rfl hl.1 rfl (lv_room (Nat.le_of_ble_eq_true rfl)) dX1_shiftToLeast_35 ⟨Nat.le_of_ble_eq_true rfl, Nat.le_of_ble_eq_true rfl⟩) hS (fun r35 m35 H locs hq9 hP hz9 hS => ?_)
        obtain ⟨he9, hr35⟩ := hq9
        rw [he9] at hP
        refine lv_if_ne (tgt := 52) hx hb dX1_shiftToLeast_38 (by decide) (fun hc38 => ?_) (fun hc38 => ?_)
        · refine lv_iconst (v := nI 0) hx hb dX1_shiftToLeast_52 (by decide) ?_
          rw [hQ]
          exact W.zret (v := nI 0) (ty := .boolean) hx hb hr (by first | rfl | decide) (fun t99 ht99 hW99 => ⟨⟨nI 0, mu μ la (.inl (G.2 0, 158 * k + 158, .inr (.inl g1))), rfl, (⟨Or.inl rfl, _, rfl, fun _ _ => rfl⟩), by show mw _ _ _ _ t99.heap; rw [ht99]; exact hP⟩, hS.F ht99⟩) hS.2.2 dX1_shiftToLeast_53
        · refine lv_aload_n hx hb dX1_shiftToLeast_41 rfl (lv_at hl 1 rfl) ?_
          refine mw_get (C := RX1) (T := TX1) (N := 2) hx hb hts in_X1_shiftToLeast_X1 hown hK hP ((mu_n ne0_2).trans (hh)) rfl 0 (by decide) (hts (.fieldLink RX1 16 "OctagonDesk$Shape" "numbers" "LOctagonDesk$Numbers;") (by decide +kernel)) (fun _ h9 => h9) rfl dX1_shiftToLeast_42 ?_
          refine lv_iload_n hx hb dX1_shiftToLeast_45 rfl (lv_at hl 0 rfl) ?_
          refine kc_i (va_runV (As := [.int (nI (((2 * i1) + 1) * 12 + ((2 * i1) + 1)))]) (rest := []) ⟨hx, hb, hml, hown, hts⟩ (c_X0_isInfinite l G B (mu μ la (.inl (G.2 0, 158 * k + 158, .inr (.inl g1)))) hn la k g1 (((2 * i1) + 1) * 12 + ((2 * i1) + 1)) ((mu_n ne1_2).trans (hhn)) (mu_s _ _ _) (by omega) (by omega)) (cwV 1 hts gX1_shiftToLeast_X0_isInfinite rfl rfl rfl (by decide +kernel) ⟨Nat.le_of_ble_eq_true rfl, Nat.le_of_ble_eq_true rfl⟩) ⟨KW.blind, hP.recv hK rfl ((mu_n ne1_2).trans (hhn)), fun U9 hU9 hW9 => ⟨rfl, KW.pre hBs hKK hS hP U9 hU9 hW9⟩⟩ rfl rfl hl.1 rfl (lv_room (Nat.le_of_ble_eq_true rfl)) dX1_shiftToLeast_46 ⟨Nat.le_of_ble_eq_true rfl, Nat.le_of_ble_eq_true rfl⟩) hS (fun r46 m46 H locs hq9 hP hz9 hS => ?_)
          obtain ⟨he9, hr46⟩ := hq9
          rw [he9] at hP
          refine lv_if_eq (tgt := 54) hx hb dX1_shiftToLeast_49 (by decide) (fun hc49 => ?_) (fun hc49 => ?_)
          · refine lv_aload_n hx hb dX1_shiftToLeast_54 rfl (lv_at hl 1 rfl) ?_
            refine mw_get (C := RX1) (T := TX1) (N := 2) hx hb hts in_X1_shiftToLeast_X1 hown hK hP ((mu_n ne0_2).trans (hh)) rfl 0 (by decide) (hts (.fieldLink RX1 16 "OctagonDesk$Shape" "numbers" "LOctagonDesk$Numbers;") (by decide +kernel)) (fun _ h9 => h9) rfl dX1_shiftToLeast_55 ?_
            refine lv_sipush (v := nI 144) hx hb dX1_shiftToLeast_58 (by decide) ?_
            refine lv_iconst (v := nI 2) hx hb dX1_shiftToLeast_61 (by decide) ?_
            refine lv_iload_n hx hb dX1_shiftToLeast_62 rfl (lv_at hl 2 rfl) ?_
            refine nv_imul hx hb dX1_shiftToLeast_63 ?_
            refine nv_iadd hx hb dX1_shiftToLeast_64 ?_
            refine lv_iload_n hx hb dX1_shiftToLeast_65 rfl (lv_at hl 0 rfl) ?_
            refine kc_v (va_runV (As := [.int (nI (144 + (2 * i1))), .int (nI (((2 * i1) + 1) * 12 + ((2 * i1) + 1)))]) (rest := []) ⟨hx, hb, hml, hown, hts⟩ (c_X0_putHalf l G B (mu μ la (.inl (G.2 0, 158 * k + 158, .inr (.inl g1)))) hn la k g1 (144 + (2 * i1)) (((2 * i1) + 1) * 12 + ((2 * i1) + 1)) ((mu_n ne1_2).trans (hhn)) (mu_s _ _ _) (by omega) (by omega) (by omega)) (cwV 2 hts gX1_shiftToLeast_X0_putHalf rfl rfl rfl (by decide +kernel) ⟨Nat.le_of_ble_eq_true rfl, Nat.le_of_ble_eq_true rfl⟩) ⟨KW.blind, hP.recv hK rfl ((mu_n ne1_2).trans (hhn)), fun U9 hU9 hW9 => ⟨rfl, KW.pre hBs hKK hS hP U9 hU9 hW9⟩⟩ rfl rfl hl.1 rfl (lv_room (Nat.le_of_ble_eq_true rfl)) dX1_shiftToLeast_66 ⟨Nat.le_of_ble_eq_true rfl, Nat.le_of_ble_eq_true rfl⟩) hS (fun m66 H locs hq9 hP hz9 hS => ?_)
            obtain ⟨g66, rfl, hg66⟩ := hq9
            have hP : mw G.1 vwCl B (mu μ la (.inl (G.2 0, 158 * k + 158, .inr (.inl g66)))) _ := mw_eq (mu_u _ _ _ _) hP
            refine lv_aload_n hx hb dX1_shiftToLeast_69 rfl (lv_at hl 1 rfl) ?_
            refine mw_get (C := RX1) (T := TX1) (N := 2) hx hb hts in_X1_shiftToLeast_X1 hown hK hP ((mu_n ne0_2).trans (hh)) rfl 0 (by decide) (hts (.fieldLink RX1 16 "OctagonDesk$Shape" "numbers" "LOctagonDesk$Numbers;") (by decide +kernel)) (fun _ h9 => h9) rfl dX1_shiftToLeast_70 ?_
            refine lv_sipush (v := nI 144) hx hb dX1_shiftToLeast_73 (by decide) ?_
            refine lv_iconst (v := nI 2) hx hb dX1_shiftToLeast_76 (by decide) ?_
            refine lv_iload_n hx hb dX1_shiftToLeast_77 rfl (lv_at hl 2 rfl) ?_
            refine nv_imul hx hb dX1_shiftToLeast_78 ?_
            refine nv_iadd hx hb dX1_shiftToLeast_79 ?_
            refine lv_iconst (v := nI 1) hx hb dX1_shiftToLeast_80 (by decide) ?_
            refine nv_iadd hx hb dX1_shiftToLeast_81 ?_
            refine lv_sipush (v := nI 144) hx hb dX1_shiftToLeast_82 (by decide) ?_
            refine lv_iconst (v := nI 2) hx hb dX1_shiftToLeast_85 (by decide) ?_
            refine lv_iload_n hx hb dX1_shiftToLeast_86 rfl (lv_at hl 2 rfl) ?_
            refine nv_imul hx hb dX1_shiftToLeast_87 ?_
            refine nv_iadd hx hb dX1_shiftToLeast_88 ?_
            refine kc_v (va_runV (As := [.int (nI ((144 + (2 * i1)) + 1)), .int (nI (144 + (2 * i1)))]) (rest := []) ⟨hx, hb, hml, hown, hts⟩ (c_X0_putNegative l G B (mu μ la (.inl (G.2 0, 158 * k + 158, .inr (.inl g66)))) hn la k g66 ((144 + (2 * i1)) + 1) (144 + (2 * i1)) ((mu_n ne1_2).trans (hhn)) (mu_s _ _ _) (by omega) (by omega) (by omega)) (cwV 2 hts gX1_shiftToLeast_X0_putNegative rfl rfl rfl (by decide +kernel) ⟨Nat.le_of_ble_eq_true rfl, Nat.le_of_ble_eq_true rfl⟩) ⟨KW.blind, hP.recv hK rfl ((mu_n ne1_2).trans (hhn)), fun U9 hU9 hW9 => ⟨rfl, KW.pre hBs hKK hS hP U9 hU9 hW9⟩⟩ rfl rfl hl.1 rfl (lv_room (Nat.le_of_ble_eq_true rfl)) dX1_shiftToLeast_89 ⟨Nat.le_of_ble_eq_true rfl, Nat.le_of_ble_eq_true rfl⟩) hS (fun m89 H locs hq9 hP hz9 hS => ?_)
            obtain ⟨g89, rfl, hg89⟩ := hq9
            have hP : mw G.1 vwCl B (mu μ la (.inl (G.2 0, 158 * k + 158, .inr (.inl g89)))) _ := mw_eq (mu_u _ _ _ _) hP
            refine lv_iinc (v := nI (i1 + 1)) (lv' := [(1, .int (nI (i1 + 1))), (2, .int (nI (((2 * i1) + 1) * 12 + ((2 * i1) + 1)))), (0, .ref h)]) hx hb dX1_shiftToLeast_92 hl (k := 2) rfl (nI_add _ _) (by decide) rfl (fun ls hl => ?_)
            refine lv_goto (tgt := 2) hx hb dX1_shiftToLeast_95 (by decide) ?_
            exact ih2 (i1 + 1) g89 (by omega) (by omega) (fun h0 h1 => by obtain ⟨e1, e2⟩ := hz h0 h1; subst e1; subst e2; subst h0; have e3 : r35 = 1 := (by rw [hr35]; exact if_pos h1); rw [hc38] at e3; exact absurd e3 (by decide)) _ _ hP hS ls (lv_sub hl [2, 0] rfl)
          · refine lv_iconst (v := nI 0) hx hb dX1_shiftToLeast_52 (by decide) ?_
            rw [hQ]
            exact W.zret (v := nI 0) (ty := .boolean) hx hb hr (by first | rfl | decide) (fun t99 ht99 hW99 => ⟨⟨nI 0, mu μ la (.inl (G.2 0, 158 * k + 158, .inr (.inl g1))), rfl, (⟨Or.inl rfl, _, rfl, fun _ _ => rfl⟩), by show mw _ _ _ _ t99.heap; rw [ht99]; exact hP⟩, hS.F ht99⟩) hS.2.2 dX1_shiftToLeast_53
  have hl := lv_entry ([.ref h]) (n := 3) (Nat.le_of_ble_eq_true rfl)
  have he9 : entryFrame m args 3 = entryFrame m ([.ref h] : List Value).toArray 3 := by rw [hargs]
  rw [he9, lg_entry_eq]
  generalize (lg_sl ([.ref h]) ++ List.replicate (3 - (lg_sl ([.ref h])).length) Slot.unset).toArray = ls at hl ⊢
  have hl : lv_has ls 3 [(0, .ref h)] := hl
  refine lv_iconst (v := nI 0) hx hb dX1_shiftToLeast_0 (by decide) ?_
  refine lv_istore_n (lv' := [(1, .int (nI 0)), (0, .ref h)]) hx hb dX1_shiftToLeast_1 rfl hl (by decide) rfl (fun ls hl => ?_)
  exact L2 _ 0 f (Nat.lt_succ_self _) (by omega) (fun _ _ => ⟨rfl, rfl⟩) _ _ hP hS ls (lv_sub hl [1, 0] rfl)
