abbrev rm_X4_makeFrom : Room := { frames := 5, cells := 0, slots := 0, locals := 119 }
set_option maxHeartbeats 4000000 in
set_option maxRecDepth 100000 in
theorem c_X4_makeFrom_0 (l : Launch) (G : GG) (B : Nat) (μ : mp) (h bn nn la s9 lo eb : Nat) (nf : List Value) (f g : Nat → Int64) (w9 : Nat → Int32) (h2 la2 : Nat) (f2 : Nat → Int64) (a9 t9 : Nat) (c9 : Int32) (hh : μ h = some (.inr (4, [.ref bn, .ref nn, .ref la, .int (nI eb)]))) (hbn : μ bn = some (.inr (0, [.ref nn, .ref s9, .ref lo]))) (hnn : μ nn = some (.inr (3, nf))) (ha : μ la = some (.inl (G.2 0, 78, .inr (.inl f)))) (hs9 : μ s9 = some (.inl (G.2 0, 13, .inr (.inl g)))) (hlo : μ lo = some (.inl (G.2 2, 78, .inl w9))) (hh2 : μ h2 = some (.inr (4, [.ref bn, .ref nn, .ref la2, .int (nI 0)]))) (ha2 : μ la2 = some (.inl (G.2 0, 78, .inr (.inl f2)))) (hne : la ≠ la2) (hne0 : h ≠ h2) (hM6 : M6 c9) (hPs : Ps f) (hZ2 : Za f2) (hSn : Sn g) (ha9 : a9 < 12) (ht9a : t9 < 12) (hat : a9 ≠ ne t9) (hT2 : ∀ c, c < 78 → f2 c = tz c) : Met l yX4_makeFrom wsX4_makeFrom rm_X4_makeFrom (va_Pc [.ref h, .ref h2, .int (nI 0), .int (nI a9), .int (nI t9), .int c9] (KW G B μ)) (va_Qv (fun μ2 => ∃ f9 g9 : Nat → Int64, μ2 = mu (mu (mu μ h (.inr (4, [.ref bn, .ref nn, .ref la, .int (nI 0)]))) la (.inl (G.2 0, 78, .inr (.inl f9)))) s9 (.inl (G.2 0, 13, .inr (.inl g9))) ∧ Ps f9) (BB G B) (fun q => B ≤ q)) 0 0 (fun q => B ≤ q) := by
  refine Met.ofW (cc := cX4_makeFrom) (maxL := 6) (ret := none) (by decide) rfl ?_
  intro p e s m args below meth c s₁ B9 hml hv
  obtain ⟨hargs, hBs, hP, hKK⟩ := hv
  have hx := B9.exec
  have hb := B9.bytes
  have hr := B9.returns
  have hts := atoms_spec (ws := wsX4_makeFrom) B9.pre
  have hown : s.vm.findClass RX4 = some m.cls := findClass_of_methodNamed B9.named
  have hlocks := B9.notSynchronized
  have hK := hKK.k
  have hS : va_S (fun q => B ≤ q) s.heap s.heap [] := va_S.rf
  obtain ⟨Q, hQ⟩ : ∃ Q, Q = MQ below (va_Qv (fun μ2 => ∃ f9 g9 : Nat → Int64, μ2 = mu (mu (mu μ h (.inr (4, [.ref bn, .ref nn, .ref la, .int (nI 0)]))) la (.inl (G.2 0, 78, .inr (.inl f9)))) s9 (.inl (G.2 0, 13, .inr (.inl g9))) ∧ Ps f9) (BB G B) (fun q => B ≤ q)) args s 0 0 (fun q => B ≤ q) := ⟨_, rfl⟩
  rw [← hQ]
  have ne0_1 : h ≠ bn := mp_ne hh hbn (by simp)
  have ne0_2 : h ≠ nn := mp_ne hh hnn (by simp)
  have ne0_3 : h ≠ la := mp_ne hh ha (by simp)
  have ne0_4 : h ≠ s9 := mp_ne hh hs9 (by simp)
  have ne0_5 : h ≠ lo := mp_ne hh hlo (by simp)
  have ne0_7 : h ≠ la2 := mp_ne hh ha2 (by simp)
  have ne1_2 : bn ≠ nn := mp_ne hbn hnn (by simp)
  have ne1_3 : bn ≠ la := mp_ne hbn ha (by simp)
  have ne1_4 : bn ≠ s9 := mp_ne hbn hs9 (by simp)
  have ne1_5 : bn ≠ lo := mp_ne hbn hlo (by simp)
  have ne1_6 : bn ≠ h2 := mp_ne hbn hh2 (by simp)
  have ne1_7 : bn ≠ la2 := mp_ne hbn ha2 (by simp)
  have ne2_3 : nn ≠ la := mp_ne hnn ha (by simp)
  have ne2_4 : nn ≠ s9 := mp_ne hnn hs9 (by simp)
  have ne2_5 : nn ≠ lo := mp_ne hnn hlo (by simp)
  have ne2_6 : nn ≠ h2 := mp_ne hnn hh2 (by simp)
  have ne2_7 : nn ≠ la2 := mp_ne hnn ha2 (by simp)
  have ne3_6 : la ≠ h2 := mp_ne ha hh2 (by simp)
  have ne4_6 : s9 ≠ h2 := mp_ne hs9 hh2 (by simp)
  have ne5_6 : lo ≠ h2 := mp_ne hlo hh2 (by simp)
  have ne6_7 : h2 ≠ la2 := mp_ne hh2 ha2 (by simp)
  have in_X4_makeFrom_X4 : ∀ w ∈ wsX40, w ∈ wsX4_makeFrom := by decide +kernel
  have hP : mw G.1 vwCl B (mu (mu (mu μ h (.inr (4, [.ref bn, .ref nn, .ref la, .int (nI eb)]))) la (.inl (G.2 0, 78, .inr (.inl f)))) s9 (.inl (G.2 0, 13, .inr (.inl g)))) s.heap := mw_eq ((congrArg (fun z => mu z s9 (.inl (G.2 0, 13, .inr (.inl g)))) ((congrArg (fun z => mu z la (.inl (G.2 0, 78, .inr (.inl f)))) (mu_i hh)).trans (mu_i ha))).trans (mu_i hs9)).symm hP
  have hl := lv_entry ([.ref h, .ref h2, .int (nI 0), .int (nI a9), .int (nI t9), .int c9]) (n := 6) (Nat.le_of_ble_eq_true rfl)
  have he9 : entryFrame m args 6 = entryFrame m ([.ref h, .ref h2, .int (nI 0), .int (nI a9), .int (nI t9), .int c9] : List Value).toArray 6 := by rw [hargs]
  rw [he9, lg_entry_eq]
  generalize (lg_sl ([.ref h, .ref h2, .int (nI 0), .int (nI a9), .int (nI t9), .int c9]) ++ List.replicate (6 - (lg_sl ([.ref h, .ref h2, .int (nI 0), .int (nI a9), .int (nI t9), .int c9])).length) Slot.unset).toArray = ls at hl ⊢
  have hl : lv_has ls 6 [(0, .ref h), (1, .ref h2), (2, .int (nI 0)), (3, .int (nI a9)), (4, .int (nI t9)), (5, .int c9)] := hl
  refine lv_aload_n hx hb dX4_makeFrom_0 rfl (lv_at hl 1 rfl) ?_
  refine mw_get (C := RX4) (T := TX4) (N := 4) hx hb hts in_X4_makeFrom_X4 hown hK hP ((mu_n ((Ne.symm ne4_6))).trans ((mu_n ((Ne.symm ne3_6))).trans ((mu_n ((Ne.symm hne0))).trans (hh2)))) rfl 3 (by decide) (hts (.fieldLink RX4 26 "OctagonDesk$Shape" "empty" "Z") (by decide +kernel)) (fun _ h9 => h9) rfl dX4_makeFrom_1 ?_
  refine lv_if_eq (tgt := 12) hx hb dX4_makeFrom_4 (by decide) (fun hc4 => ?_) (fun hc4 => ?_)
  · refine lv_iload_n hx hb dX4_makeFrom_12 rfl (lv_at hl 2 rfl) ?_
    refine lv_iconst (v := nI 1) hx hb dX4_makeFrom_13 (by decide) ?_
    refine nv_icmp_ne (tgt := 28) hx hb (by omega) (by omega) dX4_makeFrom_14 (by decide) (fun hc14 => ?_) (fun hc14 => ?_)
    · refine lv_aload_n hx hb dX4_makeFrom_28 rfl (lv_at hl 0 rfl) ?_
      refine lv_aload_n hx hb dX4_makeFrom_29 rfl (lv_at hl 1 rfl) ?_
      refine kc_v (va_runV (As := [.ref h2]) (rest := []) ⟨hx, hb, hml, hown, hts⟩ (c_X4_takeOver l G B (mu (mu (mu μ h (.inr (4, [.ref bn, .ref nn, .ref la, .int (nI eb)]))) la (.inl (G.2 0, 78, .inr (.inl f)))) s9 (.inl (G.2 0, 13, .inr (.inl g)))) h bn nn la s9 lo eb nf f g w9 h2 la2 0 f2  ((mu_n ne0_4).trans ((mu_n ne0_3).trans (mu_s _ _ _))) ((mu_n ne1_4).trans ((mu_n ne1_3).trans ((mu_n ((Ne.symm ne0_1))).trans (hbn)))) ((mu_n ne2_4).trans ((mu_n ne2_3).trans ((mu_n ((Ne.symm ne0_2))).trans (hnn)))) ((mu_n ((mp_ne ha hs9 (by simp)))).trans (mu_s _ _ _)) (mu_s _ _ _) ((mu_n ((mp_ne hlo hs9 (by simp)))).trans ((mu_n ((mp_ne hlo ha (by simp)))).trans ((mu_n ((Ne.symm ne0_5))).trans (hlo)))) ((mu_n ((Ne.symm ne4_6))).trans ((mu_n ((Ne.symm ne3_6))).trans ((mu_n ((Ne.symm hne0))).trans (hh2)))) ((mu_n ((mp_ne ha2 hs9 (by simp)))).trans ((mu_n ((Ne.symm hne))).trans ((mu_n ((Ne.symm ne0_7))).trans (ha2)))) (by omega) (hPs) (hZ2.ps) (hne) (hne0)) (cwV 1 hts gX4_makeFrom_X4_takeOver rfl rfl rfl (by decide +kernel) ⟨Nat.le_of_ble_eq_true rfl, Nat.le_of_ble_eq_true rfl⟩) ⟨KW.blind, hP.recv hK rfl ((mu_n ne0_4).trans ((mu_n ne0_3).trans (mu_s _ _ _))), fun U9 hU9 hW9 => ⟨rfl, KW.pre hBs hKK hS hP U9 hU9 hW9⟩⟩ rfl rfl hl.1 rfl (lv_room (Nat.le_of_ble_eq_true rfl)) dX4_makeFrom_30 ⟨(Nat.le_of_ble_eq_true rfl), (Nat.le_of_ble_eq_true rfl)⟩) hS (fun m30 H locs hq9 hP hz9 hS => ?_)
      obtain ⟨f30, rfl, hf30⟩ := hq9
      have hP : mw G.1 vwCl B (mu (mu (mu μ h (.inr (4, [.ref bn, .ref nn, .ref la, .int (nI 0)]))) la (.inl (G.2 0, 78, .inr (.inl f30)))) s9 (.inl (G.2 0, 13, .inr (.inl g)))) _ := mw_eq ((congrArg (fun z => mu z la (.inl (G.2 0, 78, .inr (.inl f30)))) ((mu_c _ _ ((Ne.symm ne0_4))).trans (congrArg (fun z => mu z s9 (.inl (G.2 0, 13, .inr (.inl g)))) ((mu_c _ _ ((Ne.symm ne0_3))).trans (congrArg (fun z => mu z la (.inl (G.2 0, 78, .inr (.inl f)))) (mu_u _ _ _ _)))))).trans ((mu_c _ _ ((mp_ne hs9 ha (by simp)))).trans (congrArg (fun z => mu z s9 (.inl (G.2 0, 13, .inr (.inl g)))) (mu_u _ _ _ _)))) hP
      refine lv_iload_n hx hb dX4_makeFrom_33 rfl (lv_at hl 2 rfl) ?_
      refine lv_if_ne (tgt := 73) hx hb dX4_makeFrom_34 (by decide) (fun hc34 => ?_) (fun hc34 => ?_)
      · exact absurd rfl hc34
      · refine lv_aload_n hx hb dX4_makeFrom_37 rfl (lv_at hl 0 rfl) ?_
        refine mw_get (C := RX4) (T := TX4) (N := 4) hx hb hts in_X4_makeFrom_X4 hown hK hP ((mu_n ne0_4).trans ((mu_n ne0_3).trans (mu_s _ _ _))) rfl 0 (by decide) (hts (.fieldLink RX4 9 "OctagonDesk$Shape" "bench" "LOctagonDesk$Bench;") (by decide +kernel)) (fun _ h9 => h9) rfl dX4_makeFrom_38 ?_
        refine lv_bipush (v := nI 12) hx hb dX4_makeFrom_41 (by decide) ?_
        refine lv_iload_n hx hb dX4_makeFrom_43 rfl (lv_at hl 3 rfl) ?_
        refine lv_iload hx hb dX4_makeFrom_44 (lv_at hl 4 rfl) ?_
        refine nv_icmp_ne (tgt := 57) hx hb (by omega) (by omega) dX4_makeFrom_46 (by decide) (fun hc46 => ?_) (fun hc46 => ?_)
        · refine lv_iload hx hb dX4_makeFrom_57 (lv_at hl 5 rfl) ?_
          refine lv_i2l (v := c9.toInt64) hx hb dX4_makeFrom_59 rfl ?_
          have hv60 : c9.toInt64 = if a9 = t9 then (nI 2 * c9).toInt64 else c9.toInt64 := by first | exact (if_pos hc46).symm | exact (if_neg hc46).symm
          refine kc_v (va_runV (As := [.int (nI 12), .long c9.toInt64]) (rest := []) ⟨hx, hb, hml, hown, hts⟩ (c_X0_note l G B (mu (mu (mu μ h (.inr (4, [.ref bn, .ref nn, .ref la, .int (nI 0)]))) la (.inl (G.2 0, 78, .inr (.inl f30)))) s9 (.inl (G.2 0, 13, .inr (.inl g)))) bn nn s9 lo nf g 12 c9.toInt64 ((mu_n ne1_4).trans ((mu_n ne1_3).trans ((mu_n ((Ne.symm ne0_1))).trans (hbn)))) ((mu_n ne2_4).trans ((mu_n ne2_3).trans ((mu_n ((Ne.symm ne0_2))).trans (hnn)))) (mu_s _ _ _) (by omega) (Pn.ng (hSn _ (by omega))) (Pn.ng (by rw [hv60]; exact ac_pn hM6))) (cwV 2 hts gX4_makeFrom_X0_note rfl rfl rfl (by decide +kernel) ⟨Nat.le_of_ble_eq_true rfl, Nat.le_of_ble_eq_true rfl⟩) ⟨KW.blind, hP.recv hK rfl ((mu_n ne1_4).trans ((mu_n ne1_3).trans ((mu_n ((Ne.symm ne0_1))).trans (hbn)))), fun U9 hU9 hW9 => ⟨rfl, KW.pre hBs hKK hS hP U9 hU9 hW9⟩⟩ rfl rfl hl.1 rfl (lv_room (Nat.le_of_ble_eq_true rfl)) dX4_makeFrom_60 ⟨(Nat.le_of_ble_eq_true rfl), (Nat.le_of_ble_eq_true rfl)⟩) hS (fun m60 H locs hq9 hP hz9 hS => ?_)
          rw [hq9] at hP
          have hP : mw G.1 vwCl B (mu (mu (mu μ h (.inr (4, [.ref bn, .ref nn, .ref la, .int (nI 0)]))) la (.inl (G.2 0, 78, .inr (.inl f30)))) s9 (.inl (G.2 0, 13, .inr (.inl (vp_updL g 12 c9.toInt64))))) _ := mw_eq (mu_u _ _ _ _) hP
          refine lv_aload_n hx hb dX4_makeFrom_63 rfl (lv_at hl 0 rfl) ?_
          refine lv_iload_n hx hb dX4_makeFrom_64 rfl (lv_at hl 3 rfl) ?_
          refine lv_iload hx hb dX4_makeFrom_65 (lv_at hl 4 rfl) ?_
          refine kc_v (va_runV (As := [.int (nI a9), .int (nI t9)]) (rest := []) ⟨hx, hb, hml, hown, hts⟩ (c_X4_holdToSpare l G B (mu (mu (mu μ h (.inr (4, [.ref bn, .ref nn, .ref la, .int (nI 0)]))) la (.inl (G.2 0, 78, .inr (.inl f30)))) s9 (.inl (G.2 0, 13, .inr (.inl (vp_updL g 12 c9.toInt64))))) h bn nn la s9 lo nf f30 (vp_updL g 12 c9.toInt64) w9 a9 t9 ((mu_n ne0_4).trans ((mu_n ne0_3).trans (mu_s _ _ _))) ((mu_n ne1_4).trans ((mu_n ne1_3).trans ((mu_n ((Ne.symm ne0_1))).trans (hbn)))) ((mu_n ne2_4).trans ((mu_n ne2_3).trans ((mu_n ((Ne.symm ne0_2))).trans (hnn)))) ((mu_n ((mp_ne ha hs9 (by simp)))).trans (mu_s _ _ _)) (mu_s _ _ _) ((mu_n ((mp_ne hlo hs9 (by simp)))).trans ((mu_n ((mp_ne hlo ha (by simp)))).trans ((mu_n ((Ne.symm ne0_5))).trans (hlo)))) (by omega) (by omega) (((Or.inl (hZ2.of hf30)) : Ok f30)) ((hSn.upd (by rw [hv60]; exact ac_pn hM6))) (fun _ => by rw [up12]; exact act_0 hT2 hf30 (by omega) (by omega) hat hM6 hv60)) (cwV 2 hts gX4_makeFrom_X4_holdToSpare rfl rfl rfl (by decide +kernel) ⟨Nat.le_of_ble_eq_true rfl, Nat.le_of_ble_eq_true rfl⟩) ⟨KW.blind, hP.recv hK rfl ((mu_n ne0_4).trans ((mu_n ne0_3).trans (mu_s _ _ _))), fun U9 hU9 hW9 => ⟨rfl, KW.pre hBs hKK hS hP U9 hU9 hW9⟩⟩ rfl rfl hl.1 rfl (lv_room (Nat.le_of_ble_eq_true rfl)) dX4_makeFrom_67 ⟨(Nat.le_of_ble_eq_true rfl), (Nat.le_of_ble_eq_true rfl)⟩) hS (fun m67 H locs hq9 hP hz9 hS => ?_)
          obtain ⟨f67, g67, rfl, hH67, hN67⟩ := hq9
          have hP : mw G.1 vwCl B (mu (mu (mu μ h (.inr (4, [.ref bn, .ref nn, .ref la, .int (nI 0)]))) la (.inl (G.2 0, 78, .inr (.inl f67)))) s9 (.inl (G.2 0, 13, .inr (.inl g67)))) _ := mw_eq ((congrArg (fun z => mu z s9 (.inl (G.2 0, 13, .inr (.inl g67)))) ((mu_c _ _ ((mp_ne hs9 ha (by simp)))).trans (congrArg (fun z => mu z s9 (.inl (G.2 0, 13, .inr (.inl (vp_updL g 12 c9.toInt64))))) (mu_u _ _ _ _)))).trans (mu_u _ _ _ _)) hP
          refine lv_goto (tgt := 84) hx hb dX4_makeFrom_70 (by decide) ?_
          rw [hQ]
          exact W.vret hx hb hr (fun t99 ht99 hW99 => ⟨⟨mu (mu (mu μ h (.inr (4, [.ref bn, .ref nn, .ref la, .int (nI 0)]))) la (.inl (G.2 0, 78, .inr (.inl f67)))) s9 (.inl (G.2 0, 13, .inr (.inl g67))), rfl, (⟨_, _, rfl, (hp_ps hH67 (hZ2.ps.of hf30) (Ok.ps (by rw [up12]; exact act_0 hT2 hf30 (by omega) (by omega) hat hM6 hv60)))⟩), by show mw _ _ _ _ t99.heap; rw [ht99]; exact hP⟩, hS.F ht99⟩) hS.2.2 dX4_makeFrom_84
        · refine lv_iconst (v := nI 2) hx hb dX4_makeFrom_49 (by decide) ?_
          refine lv_iload hx hb dX4_makeFrom_50 (lv_at hl 5 rfl) ?_
          refine lv_imul hx hb dX4_makeFrom_52 ?_
          refine lv_i2l (v := ((nI 2) * c9).toInt64) hx hb dX4_makeFrom_53 rfl ?_
          refine lv_goto (tgt := 60) hx hb dX4_makeFrom_54 (by decide) ?_
          have hv60 : ((nI 2) * c9).toInt64 = if a9 = t9 then (nI 2 * c9).toInt64 else c9.toInt64 := by first | exact (if_pos hc46).symm | exact (if_neg hc46).symm
          refine kc_v (va_runV (As := [.int (nI 12), .long (((nI 2) * c9).toInt64)]) (rest := []) ⟨hx, hb, hml, hown, hts⟩ (c_X0_note l G B (mu (mu (mu μ h (.inr (4, [.ref bn, .ref nn, .ref la, .int (nI 0)]))) la (.inl (G.2 0, 78, .inr (.inl f30)))) s9 (.inl (G.2 0, 13, .inr (.inl g)))) bn nn s9 lo nf g 12 (((nI 2) * c9).toInt64) ((mu_n ne1_4).trans ((mu_n ne1_3).trans ((mu_n ((Ne.symm ne0_1))).trans (hbn)))) ((mu_n ne2_4).trans ((mu_n ne2_3).trans ((mu_n ((Ne.symm ne0_2))).trans (hnn)))) (mu_s _ _ _) (by omega) (Pn.ng (hSn _ (by omega))) (Pn.ng (by rw [hv60]; exact ac_pn hM6))) (cwV 2 hts gX4_makeFrom_X0_note rfl rfl rfl (by decide +kernel) ⟨Nat.le_of_ble_eq_true rfl, Nat.le_of_ble_eq_true rfl⟩) ⟨KW.blind, hP.recv hK rfl ((mu_n ne1_4).trans ((mu_n ne1_3).trans ((mu_n ((Ne.symm ne0_1))).trans (hbn)))), fun U9 hU9 hW9 => ⟨rfl, KW.pre hBs hKK hS hP U9 hU9 hW9⟩⟩ rfl rfl hl.1 rfl (lv_room (Nat.le_of_ble_eq_true rfl)) dX4_makeFrom_60 ⟨(Nat.le_of_ble_eq_true rfl), (Nat.le_of_ble_eq_true rfl)⟩) hS (fun m60 H locs hq9 hP hz9 hS => ?_)
          rw [hq9] at hP
          have hP : mw G.1 vwCl B (mu (mu (mu μ h (.inr (4, [.ref bn, .ref nn, .ref la, .int (nI 0)]))) la (.inl (G.2 0, 78, .inr (.inl f30)))) s9 (.inl (G.2 0, 13, .inr (.inl (vp_updL g 12 (((nI 2) * c9).toInt64)))))) _ := mw_eq (mu_u _ _ _ _) hP
          refine lv_aload_n hx hb dX4_makeFrom_63 rfl (lv_at hl 0 rfl) ?_
          refine lv_iload_n hx hb dX4_makeFrom_64 rfl (lv_at hl 3 rfl) ?_
          refine lv_iload hx hb dX4_makeFrom_65 (lv_at hl 4 rfl) ?_
          refine kc_v (va_runV (As := [.int (nI a9), .int (nI t9)]) (rest := []) ⟨hx, hb, hml, hown, hts⟩ (c_X4_holdToSpare l G B (mu (mu (mu μ h (.inr (4, [.ref bn, .ref nn, .ref la, .int (nI 0)]))) la (.inl (G.2 0, 78, .inr (.inl f30)))) s9 (.inl (G.2 0, 13, .inr (.inl (vp_updL g 12 (((nI 2) * c9).toInt64)))))) h bn nn la s9 lo nf f30 (vp_updL g 12 (((nI 2) * c9).toInt64)) w9 a9 t9 ((mu_n ne0_4).trans ((mu_n ne0_3).trans (mu_s _ _ _))) ((mu_n ne1_4).trans ((mu_n ne1_3).trans ((mu_n ((Ne.symm ne0_1))).trans (hbn)))) ((mu_n ne2_4).trans ((mu_n ne2_3).trans ((mu_n ((Ne.symm ne0_2))).trans (hnn)))) ((mu_n ((mp_ne ha hs9 (by simp)))).trans (mu_s _ _ _)) (mu_s _ _ _) ((mu_n ((mp_ne hlo hs9 (by simp)))).trans ((mu_n ((mp_ne hlo ha (by simp)))).trans ((mu_n ((Ne.symm ne0_5))).trans (hlo)))) (by omega) (by omega) (((Or.inl (hZ2.of hf30)) : Ok f30)) ((hSn.upd (by rw [hv60]; exact ac_pn hM6))) (fun _ => by rw [up12]; exact act_0 hT2 hf30 (by omega) (by omega) hat hM6 hv60)) (cwV 2 hts gX4_makeFrom_X4_holdToSpare rfl rfl rfl (by decide +kernel) ⟨Nat.le_of_ble_eq_true rfl, Nat.le_of_ble_eq_true rfl⟩) ⟨KW.blind, hP.recv hK rfl ((mu_n ne0_4).trans ((mu_n ne0_3).trans (mu_s _ _ _))), fun U9 hU9 hW9 => ⟨rfl, KW.pre hBs hKK hS hP U9 hU9 hW9⟩⟩ rfl rfl hl.1 rfl (lv_room (Nat.le_of_ble_eq_true rfl)) dX4_makeFrom_67 ⟨(Nat.le_of_ble_eq_true rfl), (Nat.le_of_ble_eq_true rfl)⟩) hS (fun m67 H locs hq9 hP hz9 hS => ?_)
          obtain ⟨f67, g67, rfl, hH67, hN67⟩ := hq9
          have hP : mw G.1 vwCl B (mu (mu (mu μ h (.inr (4, [.ref bn, .ref nn, .ref la, .int (nI 0)]))) la (.inl (G.2 0, 78, .inr (.inl f67)))) s9 (.inl (G.2 0, 13, .inr (.inl g67)))) _ := mw_eq ((congrArg (fun z => mu z s9 (.inl (G.2 0, 13, .inr (.inl g67)))) ((mu_c _ _ ((mp_ne hs9 ha (by simp)))).trans (congrArg (fun z => mu z s9 (.inl (G.2 0, 13, .inr (.inl (vp_updL g 12 (((nI 2) * c9).toInt64)))))) (mu_u _ _ _ _)))).trans (mu_u _ _ _ _)) hP
          refine lv_goto (tgt := 84) hx hb dX4_makeFrom_70 (by decide) ?_
          rw [hQ]
          exact W.vret hx hb hr (fun t99 ht99 hW99 => ⟨⟨mu (mu (mu μ h (.inr (4, [.ref bn, .ref nn, .ref la, .int (nI 0)]))) la (.inl (G.2 0, 78, .inr (.inl f67)))) s9 (.inl (G.2 0, 13, .inr (.inl g67))), rfl, (⟨_, _, rfl, (hp_ps hH67 (hZ2.ps.of hf30) (Ok.ps (by rw [up12]; exact act_0 hT2 hf30 (by omega) (by omega) hat hM6 hv60)))⟩), by show mw _ _ _ _ t99.heap; rw [ht99]; exact hP⟩, hS.F ht99⟩) hS.2.2 dX4_makeFrom_84
    · exact absurd hc14 (by omega)
  · exact absurd rfl hc4

set_option maxHeartbeats 4000000 in
set_option maxRecDepth 100000 in
theorem c_X4_makeFrom_1 (l : Launch) (G : GG) (B : Nat) (μ : mp) (h bn nn la s9 lo eb : Nat) (nf : List Value) (f g : Nat → Int64) (w9 : Nat → Int32) (h2 la2 : Nat) (f2 : Nat → Int64) (a9 t9 : Nat) (c9 : Int32) (hh : μ h = some (.inr (4, [.ref bn, .ref nn, .ref la, .int (nI eb)]))) (hbn : μ bn = some (.inr (0, [.ref nn, .ref s9, .ref lo]))) (hnn : μ nn = some (.inr (3, nf))) (ha : μ la = some (.inl (G.2 0, 78, .inr (.inl f)))) (hs9 : μ s9 = some (.inl (G.2 0, 13, .inr (.inl g)))) (hlo : μ lo = some (.inl (G.2 2, 78, .inl w9))) (hh2 : μ h2 = some (.inr (4, [.ref bn, .ref nn, .ref la2, .int (nI 0)]))) (ha2 : μ la2 = some (.inl (G.2 0, 78, .inr (.inl f2)))) (hne : la ≠ la2) (hne0 : h ≠ h2) (hM6 : M6 c9) (hPs : Ps f) (hZ2 : Za f2) (hSn : Sn g) (ha9 : a9 < 6) (ht9a : t9 < 12) : Met l yX4_makeFrom wsX4_makeFrom rm_X4_makeFrom (va_Pc [.ref h, .ref h2, .int (nI 1), .int (nI a9), .int (nI t9), .int c9] (KW G B μ)) (va_Qv (fun μ2 => ∃ f9 g9 : Nat → Int64, μ2 = mu (mu (mu μ h (.inr (4, [.ref bn, .ref nn, .ref la, .int (nI 0)]))) la (.inl (G.2 0, 78, .inr (.inl f9)))) s9 (.inl (G.2 0, 13, .inr (.inl g9))) ∧ Ps f9) (BB G B) (fun q => B ≤ q)) 0 0 (fun q => B ≤ q) := by
  refine Met.ofW (cc := cX4_makeFrom) (maxL := 6) (ret := none) (by decide) rfl ?_
  intro p e s m args below meth c s₁ B9 hml hv
  obtain ⟨hargs, hBs, hP, hKK⟩ := hv
  have hx := B9.exec
  have hb := B9.bytes
  have hr := B9.returns
  have hts := atoms_spec (ws := wsX4_makeFrom) B9.pre
  have hown : s.vm.findClass RX4 = some m.cls := findClass_of_methodNamed B9.named
  have hlocks := B9.notSynchronized
  have hK := hKK.k
  have hS : va_S (fun q => B ≤ q) s.heap s.heap [] := va_S.rf
  obtain ⟨Q, hQ⟩ : ∃ Q, Q = MQ below (va_Qv (fun μ2 => ∃ f9 g9 : Nat → Int64, μ2 = mu (mu (mu μ h (.inr (4, [.ref bn, .ref nn, .ref la, .int (nI 0)]))) la (.inl (G.2 0, 78, .inr (.inl f9)))) s9 (.inl (G.2 0, 13, .inr (.inl g9))) ∧ Ps f9) (BB G B) (fun q => B ≤ q)) args s 0 0 (fun q => B ≤ q) := ⟨_, rfl⟩
  rw [← hQ]
  have ne0_1 : h ≠ bn := mp_ne hh hbn (by simp)
  have ne0_2 : h ≠ nn := mp_ne hh hnn (by simp)
  have ne0_3 : h ≠ la := mp_ne hh ha (by simp)
  have ne0_4 : h ≠ s9 := mp_ne hh hs9 (by simp)
  have ne0_5 : h ≠ lo := mp_ne hh hlo (by simp)
  have ne0_7 : h ≠ la2 := mp_ne hh ha2 (by simp)
  have ne1_2 : bn ≠ nn := mp_ne hbn hnn (by simp)
  have ne1_3 : bn ≠ la := mp_ne hbn ha (by simp)
  have ne1_4 : bn ≠ s9 := mp_ne hbn hs9 (by simp)
  have ne1_5 : bn ≠ lo := mp_ne hbn hlo (by simp)
  have ne1_6 : bn ≠ h2 := mp_ne hbn hh2 (by simp)
  have ne1_7 : bn ≠ la2 := mp_ne hbn ha2 (by simp)
  have ne2_3 : nn ≠ la := mp_ne hnn ha (by simp)
  have ne2_4 : nn ≠ s9 := mp_ne hnn hs9 (by simp)
  have ne2_5 : nn ≠ lo := mp_ne hnn hlo (by simp)
  have ne2_6 : nn ≠ h2 := mp_ne hnn hh2 (by simp)
  have ne2_7 : nn ≠ la2 := mp_ne hnn ha2 (by simp)
  have ne3_6 : la ≠ h2 := mp_ne ha hh2 (by simp)
  have ne4_6 : s9 ≠ h2 := mp_ne hs9 hh2 (by simp)
  have ne5_6 : lo ≠ h2 := mp_ne hlo hh2 (by simp)
  have ne6_7 : h2 ≠ la2 := mp_ne hh2 ha2 (by simp)
  have in_X4_makeFrom_X4 : ∀ w ∈ wsX40, w ∈ wsX4_makeFrom := by decide +kernel
  have hP : mw G.1 vwCl B (mu (mu (mu μ h (.inr (4, [.ref bn, .ref nn, .ref la, .int (nI eb)]))) la (.inl (G.2 0, 78, .inr (.inl f)))) s9 (.inl (G.2 0, 13, .inr (.inl g)))) s.heap := mw_eq ((congrArg (fun z => mu z s9 (.inl (G.2 0, 13, .inr (.inl g)))) ((congrArg (fun z => mu z la (.inl (G.2 0, 78, .inr (.inl f)))) (mu_i hh)).trans (mu_i ha))).trans (mu_i hs9)).symm hP
  have hl := lv_entry ([.ref h, .ref h2, .int (nI 1), .int (nI a9), .int (nI t9), .int c9]) (n := 6) (Nat.le_of_ble_eq_true rfl)
  have he9 : entryFrame m args 6 = entryFrame m ([.ref h, .ref h2, .int (nI 1), .int (nI a9), .int (nI t9), .int c9] : List Value).toArray 6 := by rw [hargs]
  rw [he9, lg_entry_eq]
  generalize (lg_sl ([.ref h, .ref h2, .int (nI 1), .int (nI a9), .int (nI t9), .int c9]) ++ List.replicate (6 - (lg_sl ([.ref h, .ref h2, .int (nI 1), .int (nI a9), .int (nI t9), .int c9])).length) Slot.unset).toArray = ls at hl ⊢
  have hl : lv_has ls 6 [(0, .ref h), (1, .ref h2), (2, .int (nI 1)), (3, .int (nI a9)), (4, .int (nI t9)), (5, .int c9)] := hl
  refine lv_aload_n hx hb dX4_makeFrom_0 rfl (lv_at hl 1 rfl) ?_
  refine mw_get (C := RX4) (T := TX4) (N := 4) hx hb hts in_X4_makeFrom_X4 hown hK hP ((mu_n ((Ne.symm ne4_6))).trans ((mu_n ((Ne.symm ne3_6))).trans ((mu_n ((Ne.symm hne0))).trans (hh2)))) rfl 3 (by decide) (hts (.fieldLink RX4 26 "OctagonDesk$Shape" "empty" "Z") (by decide +kernel)) (fun _ h9 => h9) rfl dX4_makeFrom_1 ?_
  refine lv_if_eq (tgt := 12) hx hb dX4_makeFrom_4 (by decide) (fun hc4 => ?_) (fun hc4 => ?_)
  · refine lv_iload_n hx hb dX4_makeFrom_12 rfl (lv_at hl 2 rfl) ?_
    refine lv_iconst (v := nI 1) hx hb dX4_makeFrom_13 (by decide) ?_
    refine nv_icmp_ne (tgt := 28) hx hb (by omega) (by omega) dX4_makeFrom_14 (by decide) (fun hc14 => ?_) (fun hc14 => ?_)
    · exact absurd rfl hc14
    · refine lv_aload_n hx hb dX4_makeFrom_17 rfl (lv_at hl 0 rfl) ?_
      refine lv_aload_n hx hb dX4_makeFrom_18 rfl (lv_at hl 1 rfl) ?_
      refine lv_iload_n hx hb dX4_makeFrom_19 rfl (lv_at hl 3 rfl) ?_
      refine lv_iload hx hb dX4_makeFrom_20 (lv_at hl 4 rfl) ?_
      refine lv_iload hx hb dX4_makeFrom_22 (lv_at hl 5 rfl) ?_
      refine kc_v (va_runV (As := [.ref h2, .int (nI a9), .int (nI t9), .int c9]) (rest := []) ⟨hx, hb, hml, hown, hts⟩ (c_X4_tell l G B (mu (mu (mu μ h (.inr (4, [.ref bn, .ref nn, .ref la, .int (nI eb)]))) la (.inl (G.2 0, 78, .inr (.inl f)))) s9 (.inl (G.2 0, 13, .inr (.inl g)))) h bn nn la s9 lo eb nf f g w9 h2 la2 f2 a9 t9 c9 ((mu_n ne0_4).trans ((mu_n ne0_3).trans (mu_s _ _ _))) ((mu_n ne1_4).trans ((mu_n ne1_3).trans ((mu_n ((Ne.symm ne0_1))).trans (hbn)))) ((mu_n ne2_4).trans ((mu_n ne2_3).trans ((mu_n ((Ne.symm ne0_2))).trans (hnn)))) ((mu_n ((mp_ne ha hs9 (by simp)))).trans (mu_s _ _ _)) (mu_s _ _ _) ((mu_n ((mp_ne hlo hs9 (by simp)))).trans ((mu_n ((mp_ne hlo ha (by simp)))).trans ((mu_n ((Ne.symm ne0_5))).trans (hlo)))) ((mu_n ((Ne.symm ne4_6))).trans ((mu_n ((Ne.symm ne3_6))).trans ((mu_n ((Ne.symm hne0))).trans (hh2)))) ((mu_n ((mp_ne ha2 hs9 (by simp)))).trans ((mu_n ((Ne.symm hne))).trans ((mu_n ((Ne.symm ne0_7))).trans (ha2)))) (hne) (hne0) (by omega) (by omega) (hM6) (hPs) (hZ2)) (cwV 4 hts gX4_makeFrom_X4_tell rfl rfl rfl (by decide +kernel) ⟨Nat.le_of_ble_eq_true rfl, Nat.le_of_ble_eq_true rfl⟩) ⟨KW.blind, hP.recv hK rfl ((mu_n ne0_4).trans ((mu_n ne0_3).trans (mu_s _ _ _))), fun U9 hU9 hW9 => ⟨rfl, KW.pre hBs hKK hS hP U9 hU9 hW9⟩⟩ rfl rfl hl.1 rfl (lv_room (Nat.le_of_ble_eq_true rfl)) dX4_makeFrom_24 ⟨(Nat.le_of_ble_eq_true rfl), (Nat.le_of_ble_eq_true rfl)⟩) hS (fun m24 H locs hq9 hP hz9 hS => ?_)
      obtain ⟨f24, rfl, hp24⟩ := hq9
      have hP : mw G.1 vwCl B (mu (mu (mu μ h (.inr (4, [.ref bn, .ref nn, .ref la, .int (nI 0)]))) la (.inl (G.2 0, 78, .inr (.inl f24)))) s9 (.inl (G.2 0, 13, .inr (.inl g)))) _ := mw_eq ((congrArg (fun z => mu z la (.inl (G.2 0, 78, .inr (.inl f24)))) ((mu_c _ _ ((Ne.symm ne0_4))).trans (congrArg (fun z => mu z s9 (.inl (G.2 0, 13, .inr (.inl g)))) ((mu_c _ _ ((Ne.symm ne0_3))).trans (congrArg (fun z => mu z la (.inl (G.2 0, 78, .inr (.inl f)))) (mu_u _ _ _ _)))))).trans ((mu_c _ _ ((mp_ne hs9 ha (by simp)))).trans (congrArg (fun z => mu z s9 (.inl (G.2 0, 13, .inr (.inl g)))) (mu_u _ _ _ _)))) hP
      rw [hQ]
      exact W.vret hx hb hr (fun t99 ht99 hW99 => ⟨⟨mu (mu (mu μ h (.inr (4, [.ref bn, .ref nn, .ref la, .int (nI 0)]))) la (.inl (G.2 0, 78, .inr (.inl f24)))) s9 (.inl (G.2 0, 13, .inr (.inl g))), rfl, (⟨_, _, rfl, hp24⟩), by show mw _ _ _ _ t99.heap; rw [ht99]; exact hP⟩, hS.F ht99⟩) hS.2.2 dX4_makeFrom_27
  · exact absurd rfl hc4

set_option maxHeartbeats 4000000 in
set_option maxRecDepth 100000 in
theorem c_X4_makeFrom_2 (l : Launch) (G : GG) (B : Nat) (μ : mp) (h bn nn la s9 lo eb : Nat) (nf : List Value) (f g : Nat → Int64) (w9 : Nat → Int32) (h2 la2 : Nat) (f2 : Nat → Int64) (a9 : Nat) (l9 c9 : Int32) (hh : μ h = some (.inr (4, [.ref bn, .ref nn, .ref la, .int (nI eb)]))) (hbn : μ bn = some (.inr (0, [.ref nn, .ref s9, .ref lo]))) (hnn : μ nn = some (.inr (3, nf))) (ha : μ la = some (.inl (G.2 0, 78, .inr (.inl f)))) (hs9 : μ s9 = some (.inl (G.2 0, 13, .inr (.inl g)))) (hlo : μ lo = some (.inl (G.2 2, 78, .inl w9))) (hh2 : μ h2 = some (.inr (4, [.ref bn, .ref nn, .ref la2, .int (nI 0)]))) (ha2 : μ la2 = some (.inl (G.2 0, 78, .inr (.inl f2)))) (hne : la ≠ la2) (hne0 : h ≠ h2) (hM6 : M6 c9) (hPs : Ps f) (hZ2 : Za f2) (hSn : Sn g) (ha9 : a9 < 6) (hL6 : M6 l9) (hlc : l9.toInt ≤ c9.toInt) (hT2 : ∀ c, c < 78 → f2 c = tz c) : Met l yX4_makeFrom wsX4_makeFrom rm_X4_makeFrom (va_Pc [.ref h, .ref h2, .int (nI 2), .int (nI a9), .int l9, .int c9] (KW G B μ)) (va_Qv (fun μ2 => ∃ f9 g9 : Nat → Int64, μ2 = mu (mu (mu μ h (.inr (4, [.ref bn, .ref nn, .ref la, .int (nI 0)]))) la (.inl (G.2 0, 78, .inr (.inl f9)))) s9 (.inl (G.2 0, 13, .inr (.inl g9))) ∧ Ps f9) (BB G B) (fun q => B ≤ q)) 0 0 (fun q => B ≤ q) := by
  refine Met.ofW (cc := cX4_makeFrom) (maxL := 6) (ret := none) (by decide) rfl ?_
  intro p e s m args below meth c s₁ B9 hml hv
  obtain ⟨hargs, hBs, hP, hKK⟩ := hv
  have hx := B9.exec
  have hb := B9.bytes
  have hr := B9.returns
  have hts := atoms_spec (ws := wsX4_makeFrom) B9.pre
  have hown : s.vm.findClass RX4 = some m.cls := findClass_of_methodNamed B9.named
  have hlocks := B9.notSynchronized
  have hK := hKK.k
  have hS : va_S (fun q => B ≤ q) s.heap s.heap [] := va_S.rf
  obtain ⟨Q, hQ⟩ : ∃ Q, Q = MQ below (va_Qv (fun μ2 => ∃ f9 g9 : Nat → Int64, μ2 = mu (mu (mu μ h (.inr (4, [.ref bn, .ref nn, .ref la, .int (nI 0)]))) la (.inl (G.2 0, 78, .inr (.inl f9)))) s9 (.inl (G.2 0, 13, .inr (.inl g9))) ∧ Ps f9) (BB G B) (fun q => B ≤ q)) args s 0 0 (fun q => B ≤ q) := ⟨_, rfl⟩
  rw [← hQ]
  have ne0_1 : h ≠ bn := mp_ne hh hbn (by simp)
  have ne0_2 : h ≠ nn := mp_ne hh hnn (by simp)
  have ne0_3 : h ≠ la := mp_ne hh ha (by simp)
  have ne0_4 : h ≠ s9 := mp_ne hh hs9 (by simp)
  have ne0_5 : h ≠ lo := mp_ne hh hlo (by simp)
  have ne0_7 : h ≠ la2 := mp_ne hh ha2 (by simp)
  have ne1_2 : bn ≠ nn := mp_ne hbn hnn (by simp)
  have ne1_3 : bn ≠ la := mp_ne hbn ha (by simp)
  have ne1_4 : bn ≠ s9 := mp_ne hbn hs9 (by simp)
  have ne1_5 : bn ≠ lo := mp_ne hbn hlo (by simp)
  have ne1_6 : bn ≠ h2 := mp_ne hbn hh2 (by simp)
  have ne1_7 : bn ≠ la2 := mp_ne hbn ha2 (by simp)
  have ne2_3 : nn ≠ la := mp_ne hnn ha (by simp)
  have ne2_4 : nn ≠ s9 := mp_ne hnn hs9 (by simp)
  have ne2_5 : nn ≠ lo := mp_ne hnn hlo (by simp)
  have ne2_6 : nn ≠ h2 := mp_ne hnn hh2 (by simp)
  have ne2_7 : nn ≠ la2 := mp_ne hnn ha2 (by simp)
  have ne3_6 : la ≠ h2 := mp_ne ha hh2 (by simp)
  have ne4_6 : s9 ≠ h2 := mp_ne hs9 hh2 (by simp)
  have ne5_6 : lo ≠ h2 := mp_ne hlo hh2 (by simp)
  have ne6_7 : h2 ≠ la2 := mp_ne hh2 ha2 (by simp)
  have in_X4_makeFrom_X4 : ∀ w ∈ wsX40, w ∈ wsX4_makeFrom := by decide +kernel
  have hP : mw G.1 vwCl B (mu (mu (mu μ h (.inr (4, [.ref bn, .ref nn, .ref la, .int (nI eb)]))) la (.inl (G.2 0, 78, .inr (.inl f)))) s9 (.inl (G.2 0, 13, .inr (.inl g)))) s.heap := mw_eq ((congrArg (fun z => mu z s9 (.inl (G.2 0, 13, .inr (.inl g)))) ((congrArg (fun z => mu z la (.inl (G.2 0, 78, .inr (.inl f)))) (mu_i hh)).trans (mu_i ha))).trans (mu_i hs9)).symm hP
  have hl := lv_entry ([.ref h, .ref h2, .int (nI 2), .int (nI a9), .int l9, .int c9]) (n := 6) (Nat.le_of_ble_eq_true rfl)
  have he9 : entryFrame m args 6 = entryFrame m ([.ref h, .ref h2, .int (nI 2), .int (nI a9), .int l9, .int c9] : List Value).toArray 6 := by rw [hargs]
  rw [he9, lg_entry_eq]
  generalize (lg_sl ([.ref h, .ref h2, .int (nI 2), .int (nI a9), .int l9, .int c9]) ++ List.replicate (6 - (lg_sl ([.ref h, .ref h2, .int (nI 2), .int (nI a9), .int l9, .int c9])).length) Slot.unset).toArray = ls at hl ⊢
  have hl : lv_has ls 6 [(0, .ref h), (1, .ref h2), (2, .int (nI 2)), (3, .int (nI a9)), (4, .int l9), (5, .int c9)] := hl
  refine lv_aload_n hx hb dX4_makeFrom_0 rfl (lv_at hl 1 rfl) ?_
  refine mw_get (C := RX4) (T := TX4) (N := 4) hx hb hts in_X4_makeFrom_X4 hown hK hP ((mu_n ((Ne.symm ne4_6))).trans ((mu_n ((Ne.symm ne3_6))).trans ((mu_n ((Ne.symm hne0))).trans (hh2)))) rfl 3 (by decide) (hts (.fieldLink RX4 26 "OctagonDesk$Shape" "empty" "Z") (by decide +kernel)) (fun _ h9 => h9) rfl dX4_makeFrom_1 ?_
  refine lv_if_eq (tgt := 12) hx hb dX4_makeFrom_4 (by decide) (fun hc4 => ?_) (fun hc4 => ?_)
  · refine lv_iload_n hx hb dX4_makeFrom_12 rfl (lv_at hl 2 rfl) ?_
    refine lv_iconst (v := nI 1) hx hb dX4_makeFrom_13 (by decide) ?_
    refine nv_icmp_ne (tgt := 28) hx hb (by omega) (by omega) dX4_makeFrom_14 (by decide) (fun hc14 => ?_) (fun hc14 => ?_)
    · refine lv_aload_n hx hb dX4_makeFrom_28 rfl (lv_at hl 0 rfl) ?_
      refine lv_aload_n hx hb dX4_makeFrom_29 rfl (lv_at hl 1 rfl) ?_
      refine kc_v (va_runV (As := [.ref h2]) (rest := []) ⟨hx, hb, hml, hown, hts⟩ (c_X4_takeOver l G B (mu (mu (mu μ h (.inr (4, [.ref bn, .ref nn, .ref la, .int (nI eb)]))) la (.inl (G.2 0, 78, .inr (.inl f)))) s9 (.inl (G.2 0, 13, .inr (.inl g)))) h bn nn la s9 lo eb nf f g w9 h2 la2 0 f2  ((mu_n ne0_4).trans ((mu_n ne0_3).trans (mu_s _ _ _))) ((mu_n ne1_4).trans ((mu_n ne1_3).trans ((mu_n ((Ne.symm ne0_1))).trans (hbn)))) ((mu_n ne2_4).trans ((mu_n ne2_3).trans ((mu_n ((Ne.symm ne0_2))).trans (hnn)))) ((mu_n ((mp_ne ha hs9 (by simp)))).trans (mu_s _ _ _)) (mu_s _ _ _) ((mu_n ((mp_ne hlo hs9 (by simp)))).trans ((mu_n ((mp_ne hlo ha (by simp)))).trans ((mu_n ((Ne.symm ne0_5))).trans (hlo)))) ((mu_n ((Ne.symm ne4_6))).trans ((mu_n ((Ne.symm ne3_6))).trans ((mu_n ((Ne.symm hne0))).trans (hh2)))) ((mu_n ((mp_ne ha2 hs9 (by simp)))).trans ((mu_n ((Ne.symm hne))).trans ((mu_n ((Ne.symm ne0_7))).trans (ha2)))) (by omega) (hPs) (hZ2.ps) (hne) (hne0)) (cwV 1 hts gX4_makeFrom_X4_takeOver rfl rfl rfl (by decide +kernel) ⟨Nat.le_of_ble_eq_true rfl, Nat.le_of_ble_eq_true rfl⟩) ⟨KW.blind, hP.recv hK rfl ((mu_n ne0_4).trans ((mu_n ne0_3).trans (mu_s _ _ _))), fun U9 hU9 hW9 => ⟨rfl, KW.pre hBs hKK hS hP U9 hU9 hW9⟩⟩ rfl rfl hl.1 rfl (lv_room (Nat.le_of_ble_eq_true rfl)) dX4_makeFrom_30 ⟨(Nat.le_of_ble_eq_true rfl), (Nat.le_of_ble_eq_true rfl)⟩) hS (fun m30 H locs hq9 hP hz9 hS => ?_)
      obtain ⟨f30, rfl, hf30⟩ := hq9
      have hP : mw G.1 vwCl B (mu (mu (mu μ h (.inr (4, [.ref bn, .ref nn, .ref la, .int (nI 0)]))) la (.inl (G.2 0, 78, .inr (.inl f30)))) s9 (.inl (G.2 0, 13, .inr (.inl g)))) _ := mw_eq ((congrArg (fun z => mu z la (.inl (G.2 0, 78, .inr (.inl f30)))) ((mu_c _ _ ((Ne.symm ne0_4))).trans (congrArg (fun z => mu z s9 (.inl (G.2 0, 13, .inr (.inl g)))) ((mu_c _ _ ((Ne.symm ne0_3))).trans (congrArg (fun z => mu z la (.inl (G.2 0, 78, .inr (.inl f)))) (mu_u _ _ _ _)))))).trans ((mu_c _ _ ((mp_ne hs9 ha (by simp)))).trans (congrArg (fun z => mu z s9 (.inl (G.2 0, 13, .inr (.inl g)))) (mu_u _ _ _ _)))) hP
      refine lv_iload_n hx hb dX4_makeFrom_33 rfl (lv_at hl 2 rfl) ?_
      refine lv_if_ne (tgt := 73) hx hb dX4_makeFrom_34 (by decide) (fun hc34 => ?_) (fun hc34 => ?_)
      · refine lv_aload_n hx hb dX4_makeFrom_73 rfl (lv_at hl 0 rfl) ?_
        refine lv_iload_n hx hb dX4_makeFrom_74 rfl (lv_at hl 3 rfl) ?_
        refine lv_iload hx hb dX4_makeFrom_75 (lv_at hl 4 rfl) ?_
        refine lv_i2l (v := l9.toInt64) hx hb dX4_makeFrom_77 rfl ?_
        refine lv_iload hx hb dX4_makeFrom_78 (lv_at hl 5 rfl) ?_
        refine lv_i2l (v := c9.toInt64) hx hb dX4_makeFrom_80 rfl ?_
        refine kc_v (va_runV (As := [.int (nI a9), .long l9.toInt64, .long c9.toInt64]) (rest := []) ⟨hx, hb, hml, hown, hts⟩ (c_X4_scatter l G B (mu (mu (mu μ h (.inr (4, [.ref bn, .ref nn, .ref la, .int (nI 0)]))) la (.inl (G.2 0, 78, .inr (.inl f30)))) s9 (.inl (G.2 0, 13, .inr (.inl g)))) h bn nn la s9 lo nf f30 g w9 a9 l9.toInt64 c9.toInt64 ((mu_n ne0_4).trans ((mu_n ne0_3).trans (mu_s _ _ _))) ((mu_n ne1_4).trans ((mu_n ne1_3).trans ((mu_n ((Ne.symm ne0_1))).trans (hbn)))) ((mu_n ne2_4).trans ((mu_n ne2_3).trans ((mu_n ((Ne.symm ne0_2))).trans (hnn)))) ((mu_n ((mp_ne ha hs9 (by simp)))).trans (mu_s _ _ _)) (mu_s _ _ _) ((mu_n ((mp_ne hlo hs9 (by simp)))).trans ((mu_n ((mp_ne hlo ha (by simp)))).trans ((mu_n ((Ne.symm ne0_5))).trans (hlo)))) (by omega) ((hZ2.ps.of hf30)) (hSn) ((m64 hL6).2.2) ((m64 hM6).2.1) (fun f1 h1 => act_2 hT2 hf30 h1 (by omega) hL6 hM6 hlc)) (cwV 3 hts gX4_makeFrom_X4_scatter rfl rfl rfl (by decide +kernel) ⟨Nat.le_of_ble_eq_true rfl, Nat.le_of_ble_eq_true rfl⟩) ⟨KW.blind, hP.recv hK rfl ((mu_n ne0_4).trans ((mu_n ne0_3).trans (mu_s _ _ _))), fun U9 hU9 hW9 => ⟨rfl, KW.pre hBs hKK hS hP U9 hU9 hW9⟩⟩ rfl rfl hl.1 rfl (lv_room (Nat.le_of_ble_eq_true rfl)) dX4_makeFrom_81 ⟨(Nat.le_of_ble_eq_true rfl), (Nat.le_of_ble_eq_true rfl)⟩) hS (fun m81 H locs hq9 hP hz9 hS => ?_)
        obtain ⟨f81, g81, rfl, hO81, hN81⟩ := hq9
        have hP : mw G.1 vwCl B (mu (mu (mu μ h (.inr (4, [.ref bn, .ref nn, .ref la, .int (nI 0)]))) la (.inl (G.2 0, 78, .inr (.inl f81)))) s9 (.inl (G.2 0, 13, .inr (.inl g81)))) _ := mw_eq ((congrArg (fun z => mu z s9 (.inl (G.2 0, 13, .inr (.inl g81)))) ((mu_c _ _ ((mp_ne hs9 ha (by simp)))).trans (congrArg (fun z => mu z s9 (.inl (G.2 0, 13, .inr (.inl g)))) (mu_u _ _ _ _)))).trans (mu_u _ _ _ _)) hP
        rw [hQ]
        exact W.vret hx hb hr (fun t99 ht99 hW99 => ⟨⟨mu (mu (mu μ h (.inr (4, [.ref bn, .ref nn, .ref la, .int (nI 0)]))) la (.inl (G.2 0, 78, .inr (.inl f81)))) s9 (.inl (G.2 0, 13, .inr (.inl g81))), rfl, (⟨_, _, rfl, hO81.ps⟩), by show mw _ _ _ _ t99.heap; rw [ht99]; exact hP⟩, hS.F ht99⟩) hS.2.2 dX4_makeFrom_84
      · exact absurd hc34 (by decide)
    · exact absurd hc14 (by omega)
  · exact absurd rfl hc4

abbrev rm_X4_isSettledByEmptiness : Room := { frames := 0, cells := 0, slots := 0, locals := 0 }
set_option maxHeartbeats 4000000 in
set_option maxRecDepth 100000 in
theorem c_X4_isSettledByEmptiness (l : Launch) (G : GG) (B : Nat) (μ : mp) (h bn nn la s9 lo : Nat) (nf : List Value) (f g : Nat → Int64) (w9 : Nat → Int32) (h2 la2 : Nat) (f2 : Nat → Int64) (hh : μ h = some (.inr (4, [.ref bn, .ref nn, .ref la, .int (nI 0)]))) (hbn : μ bn = some (.inr (0, [.ref nn, .ref s9, .ref lo]))) (hnn : μ nn = some (.inr (3, nf))) (ha : μ la = some (.inl (G.2 0, 78, .inr (.inl f)))) (hs9 : μ s9 = some (.inl (G.2 0, 13, .inr (.inl g)))) (hlo : μ lo = some (.inl (G.2 2, 78, .inl w9))) (hh2 : μ h2 = some (.inr (4, [.ref bn, .ref nn, .ref la2, .int (nI 0)]))) (ha2 : μ la2 = some (.inl (G.2 0, 78, .inr (.inl f2)))) : Met l yX4_isSettledByEmptiness wsX4_isSettledByEmptiness rm_X4_isSettledByEmptiness (va_Pc [.ref h, .ref h2] (KW G B μ)) (va_Qi (fun r μ2 => μ2 = μ ∧ r = 0) (BB G B) (fun q => B ≤ q)) 0 0 (fun q => B ≤ q) := by
  refine Met.ofW (cc := cX4_isSettledByEmptiness) (maxL := 3) (ret := (some .boolean)) (by decide) rfl ?_
  intro p e s m args below meth c s₁ B9 hml hv
  obtain ⟨hargs, hBs, hP, hKK⟩ := hv
  have hx := B9.exec
  have hb := B9.bytes
  have hr := B9.returns
  have hts := atoms_spec (ws := wsX4_isSettledByEmptiness) B9.pre
  have hown : s.vm.findClass RX4 = some m.cls := findClass_of_methodNamed B9.named
  have hlocks := B9.notSynchronized
  have hK := hKK.k
  have hS : va_S (fun q => B ≤ q) s.heap s.heap [] := va_S.rf
  obtain ⟨Q, hQ⟩ : ∃ Q, Q = MQ below (va_Qi (fun r μ2 => μ2 = μ ∧ r = 0) (BB G B) (fun q => B ≤ q)) args s 0 0 (fun q => B ≤ q) := ⟨_, rfl⟩
  rw [← hQ]
  have ne0_1 : h ≠ bn := mp_ne hh hbn (by simp)
  have ne0_2 : h ≠ nn := mp_ne hh hnn (by simp)
  have ne0_3 : h ≠ la := mp_ne hh ha (by simp)
  have ne0_4 : h ≠ s9 := mp_ne hh hs9 (by simp)
  have ne0_5 : h ≠ lo := mp_ne hh hlo (by simp)
  have ne0_7 : h ≠ la2 := mp_ne hh ha2 (by simp)
  have ne1_2 : bn ≠ nn := mp_ne hbn hnn (by simp)
  have ne1_3 : bn ≠ la := mp_ne hbn ha (by simp)
  have ne1_4 : bn ≠ s9 := mp_ne hbn hs9 (by simp)
  have ne1_5 : bn ≠ lo := mp_ne hbn hlo (by simp)
  have ne1_6 : bn ≠ h2 := mp_ne hbn hh2 (by simp)
  have ne1_7 : bn ≠ la2 := mp_ne hbn ha2 (by simp)
  have ne2_3 : nn ≠ la := mp_ne hnn ha (by simp)
  have ne2_4 : nn ≠ s9 := mp_ne hnn hs9 (by simp)
  have ne2_5 : nn ≠ lo := mp_ne hnn hlo (by simp)
  have ne2_6 : nn ≠ h2 := mp_ne hnn hh2 (by simp)
  have ne2_7 : nn ≠ la2 := mp_ne hnn ha2 (by simp)
  have ne3_6 : la ≠ h2 := mp_ne ha hh2 (by simp)
  have ne4_6 : s9 ≠ h2 := mp_ne hs9 hh2 (by simp)
  have ne5_6 : lo ≠ h2 := mp_ne hlo hh2 (by simp)
  have ne6_7 : h2 ≠ la2 := mp_ne hh2 ha2 (by simp)
  have in_X4_isSettledByEmptiness_X4 : ∀ w ∈ wsX40, w ∈ wsX4_isSettledByEmptiness := by decide +kernel
  have hl := lv_entry ([.ref h, .ref h2]) (n := 3) (Nat.le_of_ble_eq_true rfl)
  have he9 : entryFrame m args 3 = entryFrame m ([.ref h, .ref h2] : List Value).toArray 3 := by rw [hargs]
  rw [he9, lg_entry_eq]
  generalize (lg_sl ([.ref h, .ref h2]) ++ List.replicate (3 - (lg_sl ([.ref h, .ref h2])).length) Slot.unset).toArray = ls at hl ⊢
  have hl : lv_has ls 3 [(0, .ref h), (1, .ref h2)] := hl
  refine lv_aload_n hx hb dX4_isSettledByEmptiness_0 rfl (lv_at hl 0 rfl) ?_
  refine mw_get (C := RX4) (T := TX4) (N := 4) hx hb hts in_X4_isSettledByEmptiness_X4 hown hK hP (hh) rfl 3 (by decide) (hts (.fieldLink RX4 26 "OctagonDesk$Shape" "empty" "Z") (by decide +kernel)) (fun _ h9 => h9) rfl dX4_isSettledByEmptiness_1 ?_
  refine lv_if_ne (tgt := 14) hx hb dX4_isSettledByEmptiness_4 (by decide) (fun hc4 => ?_) (fun hc4 => ?_)
  · exact absurd rfl hc4
  · refine lv_aload_n hx hb dX4_isSettledByEmptiness_7 rfl (lv_at hl 1 rfl) ?_
    refine mw_get (C := RX4) (T := TX4) (N := 4) hx hb hts in_X4_isSettledByEmptiness_X4 hown hK hP (hh2) rfl 3 (by decide) (hts (.fieldLink RX4 26 "OctagonDesk$Shape" "empty" "Z") (by decide +kernel)) (fun _ h9 => h9) rfl dX4_isSettledByEmptiness_8 ?_
    refine lv_if_eq (tgt := 18) hx hb dX4_isSettledByEmptiness_11 (by decide) (fun hc11 => ?_) (fun hc11 => ?_)
    · refine lv_iconst (v := nI 0) hx hb dX4_isSettledByEmptiness_18 (by decide) ?_
      refine lv_istore_n (lv' := [(2, .int (nI 0)), (0, .ref h), (1, .ref h2)]) hx hb dX4_isSettledByEmptiness_19 rfl hl (by decide) rfl (fun ls hl => ?_)
      refine lv_aload_n hx hb dX4_isSettledByEmptiness_20 rfl (lv_at hl 1 rfl) ?_
      refine mw_get (C := RX4) (T := TX4) (N := 4) hx hb hts in_X4_isSettledByEmptiness_X4 hown hK hP (hh) rfl 3 (by decide) (hts (.fieldLink RX4 26 "OctagonDesk$Shape" "empty" "Z") (by decide +kernel)) (fun _ h9 => h9) rfl dX4_isSettledByEmptiness_21 ?_
      refine lv_if_eq (tgt := 32) hx hb dX4_isSettledByEmptiness_24 (by decide) (fun hc24 => ?_) (fun hc24 => ?_)
      · refine lv_iload_n hx hb dX4_isSettledByEmptiness_32 rfl (lv_at hl 0 rfl) ?_
        rw [hQ]
        exact W.zret (v := nI 0) (ty := .boolean) hx hb hr (by first | rfl | decide) (fun t99 ht99 hW99 => ⟨⟨nI 0, μ, rfl, (⟨rfl, rfl⟩), by show mw _ _ _ _ t99.heap; rw [ht99]; exact hP⟩, hS.F ht99⟩) hS.2.2 dX4_isSettledByEmptiness_33
      · exact absurd rfl hc24
    · exact absurd rfl hc11

abbrev rm_X4_cutTo : Room := { frames := 5, cells := 0, slots := 0, locals := 119 }
set_option maxHeartbeats 4000000 in
set_option maxRecDepth 100000 in
theorem c_X4_cutTo (l : Launch) (G : GG) (B : Nat) (μ : mp) (h bn nn la s9 lo : Nat) (nf : List Value) (f g : Nat → Int64) (w9 : Nat → Int32) (h2 la2 : Nat) (f2 : Nat → Int64) (hh : μ h = some (.inr (4, [.ref bn, .ref nn, .ref la, .int (nI 0)]))) (hbn : μ bn = some (.inr (0, [.ref nn, .ref s9, .ref lo]))) (hnn : μ nn = some (.inr (3, nf))) (ha : μ la = some (.inl (G.2 0, 78, .inr (.inl f)))) (hs9 : μ s9 = some (.inl (G.2 0, 13, .inr (.inl g)))) (hlo : μ lo = some (.inl (G.2 2, 78, .inl w9))) (hh2 : μ h2 = some (.inr (4, [.ref bn, .ref nn, .ref la2, .int (nI 0)]))) (ha2 : μ la2 = some (.inl (G.2 0, 78, .inr (.inl f2)))) (hne : la ≠ la2) (hne0 : h ≠ h2) (hZ : Za f) (hZ2 : Za f2) (hSn : Sn g) : Met l yX4_cutTo wsX4_cutTo rm_X4_cutTo (va_Pc [.ref h, .ref h2] (KW G B μ)) (va_Qv (fun μ2 => ∃ (f9 g9 : Nat → Int64) (v9 : Nat → Int32), μ2 = mu (mu (mu μ la (.inl (G.2 0, 78, .inr (.inl f9)))) s9 (.inl (G.2 0, 13, .inr (.inl g9)))) lo (.inl (G.2 2, 78, .inl v9)) ∧ Za f9 ∧ Sn g9) (BB G B) (fun q => B ≤ q)) 0 0 (fun q => B ≤ q) := by
  refine Met.ofW (cc := cX4_cutTo) (maxL := 3) (ret := none) (by decide) rfl ?_
  intro p e s m args below meth c s₁ B9 hml hv
  obtain ⟨hargs, hBs, hP, hKK⟩ := hv
  have hx := B9.exec
  have hb := B9.bytes
  have hr := B9.returns
  have hts := atoms_spec (ws := wsX4_cutTo) B9.pre
  have hown : s.vm.findClass RX4 = some m.cls := findClass_of_methodNamed B9.named
  have hlocks := B9.notSynchronized
  have hK := hKK.k
  have hS : va_S (fun q => B ≤ q) s.heap s.heap [] := va_S.rf
  obtain ⟨Q, hQ⟩ : ∃ Q, Q = MQ below (va_Qv (fun μ2 => ∃ (f9 g9 : Nat → Int64) (v9 : Nat → Int32), μ2 = mu (mu (mu μ la (.inl (G.2 0, 78, .inr (.inl f9)))) s9 (.inl (G.2 0, 13, .inr (.inl g9)))) lo (.inl (G.2 2, 78, .inl v9)) ∧ Za f9 ∧ Sn g9) (BB G B) (fun q => B ≤ q)) args s 0 0 (fun q => B ≤ q) := ⟨_, rfl⟩
  rw [← hQ]
  have ne0_1 : h ≠ bn := mp_ne hh hbn (by simp)
  have ne0_2 : h ≠ nn := mp_ne hh hnn (by simp)
  have ne0_3 : h ≠ la := mp_ne hh ha (by simp)
  have ne0_4 : h ≠ s9 := mp_ne hh hs9 (by simp)
  have ne0_5 : h ≠ lo := mp_ne hh hlo (by simp)
  have ne0_7 : h ≠ la2 := mp_ne hh ha2 (by simp)
  have ne1_2 : bn ≠ nn := mp_ne hbn hnn (by simp)
  have ne1_3 : bn ≠ la := mp_ne hbn ha (by simp)
  have ne1_4 : bn ≠ s9 := mp_ne hbn hs9 (by simp)
  have ne1_5 : bn ≠ lo := mp_ne hbn hlo (by simp)
  have ne1_6 : bn ≠ h2 := mp_ne hbn hh2 (by simp)
  have ne1_7 : bn ≠ la2 := mp_ne hbn ha2 (by simp)
  have ne2_3 : nn ≠ la := mp_ne hnn ha (by simp)
  have ne2_4 : nn ≠ s9 := mp_ne hnn hs9 (by simp)
  have ne2_5 : nn ≠ lo := mp_ne hnn hlo (by simp)
  have ne2_6 : nn ≠ h2 := mp_ne hnn hh2 (by simp)
  have ne2_7 : nn ≠ la2 := mp_ne hnn ha2 (by simp)
  have ne3_6 : la ≠ h2 := mp_ne ha hh2 (by simp)
  have ne4_6 : s9 ≠ h2 := mp_ne hs9 hh2 (by simp)
  have ne5_6 : lo ≠ h2 := mp_ne hlo hh2 (by simp)
  have ne6_7 : h2 ≠ la2 := mp_ne hh2 ha2 (by simp)
  have in_X4_cutTo_X0 : ∀ w ∈ wsX00, w ∈ wsX4_cutTo := by decide +kernel
  have in_X4_cutTo_X4 : ∀ w ∈ wsX40, w ∈ wsX4_cutTo := by decide +kernel
  have hP : mw G.1 vwCl B (mu (mu (mu μ la (.inl (G.2 0, 78, .inr (.inl f)))) s9 (.inl (G.2 0, 13, .inr (.inl g)))) lo (.inl (G.2 2, 78, .inl w9))) s.heap := mw_eq ((congrArg (fun z => mu z lo (.inl (G.2 2, 78, .inl w9))) ((congrArg (fun z => mu z s9 (.inl (G.2 0, 13, .inr (.inl g)))) (mu_i ha)).trans (mu_i hs9))).trans (mu_i hlo)).symm hP
  have L21 : ∀ (N21 : Nat) (i1 : Nat) (g1 : Nat → Int64) (w1 : Nat → Int32) (hN21 : 78 - i1 < N21) (hi : i1 ≤ 78) (hz1 : Za g1), ∀ (H : Heap) (locs : List Loc), mw G.1 vwCl B (mu (mu (mu μ la (.inl (G.2 0, 78, .inr (.inl g1)))) s9 (.inl (G.2 0, 13, .inr (.inl g)))) lo (.inl (G.2 2, 78, .inl w1))) H → va_S (fun q => B ≤ q) s.heap H locs → ∀ ls : Array Slot, lv_has ls 3 [(0, .ref h), (1, .ref h2), (2, .int (nI i1))] → W p l e rm_X4_cutTo s m args below meth c H locs 0 0 Q (F0 m 21 ls []) := by
    intro N21
    induction N21 with
    | zero => intro i1 g1 w1 hN21; exact absurd hN21 (Nat.not_lt_zero _)
    | succ N21 ih21 =>
      intro i1 g1 w1 hN21 hi hz1 H locs hP hS ls hl
      refine lv_iload_n hx hb dX4_cutTo_21 rfl (lv_at hl 2 rfl) ?_
      refine lv_bipush (v := nI 78) hx hb dX4_cutTo_22 (by decide) ?_
      refine nv_icmp_ge (tgt := 76) hx hb (by omega) (by omega) dX4_cutTo_24 (by decide) (fun hc24 => ?_) (fun hc24 => ?_)
      · refine lv_aload_n hx hb dX4_cutTo_76 rfl (lv_at hl 0 rfl) ?_
        refine kc_v (va_runV (As := []) (rest := []) ⟨hx, hb, hml, hown, hts⟩ (c_X4_close l G B (mu (mu (mu μ la (.inl (G.2 0, 78, .inr (.inl g1)))) s9 (.inl (G.2 0, 13, .inr (.inl g)))) lo (.inl (G.2 2, 78, .inl w1))) h bn nn la s9 lo nf g1 g w1  ((mu_n ne0_5).trans ((mu_n ne0_4).trans ((mu_n ne0_3).trans (hh)))) ((mu_n ne1_5).trans ((mu_n ne1_4).trans ((mu_n ne1_3).trans (hbn)))) ((mu_n ne2_5).trans ((mu_n ne2_4).trans ((mu_n ne2_3).trans (hnn)))) ((mu_n ((mp_ne ha hlo (by simp)))).trans ((mu_n ((mp_ne ha hs9 (by simp)))).trans (mu_s _ _ _))) ((mu_n ((mp_ne hs9 hlo (by simp)))).trans (mu_s _ _ _)) (mu_s _ _ _) ((Or.inl hz1 : Ok g1)) (hSn)) (cwV 0 hts gX4_cutTo_X4_close rfl rfl rfl (by decide +kernel) ⟨Nat.le_of_ble_eq_true rfl, Nat.le_of_ble_eq_true rfl⟩) ⟨KW.blind, hP.recv hK rfl ((mu_n ne0_5).trans ((mu_n ne0_4).trans ((mu_n ne0_3).trans (hh)))), fun U9 hU9 hW9 => ⟨rfl, KW.pre hBs hKK hS hP U9 hU9 hW9⟩⟩ rfl rfl hl.1 rfl (lv_room (Nat.le_of_ble_eq_true rfl)) dX4_cutTo_77 ⟨(Nat.le_of_ble_eq_true rfl), (Nat.le_of_ble_eq_true rfl)⟩) hS (fun m77 H locs hq9 hP hz9 hS => ?_)
        obtain ⟨f77, g77, rfl, hM77, hN77⟩ := hq9
        have hP : mw G.1 vwCl B (mu (mu (mu μ la (.inl (G.2 0, 78, .inr (.inl f77)))) s9 (.inl (G.2 0, 13, .inr (.inl g77)))) lo (.inl (G.2 2, 78, .inl w1))) _ := mw_eq ((congrArg (fun z => mu z s9 (.inl (G.2 0, 13, .inr (.inl g77)))) ((mu_c _ _ ((mp_ne hlo ha (by simp)))).trans (congrArg (fun z => mu z lo (.inl (G.2 2, 78, .inl w1))) ((mu_c _ _ ((mp_ne hs9 ha (by simp)))).trans (congrArg (fun z => mu z s9 (.inl (G.2 0, 13, .inr (.inl g)))) (mu_u _ _ _ _)))))).trans ((mu_c _ _ ((mp_ne hlo hs9 (by simp)))).trans (congrArg (fun z => mu z lo (.inl (G.2 2, 78, .inl w1))) (mu_u _ _ _ _)))) hP
        refine lv_aload_n hx hb dX4_cutTo_80 rfl (lv_at hl 0 rfl) ?_
        refine mw_get (C := RX4) (T := TX4) (N := 4) hx hb hts in_X4_cutTo_X4 hown hK hP ((mu_n ne0_5).trans ((mu_n ne0_4).trans ((mu_n ne0_3).trans (hh)))) rfl 3 (by decide) (hts (.fieldLink RX4 26 "OctagonDesk$Shape" "empty" "Z") (by decide +kernel)) (fun _ h9 => h9) rfl dX4_cutTo_81 ?_
        refine lv_if_eq (tgt := 91) hx hb dX4_cutTo_84 (by decide) (fun hc84 => ?_) (fun hc84 => ?_)
        · rw [hQ]
          exact W.vret hx hb hr (fun t99 ht99 hW99 => ⟨⟨mu (mu (mu μ la (.inl (G.2 0, 78, .inr (.inl f77)))) s9 (.inl (G.2 0, 13, .inr (.inl g77)))) lo (.inl (G.2 2, 78, .inl w1)), rfl, (⟨_, _, _, rfl, (hM77.za hz1).1, hN77⟩), by show mw _ _ _ _ t99.heap; rw [ht99]; exact hP⟩, hS.F ht99⟩) hS.2.2 dX4_cutTo_91
        · exact absurd rfl hc84
      · refine lv_aload_n hx hb dX4_cutTo_27 rfl (lv_at hl 0 rfl) ?_
        refine mw_get (C := RX4) (T := TX4) (N := 4) hx hb hts in_X4_cutTo_X4 hown hK hP ((mu_n ne0_5).trans ((mu_n ne0_4).trans ((mu_n ne0_3).trans (hh)))) rfl 0 (by decide) (hts (.fieldLink RX4 9 "OctagonDesk$Shape" "bench" "LOctagonDesk$Bench;") (by decide +kernel)) (fun _ h9 => h9) rfl dX4_cutTo_28 ?_
        refine mw_get (C := RX0) (T := TX0) (N := 3) hx hb hts in_X4_cutTo_X0 hown hK hP ((mu_n ne1_5).trans ((mu_n ne1_4).trans ((mu_n ne1_3).trans (hbn)))) rfl 2 (by decide) (hts (.fieldLink RX4 103 "OctagonDesk$Bench" "loose" "[Z") (by decide +kernel)) (fun _ h9 => h9) rfl dX4_cutTo_31 ?_
        refine lv_iload_n hx hb dX4_cutTo_34 rfl (lv_at hl 2 rfl) ?_
        refine lv_iconst (v := nI 1) hx hb dX4_cutTo_35 (by decide) ?_
        refine mw_zast hx hb hK hP hS 2 (mu_s _ _ _) rfl (by decide) (by omega) (by omega) dX4_cutTo_36 (fun H locs hP hS => ?_)
        have hP : mw G.1 vwCl B (mu (mu (mu μ la (.inl (G.2 0, 78, .inr (.inl g1)))) s9 (.inl (G.2 0, 13, .inr (.inl g)))) lo (.inl (G.2 2, 78, .inl (upd w1 i1 (nI 1))))) _ := mw_eq (mu_u _ _ _ _) hP
        refine lv_aload_n hx hb dX4_cutTo_37 rfl (lv_at hl 0 rfl) ?_
        refine mw_get (C := RX4) (T := TX4) (N := 4) hx hb hts in_X4_cutTo_X4 hown hK hP ((mu_n ne0_5).trans ((mu_n ne0_4).trans ((mu_n ne0_3).trans (hh)))) rfl 1 (by decide) (hts (.fieldLink RX4 21 "OctagonDesk$Shape" "numbers" "LOctagonDesk$Numbers;") (by decide +kernel)) (fun _ h9 => h9) rfl dX4_cutTo_38 ?_
        refine lv_aload_n hx hb dX4_cutTo_41 rfl (lv_at hl 1 rfl) ?_
        refine mw_get (C := RX4) (T := TX4) (N := 4) hx hb hts in_X4_cutTo_X4 hown hK hP ((mu_n ((Ne.symm ne5_6))).trans ((mu_n ((Ne.symm ne4_6))).trans ((mu_n ((Ne.symm ne3_6))).trans (hh2)))) rfl 2 (by decide) (hts (.fieldLink RX4 22 "OctagonDesk$Shape" "cells" "[J") (by decide +kernel)) (fun _ h9 => h9) rfl dX4_cutTo_42 ?_
        refine lv_iload_n hx hb dX4_cutTo_45 rfl (lv_at hl 2 rfl) ?_
        refine mw_lald hx hb hK hP 0 ((mu_n ((mp_ne ha2 hlo (by simp)))).trans ((mu_n ((mp_ne ha2 hs9 (by simp)))).trans ((mu_n ((Ne.symm hne))).trans (ha2)))) rfl (by omega) (by omega) dX4_cutTo_46 ?_
        refine lv_aload_n hx hb dX4_cutTo_47 rfl (lv_at hl 0 rfl) ?_
        refine mw_get (C := RX4) (T := TX4) (N := 4) hx hb hts in_X4_cutTo_X4 hown hK hP ((mu_n ne0_5).trans ((mu_n ne0_4).trans ((mu_n ne0_3).trans (hh)))) rfl 2 (by decide) (hts (.fieldLink RX4 22 "OctagonDesk$Shape" "cells" "[J") (by decide +kernel)) (fun _ h9 => h9) rfl dX4_cutTo_48 ?_
        refine lv_iload_n hx hb dX4_cutTo_51 rfl (lv_at hl 2 rfl) ?_
        refine mw_lald hx hb hK hP 0 ((mu_n ((mp_ne ha hlo (by simp)))).trans ((mu_n ((mp_ne ha hs9 (by simp)))).trans (mu_s _ _ _))) rfl (by omega) (by omega) dX4_cutTo_52 ?_
        refine kc_i (va_runV (As := [.long (f2 i1), .long (g1 i1)]) (rest := []) ⟨hx, hb, hml, hown, hts⟩ (c_X3_isLess l G B (mu (mu (mu μ la (.inl (G.2 0, 78, .inr (.inl g1)))) s9 (.inl (G.2 0, 13, .inr (.inl g)))) lo (.inl (G.2 2, 78, .inl (upd w1 i1 (nI 1))))) nn nf (f2 i1) (g1 i1) ((mu_n ne2_5).trans ((mu_n ne2_4).trans ((mu_n ne2_3).trans (hnn)))) (Pn.of (hZ2 _ (by omega))) (Pn.ng (Pn.of (hz1 _ (by omega))))) (cwV 2 hts gX4_cutTo_X3_isLess rfl rfl rfl (by decide +kernel) ⟨Nat.le_of_ble_eq_true rfl, Nat.le_of_ble_eq_true rfl⟩) ⟨KW.blind, hP.recv hK rfl ((mu_n ne2_5).trans ((mu_n ne2_4).trans ((mu_n ne2_3).trans (hnn)))), fun U9 hU9 hW9 => ⟨rfl, KW.pre hBs hKK hS hP U9 hU9 hW9⟩⟩ rfl rfl hl.1 rfl (lv_room (Nat.le_of_ble_eq_true rfl)) dX4_cutTo_53 ⟨(Nat.le_of_ble_eq_true rfl), (Nat.le_of_ble_eq_true rfl)⟩) hS (fun r53 m53 H locs hq9 hP hz9 hS => ?_)
        obtain ⟨he9, hr53⟩ := hq9
        rw [he9] at hP
        refine lv_if_eq (tgt := 70) hx hb dX4_cutTo_56 (by decide) (fun hc56 => ?_) (fun hc56 => ?_)
        · refine lv_iinc (v := nI (i1 + 1)) (lv' := [(2, .int (nI (i1 + 1))), (0, .ref h), (1, .ref h2)]) hx hb dX4_cutTo_70 hl (k := 2) rfl (nI_add _ _) (by decide) rfl (fun ls hl => ?_)
          refine lv_goto (tgt := 21) hx hb dX4_cutTo_73 (by decide) ?_
          exact ih21 (i1 + 1) g1 (upd w1 i1 (nI 1)) (by omega) (by omega) (hz1) _ _ hP hS ls (lv_sub hl [1, 2, 0] rfl)
        · refine lv_aload_n hx hb dX4_cutTo_59 rfl (lv_at hl 0 rfl) ?_
          refine lv_iload_n hx hb dX4_cutTo_60 rfl (lv_at hl 2 rfl) ?_
          refine lv_aload_n hx hb dX4_cutTo_61 rfl (lv_at hl 1 rfl) ?_
          refine mw_get (C := RX4) (T := TX4) (N := 4) hx hb hts in_X4_cutTo_X4 hown hK hP ((mu_n ((Ne.symm ne5_6))).trans ((mu_n ((Ne.symm ne4_6))).trans ((mu_n ((Ne.symm ne3_6))).trans (hh2)))) rfl 2 (by decide) (hts (.fieldLink RX4 22 "OctagonDesk$Shape" "cells" "[J") (by decide +kernel)) (fun _ h9 => h9) rfl dX4_cutTo_62 ?_
          refine lv_iload_n hx hb dX4_cutTo_65 rfl (lv_at hl 2 rfl) ?_
          refine mw_lald hx hb hK hP 0 ((mu_n ((mp_ne ha2 hlo (by simp)))).trans ((mu_n ((mp_ne ha2 hs9 (by simp)))).trans ((mu_n ((Ne.symm hne))).trans (ha2)))) rfl (by omega) (by omega) dX4_cutTo_66 ?_
          refine kc_v (va_runV (As := [.int (nI i1), .long (f2 i1)]) (rest := []) ⟨hx, hb, hml, hown, hts⟩ (c_X4_put l G B (mu (mu (mu μ la (.inl (G.2 0, 78, .inr (.inl g1)))) s9 (.inl (G.2 0, 13, .inr (.inl g)))) lo (.inl (G.2 2, 78, .inl (upd w1 i1 (nI 1))))) h bn nn la s9 lo 0 nf g1 g (upd w1 i1 (nI 1)) i1 (f2 i1) ((mu_n ne0_5).trans ((mu_n ne0_4).trans ((mu_n ne0_3).trans (hh)))) ((mu_n ne1_5).trans ((mu_n ne1_4).trans ((mu_n ne1_3).trans (hbn)))) ((mu_n ne2_5).trans ((mu_n ne2_4).trans ((mu_n ne2_3).trans (hnn)))) ((mu_n ((mp_ne ha hlo (by simp)))).trans ((mu_n ((mp_ne ha hs9 (by simp)))).trans (mu_s _ _ _))) ((mu_n ((mp_ne hs9 hlo (by simp)))).trans (mu_s _ _ _)) (mu_s _ _ _) (by omega) (Pn.ng (Pn.of (hz1 _ (by omega)))) (Pn.ng (Pn.of (hZ2 _ (by omega))))) (cwV 2 hts gX4_cutTo_X4_put rfl rfl rfl (by decide +kernel) ⟨Nat.le_of_ble_eq_true rfl, Nat.le_of_ble_eq_true rfl⟩) ⟨KW.blind, hP.recv hK rfl ((mu_n ne0_5).trans ((mu_n ne0_4).trans ((mu_n ne0_3).trans (hh)))), fun U9 hU9 hW9 => ⟨rfl, KW.pre hBs hKK hS hP U9 hU9 hW9⟩⟩ rfl rfl hl.1 rfl (lv_room (Nat.le_of_ble_eq_true rfl)) dX4_cutTo_67 ⟨(Nat.le_of_ble_eq_true rfl), (Nat.le_of_ble_eq_true rfl)⟩) hS (fun m67 H locs hq9 hP hz9 hS => ?_)
          rw [hq9] at hP
          have hP : mw G.1 vwCl B (mu (mu (mu μ la (.inl (G.2 0, 78, .inr (.inl (vp_updL g1 i1 (f2 i1)))))) s9 (.inl (G.2 0, 13, .inr (.inl g)))) lo (.inl (G.2 2, 78, .inl (upd w1 i1 (nI 1))))) _ := mw_eq ((mu_c _ _ ((mp_ne hlo ha (by simp)))).trans (congrArg (fun z => mu z lo (.inl (G.2 2, 78, .inl (upd w1 i1 (nI 1))))) ((mu_c _ _ ((mp_ne hs9 ha (by simp)))).trans (congrArg (fun z => mu z s9 (.inl (G.2 0, 13, .inr (.inl g)))) (mu_u _ _ _ _))))) hP
          refine lv_iinc (v := nI (i1 + 1)) (lv' := [(2, .int (nI (i1 + 1))), (0, .ref h), (1, .ref h2)]) hx hb dX4_cutTo_70 hl (k := 2) rfl (nI_add _ _) (by decide) rfl (fun ls hl => ?_)
          refine lv_goto (tgt := 21) hx hb dX4_cutTo_73 (by decide) ?_
          exact ih21 (i1 + 1) (vp_updL g1 i1 (f2 i1)) (upd w1 i1 (nI 1)) (by omega) (by omega) (hz1.upd (by first | exact Or.inl rfl | exact hZ2 _ (by omega))) _ _ hP hS ls (lv_sub hl [1, 2, 0] rfl)
  have hl := lv_entry ([.ref h, .ref h2]) (n := 3) (Nat.le_of_ble_eq_true rfl)
  have he9 : entryFrame m args 3 = entryFrame m ([.ref h, .ref h2] : List Value).toArray 3 := by rw [hargs]
  rw [he9, lg_entry_eq]
  generalize (lg_sl ([.ref h, .ref h2]) ++ List.replicate (3 - (lg_sl ([.ref h, .ref h2])).length) Slot.unset).toArray = ls at hl ⊢
  have hl : lv_has ls 3 [(0, .ref h), (1, .ref h2)] := hl
  refine lv_aload_n hx hb dX4_cutTo_0 rfl (lv_at hl 0 rfl) ?_
  refine mw_get (C := RX4) (T := TX4) (N := 4) hx hb hts in_X4_cutTo_X4 hown hK hP ((mu_n ne0_5).trans ((mu_n ne0_4).trans ((mu_n ne0_3).trans (hh)))) rfl 3 (by decide) (hts (.fieldLink RX4 26 "OctagonDesk$Shape" "empty" "Z") (by decide +kernel)) (fun _ h9 => h9) rfl dX4_cutTo_1 ?_
  refine lv_if_ne (tgt := 14) hx hb dX4_cutTo_4 (by decide) (fun hc4 => ?_) (fun hc4 => ?_)
  · exact absurd rfl hc4
  · refine lv_aload_n hx hb dX4_cutTo_7 rfl (lv_at hl 1 rfl) ?_
    refine mw_get (C := RX4) (T := TX4) (N := 4) hx hb hts in_X4_cutTo_X4 hown hK hP ((mu_n ((Ne.symm ne5_6))).trans ((mu_n ((Ne.symm ne4_6))).trans ((mu_n ((Ne.symm ne3_6))).trans (hh2)))) rfl 3 (by decide) (hts (.fieldLink RX4 26 "OctagonDesk$Shape" "empty" "Z") (by decide +kernel)) (fun _ h9 => h9) rfl dX4_cutTo_8 ?_
    refine lv_if_eq (tgt := 19) hx hb dX4_cutTo_11 (by decide) (fun hc11 => ?_) (fun hc11 => ?_)
    · refine lv_iconst (v := nI 0) hx hb dX4_cutTo_19 (by decide) ?_
      refine lv_istore_n (lv' := [(2, .int (nI 0)), (0, .ref h), (1, .ref h2)]) hx hb dX4_cutTo_20 rfl hl (by decide) rfl (fun ls hl => ?_)
      exact L21 _ 0 f w9 (Nat.lt_succ_self _) (by omega) (hZ) _ _ hP hS ls (lv_sub hl [1, 2, 0] rfl)
    · exact absurd rfl hc11

abbrev rm_X4_stretchOver : Room := { frames := 3, cells := 0, slots := 0, locals := 69 }
set_option maxHeartbeats 4000000 in
set_option maxRecDepth 100000 in
theorem c_X4_stretchOver (l : Launch) (G : GG) (B : Nat) (μ : mp) (h bn nn la s9 lo : Nat) (nf : List Value) (f g : Nat → Int64) (w9 : Nat → Int32) (h2 la2 : Nat) (f2 : Nat → Int64) (hh : μ h = some (.inr (4, [.ref bn, .ref nn, .ref la, .int (nI 0)]))) (hbn : μ bn = some (.inr (0, [.ref nn, .ref s9, .ref lo]))) (hnn : μ nn = some (.inr (3, nf))) (ha : μ la = some (.inl (G.2 0, 78, .inr (.inl f)))) (hs9 : μ s9 = some (.inl (G.2 0, 13, .inr (.inl g)))) (hlo : μ lo = some (.inl (G.2 2, 78, .inl w9))) (hh2 : μ h2 = some (.inr (4, [.ref bn, .ref nn, .ref la2, .int (nI 0)]))) (ha2 : μ la2 = some (.inl (G.2 0, 78, .inr (.inl f2)))) (hne : la ≠ la2) (hne0 : h ≠ h2) (hZ : Za f) (hZ2 : Za f2) (hSn : Sn g) : Met l yX4_stretchOver wsX4_stretchOver rm_X4_stretchOver (va_Pc [.ref h, .ref h2] (KW G B μ)) (va_Qv (fun μ2 => ∃ (f9 g9 : Nat → Int64) (v9 : Nat → Int32), μ2 = mu (mu (mu μ la (.inl (G.2 0, 78, .inr (.inl f9)))) s9 (.inl (G.2 0, 13, .inr (.inl g9)))) lo (.inl (G.2 2, 78, .inl v9)) ∧ Za f9 ∧ Sn g9) (BB G B) (fun q => B ≤ q)) 0 0 (fun q => B ≤ q) := by
  refine Met.ofW (cc := cX4_stretchOver) (maxL := 3) (ret := none) (by decide) rfl ?_
  intro p e s m args below meth c s₁ B9 hml hv
  obtain ⟨hargs, hBs, hP, hKK⟩ := hv
  have hx := B9.exec
  have hb := B9.bytes
  have hr := B9.returns
  have hts := atoms_spec (ws := wsX4_stretchOver) B9.pre
  have hown : s.vm.findClass RX4 = some m.cls := findClass_of_methodNamed B9.named
  have hlocks := B9.notSynchronized
  have hK := hKK.k
  have hS : va_S (fun q => B ≤ q) s.heap s.heap [] := va_S.rf
  obtain ⟨Q, hQ⟩ : ∃ Q, Q = MQ below (va_Qv (fun μ2 => ∃ (f9 g9 : Nat → Int64) (v9 : Nat → Int32), μ2 = mu (mu (mu μ la (.inl (G.2 0, 78, .inr (.inl f9)))) s9 (.inl (G.2 0, 13, .inr (.inl g9)))) lo (.inl (G.2 2, 78, .inl v9)) ∧ Za f9 ∧ Sn g9) (BB G B) (fun q => B ≤ q)) args s 0 0 (fun q => B ≤ q) := ⟨_, rfl⟩
  rw [← hQ]
  have ne0_1 : h ≠ bn := mp_ne hh hbn (by simp)
  have ne0_2 : h ≠ nn := mp_ne hh hnn (by simp)
  have ne0_3 : h ≠ la := mp_ne hh ha (by simp)
  have ne0_4 : h ≠ s9 := mp_ne hh hs9 (by simp)
  have ne0_5 : h ≠ lo := mp_ne hh hlo (by simp)
  have ne0_7 : h ≠ la2 := mp_ne hh ha2 (by simp)
  have ne1_2 : bn ≠ nn := mp_ne hbn hnn (by simp)
  have ne1_3 : bn ≠ la := mp_ne hbn ha (by simp)
  have ne1_4 : bn ≠ s9 := mp_ne hbn hs9 (by simp)
  have ne1_5 : bn ≠ lo := mp_ne hbn hlo (by simp)
  have ne1_6 : bn ≠ h2 := mp_ne hbn hh2 (by simp)
  have ne1_7 : bn ≠ la2 := mp_ne hbn ha2 (by simp)
  have ne2_3 : nn ≠ la := mp_ne hnn ha (by simp)
  have ne2_4 : nn ≠ s9 := mp_ne hnn hs9 (by simp)
  have ne2_5 : nn ≠ lo := mp_ne hnn hlo (by simp)
  have ne2_6 : nn ≠ h2 := mp_ne hnn hh2 (by simp)
  have ne2_7 : nn ≠ la2 := mp_ne hnn ha2 (by simp)
  have ne3_6 : la ≠ h2 := mp_ne ha hh2 (by simp)
  have ne4_6 : s9 ≠ h2 := mp_ne hs9 hh2 (by simp)
  have ne5_6 : lo ≠ h2 := mp_ne hlo hh2 (by simp)
  have ne6_7 : h2 ≠ la2 := mp_ne hh2 ha2 (by simp)
  have in_X4_stretchOver_X4 : ∀ w ∈ wsX40, w ∈ wsX4_stretchOver := by decide +kernel
  have hP : mw G.1 vwCl B (mu (mu (mu μ la (.inl (G.2 0, 78, .inr (.inl f)))) s9 (.inl (G.2 0, 13, .inr (.inl g)))) lo (.inl (G.2 2, 78, .inl w9))) s.heap := mw_eq ((congrArg (fun z => mu z lo (.inl (G.2 2, 78, .inl w9))) ((congrArg (fun z => mu z s9 (.inl (G.2 0, 13, .inr (.inl g)))) (mu_i ha)).trans (mu_i hs9))).trans (mu_i hlo)).symm hP
  have L11 : ∀ (N11 : Nat) (i1 : Nat) (g1 : Nat → Int64) (hN11 : 78 - i1 < N11) (hi : i1 ≤ 78) (hz1 : Za g1), ∀ (H : Heap) (locs : List Loc), mw G.1 vwCl B (mu (mu (mu μ la (.inl (G.2 0, 78, .inr (.inl g1)))) s9 (.inl (G.2 0, 13, .inr (.inl g)))) lo (.inl (G.2 2, 78, .inl w9))) H → va_S (fun q => B ≤ q) s.heap H locs → ∀ ls : Array Slot, lv_has ls 3 [(0, .ref h), (1, .ref h2), (2, .int (nI i1))] → W p l e rm_X4_stretchOver s m args below meth c H locs 0 0 Q (F0 m 11 ls []) := by
    intro N11
    induction N11 with
    | zero => intro i1 g1 hN11; exact absurd hN11 (Nat.not_lt_zero _)
    | succ N11 ih11 =>
      intro i1 g1 hN11 hi hz1 H locs hP hS ls hl
      refine lv_iload_n hx hb dX4_stretchOver_11 rfl (lv_at hl 2 rfl) ?_
      refine lv_bipush (v := nI 78) hx hb dX4_stretchOver_12 (by decide) ?_
      refine nv_icmp_ge (tgt := 56) hx hb (by omega) (by omega) dX4_stretchOver_14 (by decide) (fun hc14 => ?_) (fun hc14 => ?_)
      · rw [hQ]
        exact W.vret hx hb hr (fun t99 ht99 hW99 => ⟨⟨mu (mu (mu μ la (.inl (G.2 0, 78, .inr (.inl g1)))) s9 (.inl (G.2 0, 13, .inr (.inl g)))) lo (.inl (G.2 2, 78, .inl w9)), rfl, (⟨_, _, _, rfl, hz1, hSn⟩), by show mw _ _ _ _ t99.heap; rw [ht99]; exact hP⟩, hS.F ht99⟩) hS.2.2 dX4_stretchOver_56
      · refine lv_aload_n hx hb dX4_stretchOver_17 rfl (lv_at hl 0 rfl) ?_
        refine mw_get (C := RX4) (T := TX4) (N := 4) hx hb hts in_X4_stretchOver_X4 hown hK hP ((mu_n ne0_5).trans ((mu_n ne0_4).trans ((mu_n ne0_3).trans (hh)))) rfl 1 (by decide) (hts (.fieldLink RX4 21 "OctagonDesk$Shape" "numbers" "LOctagonDesk$Numbers;") (by decide +kernel)) (fun _ h9 => h9) rfl dX4_stretchOver_18 ?_
        refine lv_aload_n hx hb dX4_stretchOver_21 rfl (lv_at hl 0 rfl) ?_
        refine mw_get (C := RX4) (T := TX4) (N := 4) hx hb hts in_X4_stretchOver_X4 hown hK hP ((mu_n ne0_5).trans ((mu_n ne0_4).trans ((mu_n ne0_3).trans (hh)))) rfl 2 (by decide) (hts (.fieldLink RX4 22 "OctagonDesk$Shape" "cells" "[J") (by decide +kernel)) (fun _ h9 => h9) rfl dX4_stretchOver_22 ?_
        refine lv_iload_n hx hb dX4_stretchOver_25 rfl (lv_at hl 2 rfl) ?_
        refine mw_lald hx hb hK hP 0 ((mu_n ((mp_ne ha hlo (by simp)))).trans ((mu_n ((mp_ne ha hs9 (by simp)))).trans (mu_s _ _ _))) rfl (by omega) (by omega) dX4_stretchOver_26 ?_
        refine lv_aload_n hx hb dX4_stretchOver_27 rfl (lv_at hl 1 rfl) ?_
        refine mw_get (C := RX4) (T := TX4) (N := 4) hx hb hts in_X4_stretchOver_X4 hown hK hP ((mu_n ((Ne.symm ne5_6))).trans ((mu_n ((Ne.symm ne4_6))).trans ((mu_n ((Ne.symm ne3_6))).trans (hh2)))) rfl 2 (by decide) (hts (.fieldLink RX4 22 "OctagonDesk$Shape" "cells" "[J") (by decide +kernel)) (fun _ h9 => h9) rfl dX4_stretchOver_28 ?_
        refine lv_iload_n hx hb dX4_stretchOver_31 rfl (lv_at hl 2 rfl) ?_
        refine mw_lald hx hb hK hP 0 ((mu_n ((mp_ne ha2 hlo (by simp)))).trans ((mu_n ((mp_ne ha2 hs9 (by simp)))).trans ((mu_n ((Ne.symm hne))).trans (ha2)))) rfl (by omega) (by omega) dX4_stretchOver_32 ?_
        refine kc_i (va_runV (As := [.long (g1 i1), .long (f2 i1)]) (rest := []) ⟨hx, hb, hml, hown, hts⟩ (c_X3_isLess l G B (mu (mu (mu μ la (.inl (G.2 0, 78, .inr (.inl g1)))) s9 (.inl (G.2 0, 13, .inr (.inl g)))) lo (.inl (G.2 2, 78, .inl w9))) nn nf (g1 i1) (f2 i1) ((mu_n ne2_5).trans ((mu_n ne2_4).trans ((mu_n ne2_3).trans (hnn)))) (Pn.of (hz1 _ (by omega))) (Pn.ng (Pn.of (hZ2 _ (by omega))))) (cwV 2 hts gX4_stretchOver_X3_isLess rfl rfl rfl (by decide +kernel) ⟨Nat.le_of_ble_eq_true rfl, Nat.le_of_ble_eq_true rfl⟩) ⟨KW.blind, hP.recv hK rfl ((mu_n ne2_5).trans ((mu_n ne2_4).trans ((mu_n ne2_3).trans (hnn)))), fun U9 hU9 hW9 => ⟨rfl, KW.pre hBs hKK hS hP U9 hU9 hW9⟩⟩ rfl rfl hl.1 rfl (lv_room (Nat.le_of_ble_eq_true rfl)) dX4_stretchOver_33 ⟨(Nat.le_of_ble_eq_true rfl), (Nat.le_of_ble_eq_true rfl)⟩) hS (fun r33 m33 H locs hq9 hP hz9 hS => ?_)
        obtain ⟨he9, hr33⟩ := hq9
        rw [he9] at hP
        refine lv_if_eq (tgt := 50) hx hb dX4_stretchOver_36 (by decide) (fun hc36 => ?_) (fun hc36 => ?_)
        · refine lv_iinc (v := nI (i1 + 1)) (lv' := [(2, .int (nI (i1 + 1))), (0, .ref h), (1, .ref h2)]) hx hb dX4_stretchOver_50 hl (k := 2) rfl (nI_add _ _) (by decide) rfl (fun ls hl => ?_)
          refine lv_goto (tgt := 11) hx hb dX4_stretchOver_53 (by decide) ?_
          exact ih11 (i1 + 1) g1 (by omega) (by omega) (hz1) _ _ hP hS ls (lv_sub hl [1, 2, 0] rfl)
        · refine lv_aload_n hx hb dX4_stretchOver_39 rfl (lv_at hl 0 rfl) ?_
          refine lv_iload_n hx hb dX4_stretchOver_40 rfl (lv_at hl 2 rfl) ?_
          refine lv_aload_n hx hb dX4_stretchOver_41 rfl (lv_at hl 1 rfl) ?_
          refine mw_get (C := RX4) (T := TX4) (N := 4) hx hb hts in_X4_stretchOver_X4 hown hK hP ((mu_n ((Ne.symm ne5_6))).trans ((mu_n ((Ne.symm ne4_6))).trans ((mu_n ((Ne.symm ne3_6))).trans (hh2)))) rfl 2 (by decide) (hts (.fieldLink RX4 22 "OctagonDesk$Shape" "cells" "[J") (by decide +kernel)) (fun _ h9 => h9) rfl dX4_stretchOver_42 ?_
          refine lv_iload_n hx hb dX4_stretchOver_45 rfl (lv_at hl 2 rfl) ?_
          refine mw_lald hx hb hK hP 0 ((mu_n ((mp_ne ha2 hlo (by simp)))).trans ((mu_n ((mp_ne ha2 hs9 (by simp)))).trans ((mu_n ((Ne.symm hne))).trans (ha2)))) rfl (by omega) (by omega) dX4_stretchOver_46 ?_
          refine kc_v (va_runV (As := [.int (nI i1), .long (f2 i1)]) (rest := []) ⟨hx, hb, hml, hown, hts⟩ (c_X4_put l G B (mu (mu (mu μ la (.inl (G.2 0, 78, .inr (.inl g1)))) s9 (.inl (G.2 0, 13, .inr (.inl g)))) lo (.inl (G.2 2, 78, .inl w9))) h bn nn la s9 lo 0 nf g1 g w9 i1 (f2 i1) ((mu_n ne0_5).trans ((mu_n ne0_4).trans ((mu_n ne0_3).trans (hh)))) ((mu_n ne1_5).trans ((mu_n ne1_4).trans ((mu_n ne1_3).trans (hbn)))) ((mu_n ne2_5).trans ((mu_n ne2_4).trans ((mu_n ne2_3).trans (hnn)))) ((mu_n ((mp_ne ha hlo (by simp)))).trans ((mu_n ((mp_ne ha hs9 (by simp)))).trans (mu_s _ _ _))) ((mu_n ((mp_ne hs9 hlo (by simp)))).trans (mu_s _ _ _)) (mu_s _ _ _) (by omega) (Pn.ng (Pn.of (hz1 _ (by omega)))) (Pn.ng (Pn.of (hZ2 _ (by omega))))) (cwV 2 hts gX4_stretchOver_X4_put rfl rfl rfl (by decide +kernel) ⟨Nat.le_of_ble_eq_true rfl, Nat.le_of_ble_eq_true rfl⟩) ⟨KW.blind, hP.recv hK rfl ((mu_n ne0_5).trans ((mu_n ne0_4).trans ((mu_n ne0_3).trans (hh)))), fun U9 hU9 hW9 => ⟨rfl, KW.pre hBs hKK hS hP U9 hU9 hW9⟩⟩ rfl rfl hl.1 rfl (lv_room (Nat.le_of_ble_eq_true rfl)) dX4_stretchOver_47 ⟨(Nat.le_of_ble_eq_true rfl), (Nat.le_of_ble_eq_true rfl)⟩) hS (fun m47 H locs hq9 hP hz9 hS => ?_)
          rw [hq9] at hP
          have hP : mw G.1 vwCl B (mu (mu (mu μ la (.inl (G.2 0, 78, .inr (.inl (vp_updL g1 i1 (f2 i1)))))) s9 (.inl (G.2 0, 13, .inr (.inl g)))) lo (.inl (G.2 2, 78, .inl w9))) _ := mw_eq ((mu_c _ _ ((mp_ne hlo ha (by simp)))).trans (congrArg (fun z => mu z lo (.inl (G.2 2, 78, .inl w9))) ((mu_c _ _ ((mp_ne hs9 ha (by simp)))).trans (congrArg (fun z => mu z s9 (.inl (G.2 0, 13, .inr (.inl g)))) (mu_u _ _ _ _))))) hP
          refine lv_iinc (v := nI (i1 + 1)) (lv' := [(2, .int (nI (i1 + 1))), (0, .ref h), (1, .ref h2)]) hx hb dX4_stretchOver_50 hl (k := 2) rfl (nI_add _ _) (by decide) rfl (fun ls hl => ?_)
          refine lv_goto (tgt := 11) hx hb dX4_stretchOver_53 (by decide) ?_
          exact ih11 (i1 + 1) (vp_updL g1 i1 (f2 i1)) (by omega) (by omega) (hz1.upd (by first | exact Or.inl rfl | exact hZ2 _ (by omega))) _ _ hP hS ls (lv_sub hl [1, 2, 0] rfl)
  have hl := lv_entry ([.ref h, .ref h2]) (n := 3) (Nat.le_of_ble_eq_true rfl)
  have he9 : entryFrame m args 3 = entryFrame m ([.ref h, .ref h2] : List Value).toArray 3 := by rw [hargs]
  rw [he9, lg_entry_eq]
  generalize (lg_sl ([.ref h, .ref h2]) ++ List.replicate (3 - (lg_sl ([.ref h, .ref h2])).length) Slot.unset).toArray = ls at hl ⊢
  have hl : lv_has ls 3 [(0, .ref h), (1, .ref h2)] := hl
  refine lv_aload_n hx hb dX4_stretchOver_0 rfl (lv_at hl 0 rfl) ?_
  refine lv_aload_n hx hb dX4_stretchOver_1 rfl (lv_at hl 1 rfl) ?_
  refine kc_i (va_runV (As := [.ref h2]) (rest := []) ⟨hx, hb, hml, hown, hts⟩ (c_X4_isSettledByEmptiness l G B (mu (mu (mu μ la (.inl (G.2 0, 78, .inr (.inl f)))) s9 (.inl (G.2 0, 13, .inr (.inl g)))) lo (.inl (G.2 2, 78, .inl w9))) h bn nn la s9 lo nf f g w9 h2 la2 f2  ((mu_n ne0_5).trans ((mu_n ne0_4).trans ((mu_n ne0_3).trans (hh)))) ((mu_n ne1_5).trans ((mu_n ne1_4).trans ((mu_n ne1_3).trans (hbn)))) ((mu_n ne2_5).trans ((mu_n ne2_4).trans ((mu_n ne2_3).trans (hnn)))) ((mu_n ((mp_ne ha hlo (by simp)))).trans ((mu_n ((mp_ne ha hs9 (by simp)))).trans (mu_s _ _ _))) ((mu_n ((mp_ne hs9 hlo (by simp)))).trans (mu_s _ _ _)) (mu_s _ _ _) ((mu_n ((Ne.symm ne5_6))).trans ((mu_n ((Ne.symm ne4_6))).trans ((mu_n ((Ne.symm ne3_6))).trans (hh2)))) ((mu_n ((mp_ne ha2 hlo (by simp)))).trans ((mu_n ((mp_ne ha2 hs9 (by simp)))).trans ((mu_n ((Ne.symm hne))).trans (ha2)))) ) (cwV 1 hts gX4_stretchOver_X4_isSettledByEmptiness rfl rfl rfl (by decide +kernel) ⟨Nat.le_of_ble_eq_true rfl, Nat.le_of_ble_eq_true rfl⟩) ⟨KW.blind, hP.recv hK rfl ((mu_n ne0_5).trans ((mu_n ne0_4).trans ((mu_n ne0_3).trans (hh)))), fun U9 hU9 hW9 => ⟨rfl, KW.pre hBs hKK hS hP U9 hU9 hW9⟩⟩ rfl rfl hl.1 rfl (lv_room (Nat.le_of_ble_eq_true rfl)) dX4_stretchOver_2 ⟨(Nat.le_of_ble_eq_true rfl), (Nat.le_of_ble_eq_true rfl)⟩) hS (fun r2 m2 H locs hq9 hP hz9 hS => ?_)
  obtain ⟨he9, hr2⟩ := hq9
  rw [he9] at hP
  obtain rfl : r2 = nI 0 := hr2
  refine lv_if_eq (tgt := 9) hx hb dX4_stretchOver_5 (by decide) (fun hc5 => ?_) (fun hc5 => ?_)
  · refine lv_iconst (v := nI 0) hx hb dX4_stretchOver_9 (by decide) ?_
    refine lv_istore_n (lv' := [(2, .int (nI 0)), (0, .ref h), (1, .ref h2)]) hx hb dX4_stretchOver_10 rfl hl (by decide) rfl (fun ls hl => ?_)
    exact L11 _ 0 f (Nat.lt_succ_self _) (by omega) (hZ) _ _ hP hS ls (lv_sub hl [1, 2, 0] rfl)
  · exact absurd rfl hc5

abbrev rm_X4_loosenBy : Room := { frames := 5, cells := 0, slots := 0, locals := 119 }
set_option maxHeartbeats 4000000 in
set_option maxRecDepth 100000 in
theorem c_X4_loosenBy (l : Launch) (G : GG) (B : Nat) (μ : mp) (h bn nn la s9 lo : Nat) (nf : List Value) (f g : Nat → Int64) (w9 : Nat → Int32) (h2 la2 : Nat) (f2 : Nat → Int64) (hh : μ h = some (.inr (4, [.ref bn, .ref nn, .ref la, .int (nI 0)]))) (hbn : μ bn = some (.inr (0, [.ref nn, .ref s9, .ref lo]))) (hnn : μ nn = some (.inr (3, nf))) (ha : μ la = some (.inl (G.2 0, 78, .inr (.inl f)))) (hs9 : μ s9 = some (.inl (G.2 0, 13, .inr (.inl g)))) (hlo : μ lo = some (.inl (G.2 2, 78, .inl w9))) (hh2 : μ h2 = some (.inr (4, [.ref bn, .ref nn, .ref la2, .int (nI 0)]))) (ha2 : μ la2 = some (.inl (G.2 0, 78, .inr (.inl f2)))) (hne : la ≠ la2) (hne0 : h ≠ h2) (hZ : Za f) (hZ2 : Za f2) (hSn : Sn g) : Met l yX4_loosenBy wsX4_loosenBy rm_X4_loosenBy (va_Pc [.ref h, .ref h2] (KW G B μ)) (va_Qv (fun μ2 => ∃ (f9 g9 : Nat → Int64) (v9 : Nat → Int32), μ2 = mu (mu (mu μ la (.inl (G.2 0, 78, .inr (.inl f9)))) s9 (.inl (G.2 0, 13, .inr (.inl g9)))) lo (.inl (G.2 2, 78, .inl v9)) ∧ Za f9 ∧ Sn g9) (BB G B) (fun q => B ≤ q)) 0 0 (fun q => B ≤ q) := by
  refine Met.ofW (cc := cX4_loosenBy) (maxL := 3) (ret := none) (by decide) rfl ?_
  intro p e s m args below meth c s₁ B9 hml hv
  obtain ⟨hargs, hBs, hP, hKK⟩ := hv
  have hx := B9.exec
  have hb := B9.bytes
  have hr := B9.returns
  have hts := atoms_spec (ws := wsX4_loosenBy) B9.pre
  have hown : s.vm.findClass RX4 = some m.cls := findClass_of_methodNamed B9.named
  have hlocks := B9.notSynchronized
  have hK := hKK.k
  have hS : va_S (fun q => B ≤ q) s.heap s.heap [] := va_S.rf
  obtain ⟨Q, hQ⟩ : ∃ Q, Q = MQ below (va_Qv (fun μ2 => ∃ (f9 g9 : Nat → Int64) (v9 : Nat → Int32), μ2 = mu (mu (mu μ la (.inl (G.2 0, 78, .inr (.inl f9)))) s9 (.inl (G.2 0, 13, .inr (.inl g9)))) lo (.inl (G.2 2, 78, .inl v9)) ∧ Za f9 ∧ Sn g9) (BB G B) (fun q => B ≤ q)) args s 0 0 (fun q => B ≤ q) := ⟨_, rfl⟩
  rw [← hQ]
  have ne0_1 : h ≠ bn := mp_ne hh hbn (by simp)
  have ne0_2 : h ≠ nn := mp_ne hh hnn (by simp)
  have ne0_3 : h ≠ la := mp_ne hh ha (by simp)
  have ne0_4 : h ≠ s9 := mp_ne hh hs9 (by simp)
  have ne0_5 : h ≠ lo := mp_ne hh hlo (by simp)
  have ne0_7 : h ≠ la2 := mp_ne hh ha2 (by simp)
  have ne1_2 : bn ≠ nn := mp_ne hbn hnn (by simp)
  have ne1_3 : bn ≠ la := mp_ne hbn ha (by simp)
  have ne1_4 : bn ≠ s9 := mp_ne hbn hs9 (by simp)
  have ne1_5 : bn ≠ lo := mp_ne hbn hlo (by simp)
  have ne1_6 : bn ≠ h2 := mp_ne hbn hh2 (by simp)
  have ne1_7 : bn ≠ la2 := mp_ne hbn ha2 (by simp)
  have ne2_3 : nn ≠ la := mp_ne hnn ha (by simp)
  have ne2_4 : nn ≠ s9 := mp_ne hnn hs9 (by simp)
  have ne2_5 : nn ≠ lo := mp_ne hnn hlo (by simp)
  have ne2_6 : nn ≠ h2 := mp_ne hnn hh2 (by simp)
  have ne2_7 : nn ≠ la2 := mp_ne hnn ha2 (by simp)
  have ne3_6 : la ≠ h2 := mp_ne ha hh2 (by simp)
  have ne4_6 : s9 ≠ h2 := mp_ne hs9 hh2 (by simp)
  have ne5_6 : lo ≠ h2 := mp_ne hlo hh2 (by simp)
  have ne6_7 : h2 ≠ la2 := mp_ne hh2 ha2 (by simp)
  have in_X4_loosenBy_X0 : ∀ w ∈ wsX00, w ∈ wsX4_loosenBy := by decide +kernel
  have in_X4_loosenBy_X4 : ∀ w ∈ wsX40, w ∈ wsX4_loosenBy := by decide +kernel
  have hP : mw G.1 vwCl B (mu (mu (mu μ la (.inl (G.2 0, 78, .inr (.inl f)))) s9 (.inl (G.2 0, 13, .inr (.inl g)))) lo (.inl (G.2 2, 78, .inl w9))) s.heap := mw_eq ((congrArg (fun z => mu z lo (.inl (G.2 2, 78, .inl w9))) ((congrArg (fun z => mu z s9 (.inl (G.2 0, 13, .inr (.inl g)))) (mu_i ha)).trans (mu_i hs9))).trans (mu_i hlo)).symm hP
  have L11 : ∀ (N11 : Nat) (i1 : Nat) (g1 : Nat → Int64) (w1 : Nat → Int32) (hN11 : 78 - i1 < N11) (hi : i1 ≤ 78) (hz1 : Za g1), ∀ (H : Heap) (locs : List Loc), mw G.1 vwCl B (mu (mu (mu μ la (.inl (G.2 0, 78, .inr (.inl g1)))) s9 (.inl (G.2 0, 13, .inr (.inl g)))) lo (.inl (G.2 2, 78, .inl w1))) H → va_S (fun q => B ≤ q) s.heap H locs → ∀ ls : Array Slot, lv_has ls 3 [(0, .ref h), (1, .ref h2), (2, .int (nI i1))] → W p l e rm_X4_loosenBy s m args below meth c H locs 0 0 Q (F0 m 11 ls []) := by
    intro N11
    induction N11 with
    | zero => intro i1 g1 w1 hN11; exact absurd hN11 (Nat.not_lt_zero _)
    | succ N11 ih11 =>
      intro i1 g1 w1 hN11 hi hz1 H locs hP hS ls hl
      refine lv_iload_n hx hb dX4_loosenBy_11 rfl (lv_at hl 2 rfl) ?_
      refine lv_bipush (v := nI 78) hx hb dX4_loosenBy_12 (by decide) ?_
      refine nv_icmp_ge (tgt := 71) hx hb (by omega) (by omega) dX4_loosenBy_14 (by decide) (fun hc14 => ?_) (fun hc14 => ?_)
      · refine lv_aload_n hx hb dX4_loosenBy_71 rfl (lv_at hl 0 rfl) ?_
        refine kc_v (va_runV (As := []) (rest := []) ⟨hx, hb, hml, hown, hts⟩ (c_X4_close l G B (mu (mu (mu μ la (.inl (G.2 0, 78, .inr (.inl g1)))) s9 (.inl (G.2 0, 13, .inr (.inl g)))) lo (.inl (G.2 2, 78, .inl w1))) h bn nn la s9 lo nf g1 g w1  ((mu_n ne0_5).trans ((mu_n ne0_4).trans ((mu_n ne0_3).trans (hh)))) ((mu_n ne1_5).trans ((mu_n ne1_4).trans ((mu_n ne1_3).trans (hbn)))) ((mu_n ne2_5).trans ((mu_n ne2_4).trans ((mu_n ne2_3).trans (hnn)))) ((mu_n ((mp_ne ha hlo (by simp)))).trans ((mu_n ((mp_ne ha hs9 (by simp)))).trans (mu_s _ _ _))) ((mu_n ((mp_ne hs9 hlo (by simp)))).trans (mu_s _ _ _)) (mu_s _ _ _) ((Or.inl hz1 : Ok g1)) (hSn)) (cwV 0 hts gX4_loosenBy_X4_close rfl rfl rfl (by decide +kernel) ⟨Nat.le_of_ble_eq_true rfl, Nat.le_of_ble_eq_true rfl⟩) ⟨KW.blind, hP.recv hK rfl ((mu_n ne0_5).trans ((mu_n ne0_4).trans ((mu_n ne0_3).trans (hh)))), fun U9 hU9 hW9 => ⟨rfl, KW.pre hBs hKK hS hP U9 hU9 hW9⟩⟩ rfl rfl hl.1 rfl (lv_room (Nat.le_of_ble_eq_true rfl)) dX4_loosenBy_72 ⟨(Nat.le_of_ble_eq_true rfl), (Nat.le_of_ble_eq_true rfl)⟩) hS (fun m72 H locs hq9 hP hz9 hS => ?_)
        obtain ⟨f72, g72, rfl, hM72, hN72⟩ := hq9
        have hP : mw G.1 vwCl B (mu (mu (mu μ la (.inl (G.2 0, 78, .inr (.inl f72)))) s9 (.inl (G.2 0, 13, .inr (.inl g72)))) lo (.inl (G.2 2, 78, .inl w1))) _ := mw_eq ((congrArg (fun z => mu z s9 (.inl (G.2 0, 13, .inr (.inl g72)))) ((mu_c _ _ ((mp_ne hlo ha (by simp)))).trans (congrArg (fun z => mu z lo (.inl (G.2 2, 78, .inl w1))) ((mu_c _ _ ((mp_ne hs9 ha (by simp)))).trans (congrArg (fun z => mu z s9 (.inl (G.2 0, 13, .inr (.inl g)))) (mu_u _ _ _ _)))))).trans ((mu_c _ _ ((mp_ne hlo hs9 (by simp)))).trans (congrArg (fun z => mu z lo (.inl (G.2 2, 78, .inl w1))) (mu_u _ _ _ _)))) hP
        rw [hQ]
        exact W.vret hx hb hr (fun t99 ht99 hW99 => ⟨⟨mu (mu (mu μ la (.inl (G.2 0, 78, .inr (.inl f72)))) s9 (.inl (G.2 0, 13, .inr (.inl g72)))) lo (.inl (G.2 2, 78, .inl w1)), rfl, (⟨_, _, _, rfl, (hM72.za hz1).1, hN72⟩), by show mw _ _ _ _ t99.heap; rw [ht99]; exact hP⟩, hS.F ht99⟩) hS.2.2 dX4_loosenBy_75
      · refine lv_aload_n hx hb dX4_loosenBy_17 rfl (lv_at hl 0 rfl) ?_
        refine mw_get (C := RX4) (T := TX4) (N := 4) hx hb hts in_X4_loosenBy_X4 hown hK hP ((mu_n ne0_5).trans ((mu_n ne0_4).trans ((mu_n ne0_3).trans (hh)))) rfl 0 (by decide) (hts (.fieldLink RX4 9 "OctagonDesk$Shape" "bench" "LOctagonDesk$Bench;") (by decide +kernel)) (fun _ h9 => h9) rfl dX4_loosenBy_18 ?_
        refine mw_get (C := RX0) (T := TX0) (N := 3) hx hb hts in_X4_loosenBy_X0 hown hK hP ((mu_n ne1_5).trans ((mu_n ne1_4).trans ((mu_n ne1_3).trans (hbn)))) rfl 2 (by decide) (hts (.fieldLink RX4 103 "OctagonDesk$Bench" "loose" "[Z") (by decide +kernel)) (fun _ h9 => h9) rfl dX4_loosenBy_21 ?_
        refine lv_iload_n hx hb dX4_loosenBy_24 rfl (lv_at hl 2 rfl) ?_
        refine lv_aload_n hx hb dX4_loosenBy_25 rfl (lv_at hl 0 rfl) ?_
        refine mw_get (C := RX4) (T := TX4) (N := 4) hx hb hts in_X4_loosenBy_X4 hown hK hP ((mu_n ne0_5).trans ((mu_n ne0_4).trans ((mu_n ne0_3).trans (hh)))) rfl 1 (by decide) (hts (.fieldLink RX4 21 "OctagonDesk$Shape" "numbers" "LOctagonDesk$Numbers;") (by decide +kernel)) (fun _ h9 => h9) rfl dX4_loosenBy_26 ?_
        refine lv_aload_n hx hb dX4_loosenBy_29 rfl (lv_at hl 0 rfl) ?_
        refine mw_get (C := RX4) (T := TX4) (N := 4) hx hb hts in_X4_loosenBy_X4 hown hK hP ((mu_n ne0_5).trans ((mu_n ne0_4).trans ((mu_n ne0_3).trans (hh)))) rfl 2 (by decide) (hts (.fieldLink RX4 22 "OctagonDesk$Shape" "cells" "[J") (by decide +kernel)) (fun _ h9 => h9) rfl dX4_loosenBy_30 ?_
        refine lv_iload_n hx hb dX4_loosenBy_33 rfl (lv_at hl 2 rfl) ?_
        refine mw_lald hx hb hK hP 0 ((mu_n ((mp_ne ha hlo (by simp)))).trans ((mu_n ((mp_ne ha hs9 (by simp)))).trans (mu_s _ _ _))) rfl (by omega) (by omega) dX4_loosenBy_34 ?_
        refine lv_aload_n hx hb dX4_loosenBy_35 rfl (lv_at hl 1 rfl) ?_
        refine mw_get (C := RX4) (T := TX4) (N := 4) hx hb hts in_X4_loosenBy_X4 hown hK hP ((mu_n ((Ne.symm ne5_6))).trans ((mu_n ((Ne.symm ne4_6))).trans ((mu_n ((Ne.symm ne3_6))).trans (hh2)))) rfl 2 (by decide) (hts (.fieldLink RX4 22 "OctagonDesk$Shape" "cells" "[J") (by decide +kernel)) (fun _ h9 => h9) rfl dX4_loosenBy_36 ?_
        refine lv_iload_n hx hb dX4_loosenBy_39 rfl (lv_at hl 2 rfl) ?_
        refine mw_lald hx hb hK hP 0 ((mu_n ((mp_ne ha2 hlo (by simp)))).trans ((mu_n ((mp_ne ha2 hs9 (by simp)))).trans ((mu_n ((Ne.symm hne))).trans (ha2)))) rfl (by omega) (by omega) dX4_loosenBy_40 ?_
        refine kc_i (va_runV (As := [.long (g1 i1), .long (f2 i1)]) (rest := [.int (nI i1), .ref lo]) ⟨hx, hb, hml, hown, hts⟩ (c_X3_isLess l G B (mu (mu (mu μ la (.inl (G.2 0, 78, .inr (.inl g1)))) s9 (.inl (G.2 0, 13, .inr (.inl g)))) lo (.inl (G.2 2, 78, .inl w1))) nn nf (g1 i1) (f2 i1) ((mu_n ne2_5).trans ((mu_n ne2_4).trans ((mu_n ne2_3).trans (hnn)))) (Pn.of (hz1 _ (by omega))) (Pn.ng (Pn.of (hZ2 _ (by omega))))) (cwV 2 hts gX4_loosenBy_X3_isLess rfl rfl rfl (by decide +kernel) ⟨Nat.le_of_ble_eq_true rfl, Nat.le_of_ble_eq_true rfl⟩) ⟨KW.blind, hP.recv hK rfl ((mu_n ne2_5).trans ((mu_n ne2_4).trans ((mu_n ne2_3).trans (hnn)))), fun U9 hU9 hW9 => ⟨rfl, KW.pre hBs hKK hS hP U9 hU9 hW9⟩⟩ rfl rfl hl.1 rfl (lv_room (Nat.le_of_ble_eq_true rfl)) dX4_loosenBy_41 ⟨(Nat.le_of_ble_eq_true rfl), (Nat.le_of_ble_eq_true rfl)⟩) hS (fun r41 m41 H locs hq9 hP hz9 hS => ?_)
        obtain ⟨he9, hr41⟩ := hq9
        rw [he9] at hP
        refine mw_zast hx hb hK hP hS 2 (mu_s _ _ _) rfl (zb_a hr41) (by omega) (by omega) dX4_loosenBy_44 (fun H locs hP hS => ?_)
        have hP : mw G.1 vwCl B (mu (mu (mu μ la (.inl (G.2 0, 78, .inr (.inl g1)))) s9 (.inl (G.2 0, 13, .inr (.inl g)))) lo (.inl (G.2 2, 78, .inl (upd w1 i1 r41)))) _ := mw_eq (mu_u _ _ _ _) hP
        refine lv_aload_n hx hb dX4_loosenBy_45 rfl (lv_at hl 0 rfl) ?_
        refine mw_get (C := RX4) (T := TX4) (N := 4) hx hb hts in_X4_loosenBy_X4 hown hK hP ((mu_n ne0_5).trans ((mu_n ne0_4).trans ((mu_n ne0_3).trans (hh)))) rfl 0 (by decide) (hts (.fieldLink RX4 9 "OctagonDesk$Shape" "bench" "LOctagonDesk$Bench;") (by decide +kernel)) (fun _ h9 => h9) rfl dX4_loosenBy_46 ?_
        refine mw_get (C := RX0) (T := TX0) (N := 3) hx hb hts in_X4_loosenBy_X0 hown hK hP ((mu_n ne1_5).trans ((mu_n ne1_4).trans ((mu_n ne1_3).trans (hbn)))) rfl 2 (by decide) (hts (.fieldLink RX4 103 "OctagonDesk$Bench" "loose" "[Z") (by decide +kernel)) (fun _ h9 => h9) rfl dX4_loosenBy_49 ?_
        refine lv_iload_n hx hb dX4_loosenBy_52 rfl (lv_at hl 2 rfl) ?_
        refine mw_zald hx hb hK hP 2 (mu_s _ _ _) rfl (by omega) (by omega) dX4_loosenBy_53 ?_
        refine lv_if_eq (tgt := 65) hx hb dX4_loosenBy_54 (by decide) (fun hc54 => ?_) (fun hc54 => ?_)
        · refine lv_iinc (v := nI (i1 + 1)) (lv' := [(2, .int (nI (i1 + 1))), (0, .ref h), (1, .ref h2)]) hx hb dX4_loosenBy_65 hl (k := 2) rfl (nI_add _ _) (by decide) rfl (fun ls hl => ?_)
          refine lv_goto (tgt := 11) hx hb dX4_loosenBy_68 (by decide) ?_
          exact ih11 (i1 + 1) g1 (upd w1 i1 r41) (by omega) (by omega) (hz1) _ _ hP hS ls (lv_sub hl [1, 2, 0] rfl)
        · refine lv_aload_n hx hb dX4_loosenBy_57 rfl (lv_at hl 0 rfl) ?_
          refine lv_iload_n hx hb dX4_loosenBy_58 rfl (lv_at hl 2 rfl) ?_
          refine lv_ldc2 (v := (9223372036854775807)) hx hb hown (hts (.constantLong RX4 74 (9223372036854775807)) (by decide +kernel)) dX4_loosenBy_59 ?_
          refine kc_v (va_runV (As := [.int (nI i1), .long 9223372036854775807]) (rest := []) ⟨hx, hb, hml, hown, hts⟩ (c_X4_put l G B (mu (mu (mu μ la (.inl (G.2 0, 78, .inr (.inl g1)))) s9 (.inl (G.2 0, 13, .inr (.inl g)))) lo (.inl (G.2 2, 78, .inl (upd w1 i1 r41)))) h bn nn la s9 lo 0 nf g1 g (upd w1 i1 r41) i1 9223372036854775807 ((mu_n ne0_5).trans ((mu_n ne0_4).trans ((mu_n ne0_3).trans (hh)))) ((mu_n ne1_5).trans ((mu_n ne1_4).trans ((mu_n ne1_3).trans (hbn)))) ((mu_n ne2_5).trans ((mu_n ne2_4).trans ((mu_n ne2_3).trans (hnn)))) ((mu_n ((mp_ne ha hlo (by simp)))).trans ((mu_n ((mp_ne ha hs9 (by simp)))).trans (mu_s _ _ _))) ((mu_n ((mp_ne hs9 hlo (by simp)))).trans (mu_s _ _ _)) (mu_s _ _ _) (by omega) (Pn.ng (Pn.of (hz1 _ (by omega)))) (Pn.ng (Pn.i))) (cwV 2 hts gX4_loosenBy_X4_put rfl rfl rfl (by decide +kernel) ⟨Nat.le_of_ble_eq_true rfl, Nat.le_of_ble_eq_true rfl⟩) ⟨KW.blind, hP.recv hK rfl ((mu_n ne0_5).trans ((mu_n ne0_4).trans ((mu_n ne0_3).trans (hh)))), fun U9 hU9 hW9 => ⟨rfl, KW.pre hBs hKK hS hP U9 hU9 hW9⟩⟩ rfl rfl hl.1 rfl (lv_room (Nat.le_of_ble_eq_true rfl)) dX4_loosenBy_62 ⟨(Nat.le_of_ble_eq_true rfl), (Nat.le_of_ble_eq_true rfl)⟩) hS (fun m62 H locs hq9 hP hz9 hS => ?_)
          rw [hq9] at hP
          have hP : mw G.1 vwCl B (mu (mu (mu μ la (.inl (G.2 0, 78, .inr (.inl (vp_updL g1 i1 9223372036854775807))))) s9 (.inl (G.2 0, 13, .inr (.inl g)))) lo (.inl (G.2 2, 78, .inl (upd w1 i1 r41)))) _ := mw_eq ((mu_c _ _ ((mp_ne hlo ha (by simp)))).trans (congrArg (fun z => mu z lo (.inl (G.2 2, 78, .inl (upd w1 i1 r41)))) ((mu_c _ _ ((mp_ne hs9 ha (by simp)))).trans (congrArg (fun z => mu z s9 (.inl (G.2 0, 13, .inr (.inl g)))) (mu_u _ _ _ _))))) hP
          refine lv_iinc (v := nI (i1 + 1)) (lv' := [(2, .int (nI (i1 + 1))), (0, .ref h), (1, .ref h2)]) hx hb dX4_loosenBy_65 hl (k := 2) rfl (nI_add _ _) (by decide) rfl (fun ls hl => ?_)
          refine lv_goto (tgt := 11) hx hb dX4_loosenBy_68 (by decide) ?_
          exact ih11 (i1 + 1) (vp_updL g1 i1 9223372036854775807) (upd w1 i1 r41) (by omega) (by omega) (hz1.upd (by first | exact Or.inl rfl | exact hZ2 _ (by omega))) _ _ hP hS ls (lv_sub hl [1, 2, 0] rfl)
  have hl := lv_entry ([.ref h, .ref h2]) (n := 3) (Nat.le_of_ble_eq_true rfl)
  have he9 : entryFrame m args 3 = entryFrame m ([.ref h, .ref h2] : List Value).toArray 3 := by rw [hargs]
  rw [he9, lg_entry_eq]
  generalize (lg_sl ([.ref h, .ref h2]) ++ List.replicate (3 - (lg_sl ([.ref h, .ref h2])).length) Slot.unset).toArray = ls at hl ⊢
  have hl : lv_has ls 3 [(0, .ref h), (1, .ref h2)] := hl
  refine lv_aload_n hx hb dX4_loosenBy_0 rfl (lv_at hl 0 rfl) ?_
  refine lv_aload_n hx hb dX4_loosenBy_1 rfl (lv_at hl 1 rfl) ?_
  refine kc_i (va_runV (As := [.ref h2]) (rest := []) ⟨hx, hb, hml, hown, hts⟩ (c_X4_isSettledByEmptiness l G B (mu (mu (mu μ la (.inl (G.2 0, 78, .inr (.inl f)))) s9 (.inl (G.2 0, 13, .inr (.inl g)))) lo (.inl (G.2 2, 78, .inl w9))) h bn nn la s9 lo nf f g w9 h2 la2 f2  ((mu_n ne0_5).trans ((mu_n ne0_4).trans ((mu_n ne0_3).trans (hh)))) ((mu_n ne1_5).trans ((mu_n ne1_4).trans ((mu_n ne1_3).trans (hbn)))) ((mu_n ne2_5).trans ((mu_n ne2_4).trans ((mu_n ne2_3).trans (hnn)))) ((mu_n ((mp_ne ha hlo (by simp)))).trans ((mu_n ((mp_ne ha hs9 (by simp)))).trans (mu_s _ _ _))) ((mu_n ((mp_ne hs9 hlo (by simp)))).trans (mu_s _ _ _)) (mu_s _ _ _) ((mu_n ((Ne.symm ne5_6))).trans ((mu_n ((Ne.symm ne4_6))).trans ((mu_n ((Ne.symm ne3_6))).trans (hh2)))) ((mu_n ((mp_ne ha2 hlo (by simp)))).trans ((mu_n ((mp_ne ha2 hs9 (by simp)))).trans ((mu_n ((Ne.symm hne))).trans (ha2)))) ) (cwV 1 hts gX4_loosenBy_X4_isSettledByEmptiness rfl rfl rfl (by decide +kernel) ⟨Nat.le_of_ble_eq_true rfl, Nat.le_of_ble_eq_true rfl⟩) ⟨KW.blind, hP.recv hK rfl ((mu_n ne0_5).trans ((mu_n ne0_4).trans ((mu_n ne0_3).trans (hh)))), fun U9 hU9 hW9 => ⟨rfl, KW.pre hBs hKK hS hP U9 hU9 hW9⟩⟩ rfl rfl hl.1 rfl (lv_room (Nat.le_of_ble_eq_true rfl)) dX4_loosenBy_2 ⟨(Nat.le_of_ble_eq_true rfl), (Nat.le_of_ble_eq_true rfl)⟩) hS (fun r2 m2 H locs hq9 hP hz9 hS => ?_)
  obtain ⟨he9, hr2⟩ := hq9
  rw [he9] at hP
  obtain rfl : r2 = nI 0 := hr2
  refine lv_if_eq (tgt := 9) hx hb dX4_loosenBy_5 (by decide) (fun hc5 => ?_) (fun hc5 => ?_)
  · refine lv_iconst (v := nI 0) hx hb dX4_loosenBy_9 (by decide) ?_
    refine lv_istore_n (lv' := [(2, .int (nI 0)), (0, .ref h), (1, .ref h2)]) hx hb dX4_loosenBy_10 rfl hl (by decide) rfl (fun ls hl => ?_)
    exact L11 _ 0 f w9 (Nat.lt_succ_self _) (by omega) (hZ) _ _ hP hS ls (lv_sub hl [1, 2, 0] rfl)
  · exact absurd rfl hc5

abbrev rm_X4_isWithin : Room := { frames := 2, cells := 0, slots := 0, locals := 60 }
set_option maxHeartbeats 4000000 in
set_option maxRecDepth 100000 in
theorem c_X4_isWithin (l : Launch) (G : GG) (B : Nat) (μ : mp) (h bn nn la s9 lo : Nat) (nf : List Value) (f g : Nat → Int64) (w9 : Nat → Int32) (h2 la2 : Nat) (f2 : Nat → Int64) (hh : μ h = some (.inr (4, [.ref bn, .ref nn, .ref la, .int (nI 0)]))) (hbn : μ bn = some (.inr (0, [.ref nn, .ref s9, .ref lo]))) (hnn : μ nn = some (.inr (3, nf))) (ha : μ la = some (.inl (G.2 0, 78, .inr (.inl f)))) (hs9 : μ s9 = some (.inl (G.2 0, 13, .inr (.inl g)))) (hlo : μ lo = some (.inl (G.2 2, 78, .inl w9))) (hh2 : μ h2 = some (.inr (4, [.ref bn, .ref nn, .ref la2, .int (nI 0)]))) (ha2 : μ la2 = some (.inl (G.2 0, 78, .inr (.inl f2)))) (hZ : Za f) (hZ2 : Za f2) (hle : ∀ c, c < 78 → ¬ f2 c < f c) : Met l yX4_isWithin wsX4_isWithin rm_X4_isWithin (va_Pc [.ref h, .ref h2] (KW G B μ)) (va_Qi (fun r μ2 => μ2 = μ ∧ r = 1) (BB G B) (fun q => B ≤ q)) 0 0 (fun q => B ≤ q) := by
  refine Met.ofW (cc := cX4_isWithin) (maxL := 3) (ret := (some .boolean)) (by decide) rfl ?_
  intro p e s m args below meth c s₁ B9 hml hv
  obtain ⟨hargs, hBs, hP, hKK⟩ := hv
  have hx := B9.exec
  have hb := B9.bytes
  have hr := B9.returns
  have hts := atoms_spec (ws := wsX4_isWithin) B9.pre
  have hown : s.vm.findClass RX4 = some m.cls := findClass_of_methodNamed B9.named
  have hlocks := B9.notSynchronized
  have hK := hKK.k
  have hS : va_S (fun q => B ≤ q) s.heap s.heap [] := va_S.rf
  obtain ⟨Q, hQ⟩ : ∃ Q, Q = MQ below (va_Qi (fun r μ2 => μ2 = μ ∧ r = 1) (BB G B) (fun q => B ≤ q)) args s 0 0 (fun q => B ≤ q) := ⟨_, rfl⟩
  rw [← hQ]
  have ne0_1 : h ≠ bn := mp_ne hh hbn (by simp)
  have ne0_2 : h ≠ nn := mp_ne hh hnn (by simp)
  have ne0_3 : h ≠ la := mp_ne hh ha (by simp)
  have ne0_4 : h ≠ s9 := mp_ne hh hs9 (by simp)
  have ne0_5 : h ≠ lo := mp_ne hh hlo (by simp)
  have ne0_7 : h ≠ la2 := mp_ne hh ha2 (by simp)
  have ne1_2 : bn ≠ nn := mp_ne hbn hnn (by simp)
  have ne1_3 : bn ≠ la := mp_ne hbn ha (by simp)
  have ne1_4 : bn ≠ s9 := mp_ne hbn hs9 (by simp)
  have ne1_5 : bn ≠ lo := mp_ne hbn hlo (by simp)
  have ne1_6 : bn ≠ h2 := mp_ne hbn hh2 (by simp)
  have ne1_7 : bn ≠ la2 := mp_ne hbn ha2 (by simp)
  have ne2_3 : nn ≠ la := mp_ne hnn ha (by simp)
  have ne2_4 : nn ≠ s9 := mp_ne hnn hs9 (by simp)
  have ne2_5 : nn ≠ lo := mp_ne hnn hlo (by simp)
  have ne2_6 : nn ≠ h2 := mp_ne hnn hh2 (by simp)
  have ne2_7 : nn ≠ la2 := mp_ne hnn ha2 (by simp)
  have ne3_6 : la ≠ h2 := mp_ne ha hh2 (by simp)
  have ne4_6 : s9 ≠ h2 := mp_ne hs9 hh2 (by simp)
  have ne5_6 : lo ≠ h2 := mp_ne hlo hh2 (by simp)
  have ne6_7 : h2 ≠ la2 := mp_ne hh2 ha2 (by simp)
  have in_X4_isWithin_X4 : ∀ w ∈ wsX40, w ∈ wsX4_isWithin := by decide +kernel
  have L21 : ∀ (N21 : Nat) (i1 : Nat) (hN21 : 78 - i1 < N21) (hi : i1 ≤ 78), ∀ (H : Heap) (locs : List Loc), mw G.1 vwCl B (μ) H → va_S (fun q => B ≤ q) s.heap H locs → ∀ ls : Array Slot, lv_has ls 3 [(0, .ref h), (1, .ref h2), (2, .int (nI i1))] → W p l e rm_X4_isWithin s m args below meth c H locs 0 0 Q (F0 m 21 ls []) := by
    intro N21
    induction N21 with
    | zero => intro i1 hN21; exact absurd hN21 (Nat.not_lt_zero _)
    | succ N21 ih21 =>
      intro i1 hN21 hi H locs hP hS ls hl
      refine lv_iload_n hx hb dX4_isWithin_21 rfl (lv_at hl 2 rfl) ?_
      refine lv_bipush (v := nI 78) hx hb dX4_isWithin_22 (by decide) ?_
      refine nv_icmp_ge (tgt := 57) hx hb (by omega) (by omega) dX4_isWithin_24 (by decide) (fun hc24 => ?_) (fun hc24 => ?_)
      · refine lv_iconst (v := nI 1) hx hb dX4_isWithin_57 (by decide) ?_
        rw [hQ]
        exact W.zret (v := nI 1) (ty := .boolean) hx hb hr (by first | rfl | decide) (fun t99 ht99 hW99 => ⟨⟨nI 1, μ, rfl, (⟨rfl, rfl⟩), by show mw _ _ _ _ t99.heap; rw [ht99]; exact hP⟩, hS.F ht99⟩) hS.2.2 dX4_isWithin_58
      · refine lv_aload_n hx hb dX4_isWithin_27 rfl (lv_at hl 0 rfl) ?_
        refine mw_get (C := RX4) (T := TX4) (N := 4) hx hb hts in_X4_isWithin_X4 hown hK hP (hh) rfl 1 (by decide) (hts (.fieldLink RX4 21 "OctagonDesk$Shape" "numbers" "LOctagonDesk$Numbers;") (by decide +kernel)) (fun _ h9 => h9) rfl dX4_isWithin_28 ?_
        refine lv_aload_n hx hb dX4_isWithin_31 rfl (lv_at hl 1 rfl) ?_
        refine mw_get (C := RX4) (T := TX4) (N := 4) hx hb hts in_X4_isWithin_X4 hown hK hP (hh2) rfl 2 (by decide) (hts (.fieldLink RX4 22 "OctagonDesk$Shape" "cells" "[J") (by decide +kernel)) (fun _ h9 => h9) rfl dX4_isWithin_32 ?_
        refine lv_iload_n hx hb dX4_isWithin_35 rfl (lv_at hl 2 rfl) ?_
        refine mw_lald hx hb hK hP 0 (ha2) rfl (by omega) (by omega) dX4_isWithin_36 ?_
        refine lv_aload_n hx hb dX4_isWithin_37 rfl (lv_at hl 0 rfl) ?_
        refine mw_get (C := RX4) (T := TX4) (N := 4) hx hb hts in_X4_isWithin_X4 hown hK hP (hh) rfl 2 (by decide) (hts (.fieldLink RX4 22 "OctagonDesk$Shape" "cells" "[J") (by decide +kernel)) (fun _ h9 => h9) rfl dX4_isWithin_38 ?_
        refine lv_iload_n hx hb dX4_isWithin_41 rfl (lv_at hl 2 rfl) ?_
        refine mw_lald hx hb hK hP 0 (ha) rfl (by omega) (by omega) dX4_isWithin_42 ?_
        refine kc_i (va_runV (As := [.long (f2 i1), .long (f i1)]) (rest := []) ⟨hx, hb, hml, hown, hts⟩ (c_X3_isLess l G B (μ) nn nf (f2 i1) (f i1) (hnn) (Pn.of (hZ2 _ (by omega))) (Pn.ng (Pn.of (hZ _ (by omega))))) (cwV 2 hts gX4_isWithin_X3_isLess rfl rfl rfl (by decide +kernel) ⟨Nat.le_of_ble_eq_true rfl, Nat.le_of_ble_eq_true rfl⟩) ⟨KW.blind, hP.recv hK rfl (hnn), fun U9 hU9 hW9 => ⟨rfl, KW.pre hBs hKK hS hP U9 hU9 hW9⟩⟩ rfl rfl hl.1 rfl (lv_room (Nat.le_of_ble_eq_true rfl)) dX4_isWithin_43 ⟨(Nat.le_of_ble_eq_true rfl), (Nat.le_of_ble_eq_true rfl)⟩) hS (fun r43 m43 H locs hq9 hP hz9 hS => ?_)
        obtain ⟨he9, hr43⟩ := hq9
        rw [he9] at hP
        refine lv_if_eq (tgt := 51) hx hb dX4_isWithin_46 (by decide) (fun hc46 => ?_) (fun hc46 => ?_)
        · refine lv_iinc (v := nI (i1 + 1)) (lv' := [(2, .int (nI (i1 + 1))), (0, .ref h), (1, .ref h2)]) hx hb dX4_isWithin_51 hl (k := 2) rfl (nI_add _ _) (by decide) rfl (fun ls hl => ?_)
          refine lv_goto (tgt := 21) hx hb dX4_isWithin_54 (by decide) ?_
          exact ih21 (i1 + 1) (by omega) (by omega) _ _ hP hS ls (lv_sub hl [1, 2, 0] rfl)
        · exact absurd (b1_1 hr43 hc46) (hle i1 (by omega))
  have hl := lv_entry ([.ref h, .ref h2]) (n := 3) (Nat.le_of_ble_eq_true rfl)
  have he9 : entryFrame m args 3 = entryFrame m ([.ref h, .ref h2] : List Value).toArray 3 := by rw [hargs]
  rw [he9, lg_entry_eq]
  generalize (lg_sl ([.ref h, .ref h2]) ++ List.replicate (3 - (lg_sl ([.ref h, .ref h2])).length) Slot.unset).toArray = ls at hl ⊢
  have hl : lv_has ls 3 [(0, .ref h), (1, .ref h2)] := hl
  refine lv_aload_n hx hb dX4_isWithin_0 rfl (lv_at hl 0 rfl) ?_
  refine mw_get (C := RX4) (T := TX4) (N := 4) hx hb hts in_X4_isWithin_X4 hown hK hP (hh) rfl 3 (by decide) (hts (.fieldLink RX4 26 "OctagonDesk$Shape" "empty" "Z") (by decide +kernel)) (fun _ h9 => h9) rfl dX4_isWithin_1 ?_
  refine lv_if_ne (tgt := 14) hx hb dX4_isWithin_4 (by decide) (fun hc4 => ?_) (fun hc4 => ?_)
  · exact absurd rfl hc4
  · refine lv_aload_n hx hb dX4_isWithin_7 rfl (lv_at hl 1 rfl) ?_
    refine mw_get (C := RX4) (T := TX4) (N := 4) hx hb hts in_X4_isWithin_X4 hown hK hP (hh2) rfl 3 (by decide) (hts (.fieldLink RX4 26 "OctagonDesk$Shape" "empty" "Z") (by decide +kernel)) (fun _ h9 => h9) rfl dX4_isWithin_8 ?_
    refine lv_if_eq (tgt := 19) hx hb dX4_isWithin_11 (by decide) (fun hc11 => ?_) (fun hc11 => ?_)
    · refine lv_iconst (v := nI 0) hx hb dX4_isWithin_19 (by decide) ?_
      refine lv_istore_n (lv' := [(2, .int (nI 0)), (0, .ref h), (1, .ref h2)]) hx hb dX4_isWithin_20 rfl hl (by decide) rfl (fun ls hl => ?_)
      exact L21 _ 0 (Nat.lt_succ_self _) (by omega) _ _ hP hS ls (lv_sub hl [1, 2, 0] rfl)
    · exact absurd rfl hc11

abbrev rm_X4_mostOf : Room := { frames := 3, cells := 0, slots := 0, locals := 69 }
set_option maxHeartbeats 4000000 in
set_option maxRecDepth 100000 in
theorem c_X4_mostOf (l : Launch) (G : GG) (B : Nat) (μ : mp) (h bn nn la s9 lo eb : Nat) (nf : List Value) (f g : Nat → Int64) (w9 : Nat → Int32) (p9 q9 : Nat) (hh : μ h = some (.inr (4, [.ref bn, .ref nn, .ref la, .int (nI eb)]))) (hbn : μ bn = some (.inr (0, [.ref nn, .ref s9, .ref lo]))) (hnn : μ nn = some (.inr (3, nf))) (ha : μ la = some (.inl (G.2 0, 78, .inr (.inl f)))) (hs9 : μ s9 = some (.inl (G.2 0, 13, .inr (.inl g)))) (hlo : μ lo = some (.inl (G.2 2, 78, .inl w9))) (hp9 : p9 < 12) (hq9a : q9 < 12) (hZ : Za f) (hSn : Sn g) : Met l yX4_mostOf wsX4_mostOf rm_X4_mostOf (va_Pc [.ref h, .int (nI p9), .int (nI q9)] (KW G B μ)) (va_Ql (fun r μ2 => ∃ g9 : Nat → Int64, μ2 = mu μ s9 (.inl (G.2 0, 13, .inr (.inl g9))) ∧ Sn g9 ∧ r = if p9 = q9 then hf (f (ix p9 p9)) else f (ix p9 q9)) (BB G B) (fun q => B ≤ q)) 0 0 (fun q => B ≤ q) := by
  refine Met.ofW (cc := cX4_mostOf) (maxL := 3) (ret := (some .long)) (by decide) rfl ?_
  intro p e s m args below meth c s₁ B9 hml hv
  obtain ⟨hargs, hBs, hP, hKK⟩ := hv
  have hx := B9.exec
  have hb := B9.bytes
  have hr := B9.returns
  have hts := atoms_spec (ws := wsX4_mostOf) B9.pre
  have hown : s.vm.findClass RX4 = some m.cls := findClass_of_methodNamed B9.named
  have hlocks := B9.notSynchronized
  have hK := hKK.k
  have hS : va_S (fun q => B ≤ q) s.heap s.heap [] := va_S.rf
  obtain ⟨Q, hQ⟩ : ∃ Q, Q = MQ below (va_Ql (fun r μ2 => ∃ g9 : Nat → Int64, μ2 = mu μ s9 (.inl (G.2 0, 13, .inr (.inl g9))) ∧ Sn g9 ∧ r = if p9 = q9 then hf (f (ix p9 p9)) else f (ix p9 q9)) (BB G B) (fun q => B ≤ q)) args s 0 0 (fun q => B ≤ q) := ⟨_, rfl⟩
  rw [← hQ]
  have ne0_1 : h ≠ bn := mp_ne hh hbn (by simp)
  have ne0_2 : h ≠ nn := mp_ne hh hnn (by simp)
  have ne0_3 : h ≠ la := mp_ne hh ha (by simp)
  have ne0_4 : h ≠ s9 := mp_ne hh hs9 (by simp)
  have ne0_5 : h ≠ lo := mp_ne hh hlo (by simp)
  have ne1_2 : bn ≠ nn := mp_ne hbn hnn (by simp)
  have ne1_3 : bn ≠ la := mp_ne hbn ha (by simp)
  have ne1_4 : bn ≠ s9 := mp_ne hbn hs9 (by simp)
  have ne1_5 : bn ≠ lo := mp_ne hbn hlo (by simp)
  have ne2_3 : nn ≠ la := mp_ne hnn ha (by simp)
  have ne2_4 : nn ≠ s9 := mp_ne hnn hs9 (by simp)
  have ne2_5 : nn ≠ lo := mp_ne hnn hlo (by simp)
  have in_X4_mostOf_X0 : ∀ w ∈ wsX00, w ∈ wsX4_mostOf := by decide +kernel
  have in_X4_mostOf_X4 : ∀ w ∈ wsX40, w ∈ wsX4_mostOf := by decide +kernel
  have hP : mw G.1 vwCl B (mu μ s9 (.inl (G.2 0, 13, .inr (.inl g)))) s.heap := mw_eq (mu_i hs9).symm hP
  have hl := lv_entry ([.ref h, .int (nI p9), .int (nI q9)]) (n := 3) (Nat.le_of_ble_eq_true rfl)
  have he9 : entryFrame m args 3 = entryFrame m ([.ref h, .int (nI p9), .int (nI q9)] : List Value).toArray 3 := by rw [hargs]
  rw [he9, lg_entry_eq]
  generalize (lg_sl ([.ref h, .int (nI p9), .int (nI q9)]) ++ List.replicate (3 - (lg_sl ([.ref h, .int (nI p9), .int (nI q9)])).length) Slot.unset).toArray = ls at hl ⊢
  have hl : lv_has ls 3 [(0, .ref h), (1, .int (nI p9)), (2, .int (nI q9))] := hl
  refine lv_iload_n hx hb dX4_mostOf_0 rfl (lv_at hl 1 rfl) ?_
  refine lv_iload_n hx hb dX4_mostOf_1 rfl (lv_at hl 2 rfl) ?_
  refine nv_icmp_eq (tgt := 23) hx hb (by omega) (by omega) dX4_mostOf_2 (by decide) (fun hc2 => ?_) (fun hc2 => ?_)
  · refine lv_aload_n hx hb dX4_mostOf_23 rfl (lv_at hl 0 rfl) ?_
    refine mw_get (C := RX4) (T := TX4) (N := 4) hx hb hts in_X4_mostOf_X4 hown hK hP ((mu_n ne0_4).trans (hh)) rfl 0 (by decide) (hts (.fieldLink RX4 9 "OctagonDesk$Shape" "bench" "LOctagonDesk$Bench;") (by decide +kernel)) (fun _ h9 => h9) rfl dX4_mostOf_24 ?_
    refine lv_bipush (v := nI 12) hx hb dX4_mostOf_27 (by decide) ?_
    refine lv_aload_n hx hb dX4_mostOf_29 rfl (lv_at hl 0 rfl) ?_
    refine mw_get (C := RX4) (T := TX4) (N := 4) hx hb hts in_X4_mostOf_X4 hown hK hP ((mu_n ne0_4).trans (hh)) rfl 1 (by decide) (hts (.fieldLink RX4 21 "OctagonDesk$Shape" "numbers" "LOctagonDesk$Numbers;") (by decide +kernel)) (fun _ h9 => h9) rfl dX4_mostOf_30 ?_
    refine lv_aload_n hx hb dX4_mostOf_33 rfl (lv_at hl 0 rfl) ?_
    refine mw_get (C := RX4) (T := TX4) (N := 4) hx hb hts in_X4_mostOf_X4 hown hK hP ((mu_n ne0_4).trans (hh)) rfl 2 (by decide) (hts (.fieldLink RX4 22 "OctagonDesk$Shape" "cells" "[J") (by decide +kernel)) (fun _ h9 => h9) rfl dX4_mostOf_34 ?_
    refine lv_iload_n hx hb dX4_mostOf_37 rfl (lv_at hl 1 rfl) ?_
    refine lv_iload_n hx hb dX4_mostOf_38 rfl (lv_at hl 1 rfl) ?_
    refine kc_i (va_runS (As := [.int (nI p9), .int (nI p9)]) (rest := [.ref la, .ref nn, .int (nI 12), .ref bn]) ⟨hx, hb, hml, hown, hts⟩ (c_X4_cell l G B (mu μ s9 (.inl (G.2 0, 13, .inr (.inl g)))) p9 p9 (by omega) (by omega)) (va_cwS 2 hts gX4_mostOf_X4_cell rfl rfl rfl (by decide +kernel) ⟨Nat.le_of_ble_eq_true rfl, Nat.le_of_ble_eq_true rfl⟩) ⟨KW.blind, fun U9 hU9 hW9 => ⟨rfl, KW.pre hBs hKK hS hP U9 hU9 hW9⟩⟩ rfl rfl hl.1 rfl (lv_room (Nat.le_of_ble_eq_true rfl)) dX4_mostOf_39 ⟨(Nat.le_of_ble_eq_true rfl), (Nat.le_of_ble_eq_true rfl)⟩) hS (fun r39 m39 H locs hq9 hP hz9 hS => ?_)
    obtain ⟨he9, rfl⟩ := hq9
    rw [he9] at hP
    have hix39 := ix_lt (p := p9) (q := p9) (by omega) (by omega)
    refine mw_lald hx hb hK hP 0 ((mu_n ((mp_ne ha hs9 (by simp)))).trans (ha)) rfl (by omega) (by omega) dX4_mostOf_42 ?_
    refine kc_l (va_runV (As := [.long (f (ix p9 p9))]) (rest := [.int (nI 12), .ref bn]) ⟨hx, hb, hml, hown, hts⟩ (c_X3_half l G B (mu μ s9 (.inl (G.2 0, 13, .inr (.inl g)))) nn nf (f (ix p9 p9)) ((mu_n ne2_4).trans (hnn)) (Pn.ng (Pn.of (hZ _ (by omega))))) (cwV 1 hts gX4_mostOf_X3_half rfl rfl rfl (by decide +kernel) ⟨Nat.le_of_ble_eq_true rfl, Nat.le_of_ble_eq_true rfl⟩) ⟨KW.blind, hP.recv hK rfl ((mu_n ne2_4).trans (hnn)), fun U9 hU9 hW9 => ⟨rfl, KW.pre hBs hKK hS hP U9 hU9 hW9⟩⟩ rfl rfl hl.1 rfl (lv_room (Nat.le_of_ble_eq_true rfl)) dX4_mostOf_43 ⟨(Nat.le_of_ble_eq_true rfl), (Nat.le_of_ble_eq_true rfl)⟩) hS (fun r43 m43 H locs hq9 hP hz9 hS => ?_)
    obtain ⟨he9, hr43⟩ := hq9
    rw [he9] at hP
    refine kc_v (va_runV (As := [.int (nI 12), .long r43]) (rest := []) ⟨hx, hb, hml, hown, hts⟩ (c_X0_note l G B (mu μ s9 (.inl (G.2 0, 13, .inr (.inl g)))) bn nn s9 lo nf g 12 r43 ((mu_n ne1_4).trans (hbn)) ((mu_n ne2_4).trans (hnn)) (mu_s _ _ _) (by omega) (Pn.ng (hSn _ (by omega))) (by rw [hr43]; exact (hf_pn (Pn.of (hZ _ (by omega)))).ng)) (cwV 2 hts gX4_mostOf_X0_note rfl rfl rfl (by decide +kernel) ⟨Nat.le_of_ble_eq_true rfl, Nat.le_of_ble_eq_true rfl⟩) ⟨KW.blind, hP.recv hK rfl ((mu_n ne1_4).trans (hbn)), fun U9 hU9 hW9 => ⟨rfl, KW.pre hBs hKK hS hP U9 hU9 hW9⟩⟩ rfl rfl hl.1 rfl (lv_room (Nat.le_of_ble_eq_true rfl)) dX4_mostOf_46 ⟨(Nat.le_of_ble_eq_true rfl), (Nat.le_of_ble_eq_true rfl)⟩) hS (fun m46 H locs hq9 hP hz9 hS => ?_)
    rw [hq9] at hP
    have hP : mw G.1 vwCl B (mu μ s9 (.inl (G.2 0, 13, .inr (.inl (vp_updL g 12 r43))))) _ := mw_eq (mu_u _ _ _ _) hP
    refine lv_aload_n hx hb dX4_mostOf_49 rfl (lv_at hl 0 rfl) ?_
    refine mw_get (C := RX4) (T := TX4) (N := 4) hx hb hts in_X4_mostOf_X4 hown hK hP ((mu_n ne0_4).trans (hh)) rfl 1 (by decide) (hts (.fieldLink RX4 21 "OctagonDesk$Shape" "numbers" "LOctagonDesk$Numbers;") (by decide +kernel)) (fun _ h9 => h9) rfl dX4_mostOf_50 ?_
    refine lv_aload_n hx hb dX4_mostOf_53 rfl (lv_at hl 0 rfl) ?_
    refine mw_get (C := RX4) (T := TX4) (N := 4) hx hb hts in_X4_mostOf_X4 hown hK hP ((mu_n ne0_4).trans (hh)) rfl 0 (by decide) (hts (.fieldLink RX4 9 "OctagonDesk$Shape" "bench" "LOctagonDesk$Bench;") (by decide +kernel)) (fun _ h9 => h9) rfl dX4_mostOf_54 ?_
    refine mw_get (C := RX0) (T := TX0) (N := 3) hx hb hts in_X4_mostOf_X0 hown hK hP ((mu_n ne1_4).trans (hbn)) rfl 1 (by decide) (hts (.fieldLink RX4 76 "OctagonDesk$Bench" "scratch" "[J") (by decide +kernel)) (fun _ h9 => h9) rfl dX4_mostOf_57 ?_
    refine lv_bipush (v := nI 12) hx hb dX4_mostOf_60 (by decide) ?_
    refine mw_lald hx hb hK hP 0 (mu_s _ _ _) rfl (by omega) (by omega) dX4_mostOf_62 ?_
    have hv63 : (vp_updL g 12 r43) 12 = r43 := pk_uLs
    refine kc_l (va_runV (As := [.long ((vp_updL g 12 r43) 12)]) (rest := []) ⟨hx, hb, hml, hown, hts⟩ (c_X3_nearestLong l G B (mu μ s9 (.inl (G.2 0, 13, .inr (.inl (vp_updL g 12 r43))))) nn nf ((vp_updL g 12 r43) 12) ((mu_n ne2_4).trans (hnn)) (by rw [hv63, hr43]; exact (hf_pn (Pn.of (hZ _ (by omega)))).ng)) (cwV 1 hts gX4_mostOf_X3_nearestLong rfl rfl rfl (by decide +kernel) ⟨Nat.le_of_ble_eq_true rfl, Nat.le_of_ble_eq_true rfl⟩) ⟨KW.blind, hP.recv hK rfl ((mu_n ne2_4).trans (hnn)), fun U9 hU9 hW9 => ⟨rfl, KW.pre hBs hKK hS hP U9 hU9 hW9⟩⟩ rfl rfl hl.1 rfl (lv_room (Nat.le_of_ble_eq_true rfl)) dX4_mostOf_63 ⟨(Nat.le_of_ble_eq_true rfl), (Nat.le_of_ble_eq_true rfl)⟩) hS (fun r63 m63 H locs hq9 hP hz9 hS => ?_)
    obtain ⟨he9, hr63⟩ := hq9
    rw [he9] at hP
    rw [hQ]
    exact W.lret (v := r63) hx hb hr (fun t99 ht99 hW99 => ⟨⟨r63, mu μ s9 (.inl (G.2 0, 13, .inr (.inl (vp_updL g 12 r43)))), rfl, (⟨_, rfl, hSn.upd (by rw [hr43]; exact hf_pn (Pn.of (hZ _ (by omega)))), by rw [if_pos hc2, hr63, hv63, hr43]⟩), by show mw _ _ _ _ t99.heap; rw [ht99]; exact hP⟩, hS.F ht99⟩) hS.2.2 dX4_mostOf_66
  · refine lv_aload_n hx hb dX4_mostOf_5 rfl (lv_at hl 0 rfl) ?_
    refine mw_get (C := RX4) (T := TX4) (N := 4) hx hb hts in_X4_mostOf_X4 hown hK hP ((mu_n ne0_4).trans (hh)) rfl 1 (by decide) (hts (.fieldLink RX4 21 "OctagonDesk$Shape" "numbers" "LOctagonDesk$Numbers;") (by decide +kernel)) (fun _ h9 => h9) rfl dX4_mostOf_6 ?_
    refine lv_aload_n hx hb dX4_mostOf_9 rfl (lv_at hl 0 rfl) ?_
    refine mw_get (C := RX4) (T := TX4) (N := 4) hx hb hts in_X4_mostOf_X4 hown hK hP ((mu_n ne0_4).trans (hh)) rfl 2 (by decide) (hts (.fieldLink RX4 22 "OctagonDesk$Shape" "cells" "[J") (by decide +kernel)) (fun _ h9 => h9) rfl dX4_mostOf_10 ?_
    refine lv_iload_n hx hb dX4_mostOf_13 rfl (lv_at hl 1 rfl) ?_
    refine lv_iload_n hx hb dX4_mostOf_14 rfl (lv_at hl 2 rfl) ?_
    refine kc_i (va_runS (As := [.int (nI p9), .int (nI q9)]) (rest := [.ref la, .ref nn]) ⟨hx, hb, hml, hown, hts⟩ (c_X4_cell l G B (mu μ s9 (.inl (G.2 0, 13, .inr (.inl g)))) p9 q9 (by omega) (by omega)) (va_cwS 2 hts gX4_mostOf_X4_cell rfl rfl rfl (by decide +kernel) ⟨Nat.le_of_ble_eq_true rfl, Nat.le_of_ble_eq_true rfl⟩) ⟨KW.blind, fun U9 hU9 hW9 => ⟨rfl, KW.pre hBs hKK hS hP U9 hU9 hW9⟩⟩ rfl rfl hl.1 rfl (lv_room (Nat.le_of_ble_eq_true rfl)) dX4_mostOf_15 ⟨(Nat.le_of_ble_eq_true rfl), (Nat.le_of_ble_eq_true rfl)⟩) hS (fun r15 m15 H locs hq9 hP hz9 hS => ?_)
    obtain ⟨he9, rfl⟩ := hq9
    rw [he9] at hP
    have hix15 := ix_lt (p := p9) (q := q9) (by omega) (by omega)
    refine mw_lald hx hb hK hP 0 ((mu_n ((mp_ne ha hs9 (by simp)))).trans (ha)) rfl (by omega) (by omega) dX4_mostOf_18 ?_
    refine kc_l (va_runV (As := [.long (f (ix p9 q9))]) (rest := []) ⟨hx, hb, hml, hown, hts⟩ (c_X3_nearestLong l G B (mu μ s9 (.inl (G.2 0, 13, .inr (.inl g)))) nn nf (f (ix p9 q9)) ((mu_n ne2_4).trans (hnn)) (Pn.ng (Pn.of (hZ _ (by omega))))) (cwV 1 hts gX4_mostOf_X3_nearestLong rfl rfl rfl (by decide +kernel) ⟨Nat.le_of_ble_eq_true rfl, Nat.le_of_ble_eq_true rfl⟩) ⟨KW.blind, hP.recv hK rfl ((mu_n ne2_4).trans (hnn)), fun U9 hU9 hW9 => ⟨rfl, KW.pre hBs hKK hS hP U9 hU9 hW9⟩⟩ rfl rfl hl.1 rfl (lv_room (Nat.le_of_ble_eq_true rfl)) dX4_mostOf_19 ⟨(Nat.le_of_ble_eq_true rfl), (Nat.le_of_ble_eq_true rfl)⟩) hS (fun r19 m19 H locs hq9 hP hz9 hS => ?_)
    obtain ⟨he9, hr19⟩ := hq9
    rw [he9] at hP
    rw [hQ]
    exact W.lret (v := r19) hx hb hr (fun t99 ht99 hW99 => ⟨⟨r19, mu μ s9 (.inl (G.2 0, 13, .inr (.inl g))), rfl, (⟨_, rfl, hSn, by rw [if_neg hc2]; exact hr19⟩), by show mw _ _ _ _ t99.heap; rw [ht99]; exact hP⟩, hS.F ht99⟩) hS.2.2 dX4_mostOf_22

abbrev rm_X4_countBounds : Room := { frames := 1, cells := 0, slots := 0, locals := 21 }
set_option maxHeartbeats 4000000 in
set_option maxRecDepth 100000 in
theorem c_X4_countBounds (l : Launch) (G : GG) (B : Nat) (μ : mp) (h bn nn la s9 lo eb : Nat) (nf : List Value) (f g : Nat → Int64) (w9 : Nat → Int32) (hh : μ h = some (.inr (4, [.ref bn, .ref nn, .ref la, .int (nI eb)]))) (hbn : μ bn = some (.inr (0, [.ref nn, .ref s9, .ref lo]))) (hnn : μ nn = some (.inr (3, nf))) (ha : μ la = some (.inl (G.2 0, 78, .inr (.inl f)))) (hs9 : μ s9 = some (.inl (G.2 0, 13, .inr (.inl g)))) (hlo : μ lo = some (.inl (G.2 2, 78, .inl w9))) (hI : ∀ p q, p < 12 → q < 12 → q ≠ ne p → f (ix p q) = INF) : Met l yX4_countBounds wsX4_countBounds rm_X4_countBounds (va_Pc [.ref h] (KW G B μ)) (va_Qi (fun r μ2 => μ2 = μ ∧ r = 0) (BB G B) (fun q => B ≤ q)) 0 0 (fun q => B ≤ q) := by
  refine Met.ofW (cc := cX4_countBounds) (maxL := 4) (ret := (some .int)) (by decide) rfl ?_
  intro p e s m args below meth c s₁ B9 hml hv
  obtain ⟨hargs, hBs, hP, hKK⟩ := hv
  have hx := B9.exec
  have hb := B9.bytes
  have hr := B9.returns
  have hts := atoms_spec (ws := wsX4_countBounds) B9.pre
  have hown : s.vm.findClass RX4 = some m.cls := findClass_of_methodNamed B9.named
  have hlocks := B9.notSynchronized
  have hK := hKK.k
  have hS : va_S (fun q => B ≤ q) s.heap s.heap [] := va_S.rf
  obtain ⟨Q, hQ⟩ : ∃ Q, Q = MQ below (va_Qi (fun r μ2 => μ2 = μ ∧ r = 0) (BB G B) (fun q => B ≤ q)) args s 0 0 (fun q => B ≤ q) := ⟨_, rfl⟩
  rw [← hQ]
  have ne0_1 : h ≠ bn := mp_ne hh hbn (by simp)
  have ne0_2 : h ≠ nn := mp_ne hh hnn (by simp)
  have ne0_3 : h ≠ la := mp_ne hh ha (by simp)
  have ne0_4 : h ≠ s9 := mp_ne hh hs9 (by simp)
  have ne0_5 : h ≠ lo := mp_ne hh hlo (by simp)
  have ne1_2 : bn ≠ nn := mp_ne hbn hnn (by simp)
  have ne1_3 : bn ≠ la := mp_ne hbn ha (by simp)
  have ne1_4 : bn ≠ s9 := mp_ne hbn hs9 (by simp)
  have ne1_5 : bn ≠ lo := mp_ne hbn hlo (by simp)
  have ne2_3 : nn ≠ la := mp_ne hnn ha (by simp)
  have ne2_4 : nn ≠ s9 := mp_ne hnn hs9 (by simp)
  have ne2_5 : nn ≠ lo := mp_ne hnn hlo (by simp)
  have in_X4_countBounds_X4 : ∀ w ∈ wsX40, w ∈ wsX4_countBounds := by decide +kernel
  have L4 : ∀ (N4 : Nat) (p1 : Nat) (hN4 : 12 - p1 < N4) (hp : p1 ≤ 12), ∀ (H : Heap) (locs : List Loc), mw G.1 vwCl B (μ) H → va_S (fun q => B ≤ q) s.heap H locs → ∀ ls : Array Slot, lv_has ls 4 [(0, .ref h), (1, .int (nI 0)), (2, .int (nI p1))] → W p l e rm_X4_countBounds s m args below meth c H locs 0 0 Q (F0 m 4 ls []) := by
    intro N4
    induction N4 with
    | zero => intro p1 hN4; exact absurd hN4 (Nat.not_lt_zero _)
    | succ N4 ih4 =>
      intro p1 hN4 hp H locs hP hS ls hl
      have L12 : ∀ (N12 : Nat) (q1 : Nat) (hN12 : 12 - q1 < N12) (hpo : p1 < 12) (hq : q1 ≤ 12), ∀ (H : Heap) (locs : List Loc), mw G.1 vwCl B (μ) H → va_S (fun q => B ≤ q) s.heap H locs → ∀ ls : Array Slot, lv_has ls 4 [(0, .ref h), (1, .int (nI 0)), (2, .int (nI p1)), (3, .int (nI q1))] → W p l e rm_X4_countBounds s m args below meth c H locs 0 0 Q (F0 m 12 ls []) := by
        intro N12
        induction N12 with
        | zero => intro q1 hN12; exact absurd hN12 (Nat.not_lt_zero _)
        | succ N12 ih12 =>
          intro q1 hN12 hpo hq H locs hP hS ls hl
          refine lv_iload_n hx hb dX4_countBounds_12 rfl (lv_at hl 3 rfl) ?_
          refine lv_bipush (v := nI 12) hx hb dX4_countBounds_13 (by decide) ?_
          refine nv_icmp_ge (tgt := 52) hx hb (by omega) (by omega) dX4_countBounds_15 (by decide) (fun hc15 => ?_) (fun hc15 => ?_)
          · refine lv_iinc (v := nI (p1 + 1)) (lv' := [(2, .int (nI (p1 + 1))), (0, .ref h), (1, .int (nI 0)), (3, .int (nI q1))]) hx hb dX4_countBounds_52 hl (k := 2) rfl (nI_add _ _) (by decide) rfl (fun ls hl => ?_)
            refine lv_goto (tgt := 4) hx hb dX4_countBounds_55 (by decide) ?_
            exact ih4 (p1 + 1) (by omega) (by omega) _ _ hP hS ls (lv_sub hl [1, 2, 0] rfl)
          · refine lv_iload_n hx hb dX4_countBounds_18 rfl (lv_at hl 3 rfl) ?_
            refine lv_iload_n hx hb dX4_countBounds_19 rfl (lv_at hl 2 rfl) ?_
            refine kc_i (va_runSN (As := [.int (nI p1)]) (rest := [.int (nI q1)]) ⟨hx, hb, hml, hown, hts⟩ (c_X6_negation l G B (μ) p1 (by omega)) ⟨va_cnB 1 hts gX4_countBounds_X6_negation_n70 rfl rfl rfl hKK.2.1.1 (hts (.initialized RX6) (by decide +kernel)) (by decide +kernel) ⟨Nat.le_of_ble_eq_true rfl, Nat.le_of_ble_eq_true rfl⟩, hts (.static yX6_negation) (by decide +kernel), trivial⟩ ⟨KW.blind, fun U9 hU9 hW9 => ⟨rfl, KW.pre hBs hKK hS hP U9 hU9 hW9⟩⟩ rfl rfl hl.1 rfl (lv_room (Nat.le_of_ble_eq_true rfl)) dX4_countBounds_20 ⟨(Nat.le_of_ble_eq_true rfl), (Nat.le_of_ble_eq_true rfl)⟩) hS (fun r20 m20 H locs hq9 hP hz9 hS => ?_)
            obtain ⟨he9, rfl⟩ := hq9
            rw [he9] at hP
            have hne20 := ne_lt (p := p1) (by omega)
            refine nv_icmp_eq (tgt := 46) hx hb (by omega) (by omega) dX4_countBounds_23 (by decide) (fun hc23 => ?_) (fun hc23 => ?_)
            · refine lv_iinc (v := nI (q1 + 1)) (lv' := [(3, .int (nI (q1 + 1))), (0, .ref h), (1, .int (nI 0)), (2, .int (nI p1))]) hx hb dX4_countBounds_46 hl (k := 3) rfl (nI_add _ _) (by decide) rfl (fun ls hl => ?_)
              refine lv_goto (tgt := 12) hx hb dX4_countBounds_49 (by decide) ?_
              exact ih12 (q1 + 1) (by omega) (by omega) (by omega) _ _ hP hS ls (lv_sub hl [1, 2, 3, 0] rfl)
            · refine lv_aload_n hx hb dX4_countBounds_26 rfl (lv_at hl 0 rfl) ?_
              refine mw_get (C := RX4) (T := TX4) (N := 4) hx hb hts in_X4_countBounds_X4 hown hK hP (hh) rfl 2 (by decide) (hts (.fieldLink RX4 22 "OctagonDesk$Shape" "cells" "[J") (by decide +kernel)) (fun _ h9 => h9) rfl dX4_countBounds_27 ?_
              refine lv_iload_n hx hb dX4_countBounds_30 rfl (lv_at hl 2 rfl) ?_
              refine lv_iload_n hx hb dX4_countBounds_31 rfl (lv_at hl 3 rfl) ?_
              refine kc_i (va_runS (As := [.int (nI p1), .int (nI q1)]) (rest := [.ref la]) ⟨hx, hb, hml, hown, hts⟩ (c_X4_cell l G B (μ) p1 q1 (by omega) (by omega)) (va_cwS 2 hts gX4_countBounds_X4_cell rfl rfl rfl (by decide +kernel) ⟨Nat.le_of_ble_eq_true rfl, Nat.le_of_ble_eq_true rfl⟩) ⟨KW.blind, fun U9 hU9 hW9 => ⟨rfl, KW.pre hBs hKK hS hP U9 hU9 hW9⟩⟩ rfl rfl hl.1 rfl (lv_room (Nat.le_of_ble_eq_true rfl)) dX4_countBounds_32 ⟨(Nat.le_of_ble_eq_true rfl), (Nat.le_of_ble_eq_true rfl)⟩) hS (fun r32 m32 H locs hq9 hP hz9 hS => ?_)
              obtain ⟨he9, rfl⟩ := hq9
              rw [he9] at hP
              have hix32 := ix_lt (p := p1) (q := q1) (by omega) (by omega)
              refine mw_lald hx hb hK hP 0 (ha) rfl (by omega) (by omega) dX4_countBounds_35 ?_
              refine lv_ldc2 (v := (9223372036854775807)) hx hb hown (hts (.constantLong RX4 74 (9223372036854775807)) (by decide +kernel)) dX4_countBounds_36 ?_
              refine nl_if_eq (tgt := 46) hx hb dX4_countBounds_39 dX4_countBounds_40 (by decide) (fun hc39 => ?_) (fun hc39 => ?_)
              · refine lv_iinc (v := nI (q1 + 1)) (lv' := [(3, .int (nI (q1 + 1))), (0, .ref h), (1, .int (nI 0)), (2, .int (nI p1))]) hx hb dX4_countBounds_46 hl (k := 3) rfl (nI_add _ _) (by decide) rfl (fun ls hl => ?_)
                refine lv_goto (tgt := 12) hx hb dX4_countBounds_49 (by decide) ?_
                exact ih12 (q1 + 1) (by omega) (by omega) (by omega) _ _ hP hS ls (lv_sub hl [1, 2, 3, 0] rfl)
              · exact absurd (hI p1 q1 (by omega) (by omega) hc23) hc39
      refine lv_iload_n hx hb dX4_countBounds_4 rfl (lv_at hl 2 rfl) ?_
      refine lv_bipush (v := nI 12) hx hb dX4_countBounds_5 (by decide) ?_
      refine nv_icmp_ge (tgt := 58) hx hb (by omega) (by omega) dX4_countBounds_7 (by decide) (fun hc7 => ?_) (fun hc7 => ?_)
      · refine lv_iload_n hx hb dX4_countBounds_58 rfl (lv_at hl 1 rfl) ?_
        rw [hQ]
        exact W.iret (v := nI 0) hx hb hr (fun t99 ht99 hW99 => ⟨⟨nI 0, μ, rfl, (⟨rfl, rfl⟩), by show mw _ _ _ _ t99.heap; rw [ht99]; exact hP⟩, hS.F ht99⟩) hS.2.2 dX4_countBounds_59
      · refine lv_iload_n hx hb dX4_countBounds_10 rfl (lv_at hl 2 rfl) ?_
        refine lv_istore_n (lv' := [(3, .int (nI p1)), (0, .ref h), (1, .int (nI 0)), (2, .int (nI p1))]) hx hb dX4_countBounds_11 rfl hl (by decide) rfl (fun ls hl => ?_)
        exact L12 _ p1 (Nat.lt_succ_self _) (by omega) (by omega) _ _ hP hS ls (lv_sub hl [1, 2, 3, 0] rfl)
  have hl := lv_entry ([.ref h]) (n := 4) (Nat.le_of_ble_eq_true rfl)
  have he9 : entryFrame m args 4 = entryFrame m ([.ref h] : List Value).toArray 4 := by rw [hargs]
  rw [he9, lg_entry_eq]
  generalize (lg_sl ([.ref h]) ++ List.replicate (4 - (lg_sl ([.ref h])).length) Slot.unset).toArray = ls at hl ⊢
  have hl : lv_has ls 4 [(0, .ref h)] := hl
  refine lv_iconst (v := nI 0) hx hb dX4_countBounds_0 (by decide) ?_
  refine lv_istore_n (lv' := [(1, .int (nI 0)), (0, .ref h)]) hx hb dX4_countBounds_1 rfl hl (by decide) rfl (fun ls hl => ?_)
  refine lv_iconst (v := nI 0) hx hb dX4_countBounds_2 (by decide) ?_
  refine lv_istore_n (lv' := [(2, .int (nI 0)), (1, .int (nI 0)), (0, .ref h)]) hx hb dX4_countBounds_3 rfl hl (by decide) rfl (fun ls hl => ?_)
  exact L4 _ 0 (Nat.lt_succ_self _) (by omega) _ _ hP hS ls (lv_sub hl [2, 1, 0] rfl)

abbrev rm_X4_settle : Room := { frames := 5, cells := 0, slots := 0, locals := 119 }
set_option maxHeartbeats 4000000 in
set_option maxRecDepth 100000 in
theorem c_X4_settle (l : Launch) (G : GG) (B : Nat) (μ : mp) (h bn nn la s9 lo : Nat) (nf : List Value) (f g : Nat → Int64) (w9 : Nat → Int32) (i : Nat) (hh : μ h = some (.inr (4, [.ref bn, .ref nn, .ref la, .int (nI 0)]))) (hbn : μ bn = some (.inr (0, [.ref nn, .ref s9, .ref lo]))) (hnn : μ nn = some (.inr (3, nf))) (ha : μ la = some (.inl (G.2 0, 78, .inr (.inl f)))) (hs9 : μ s9 = some (.inl (G.2 0, 13, .inr (.inl g)))) (hlo : μ lo = some (.inl (G.2 2, 78, .inl w9))) (hi6 : i < 6) (hZ : Za f) (hSn : Sn g) : Met l yX4_settle wsX4_settle rm_X4_settle (va_Pc [.ref h, .int (nI i)] (KW G B μ)) (va_Qv (fun μ2 => ∃ f9 g9 : Nat → Int64, μ2 = mu (mu μ la (.inl (G.2 0, 78, .inr (.inl f9)))) s9 (.inl (G.2 0, 13, .inr (.inl g9))) ∧ Za f9 ∧ Sn g9 ∧ f9 (ix (2 * i) (2 * i)) = 0) (BB G B) (fun q => B ≤ q)) 0 0 (fun q => B ≤ q) := by
  refine Met.ofW (cc := cX4_settle) (maxL := 4) (ret := none) (by decide) rfl ?_
  intro p e s m args below meth c s₁ B9 hml hv
  obtain ⟨hargs, hBs, hP, hKK⟩ := hv
  have hx := B9.exec
  have hb := B9.bytes
  have hr := B9.returns
  have hts := atoms_spec (ws := wsX4_settle) B9.pre
  have hown : s.vm.findClass RX4 = some m.cls := findClass_of_methodNamed B9.named
  have hlocks := B9.notSynchronized
  have hK := hKK.k
  have hS : va_S (fun q => B ≤ q) s.heap s.heap [] := va_S.rf
  obtain ⟨Q, hQ⟩ : ∃ Q, Q = MQ below (va_Qv (fun μ2 => ∃ f9 g9 : Nat → Int64, μ2 = mu (mu μ la (.inl (G.2 0, 78, .inr (.inl f9)))) s9 (.inl (G.2 0, 13, .inr (.inl g9))) ∧ Za f9 ∧ Sn g9 ∧ f9 (ix (2 * i) (2 * i)) = 0) (BB G B) (fun q => B ≤ q)) args s 0 0 (fun q => B ≤ q) := ⟨_, rfl⟩
  rw [← hQ]
  have ne0_1 : h ≠ bn := mp_ne hh hbn (by simp)
  have ne0_2 : h ≠ nn := mp_ne hh hnn (by simp)
  have ne0_3 : h ≠ la := mp_ne hh ha (by simp)
  have ne0_4 : h ≠ s9 := mp_ne hh hs9 (by simp)
  have ne0_5 : h ≠ lo := mp_ne hh hlo (by simp)
  have ne1_2 : bn ≠ nn := mp_ne hbn hnn (by simp)
  have ne1_3 : bn ≠ la := mp_ne hbn ha (by simp)
  have ne1_4 : bn ≠ s9 := mp_ne hbn hs9 (by simp)
  have ne1_5 : bn ≠ lo := mp_ne hbn hlo (by simp)
  have ne2_3 : nn ≠ la := mp_ne hnn ha (by simp)
  have ne2_4 : nn ≠ s9 := mp_ne hnn hs9 (by simp)
  have ne2_5 : nn ≠ lo := mp_ne hnn hlo (by simp)
  have in_X4_settle_X4 : ∀ w ∈ wsX40, w ∈ wsX4_settle := by decide +kernel
  have hP : mw G.1 vwCl B (mu (mu μ la (.inl (G.2 0, 78, .inr (.inl f)))) s9 (.inl (G.2 0, 13, .inr (.inl g)))) s.heap := mw_eq ((congrArg (fun z => mu z s9 (.inl (G.2 0, 13, .inr (.inl g)))) (mu_i ha)).trans (mu_i hs9)).symm hP
  have L70 : ∀ (g1 : Nat → Int64) (s1 : Nat → Int64) (hz1 : Za g1) (hs1 : Sn s1) (hUD : g1 (ix (2 * i + 1) (2 * i + 1)) = INF → g1 (ix (2 * i) (2 * i)) = 0), ∀ (H : Heap) (locs : List Loc), mw G.1 vwCl B (mu (mu μ la (.inl (G.2 0, 78, .inr (.inl g1)))) s9 (.inl (G.2 0, 13, .inr (.inl s1)))) H → va_S (fun q => B ≤ q) s.heap H locs → ∀ ls : Array Slot, lv_has ls 4 [(0, .ref h), (1, .int (nI i)), (2, .int (nI (ix (2 * i) (2 * i)))), (3, .int (nI (ix (2 * i + 1) (2 * i + 1))))] → W p l e rm_X4_settle s m args below meth c H locs 0 0 Q (F0 m 70 ls []) := by
    intro g1 s1 hz1 hs1 hUD H locs hP hS ls hl
    have hix6 := ix_lt (p := 2 * i) (q := 2 * i) (by omega) (by omega)
    have hix20 := ix_lt (p := 2 * i + 1) (q := 2 * i + 1) (by omega) (by omega)
    refine lv_aload_n hx hb dX4_settle_70 rfl (lv_at hl 0 rfl) ?_
    refine mw_get (C := RX4) (T := TX4) (N := 4) hx hb hts in_X4_settle_X4 hown hK hP ((mu_n ne0_4).trans ((mu_n ne0_3).trans (hh))) rfl 2 (by decide) (hts (.fieldLink RX4 22 "OctagonDesk$Shape" "cells" "[J") (by decide +kernel)) (fun _ h9 => h9) rfl dX4_settle_71 ?_
    refine lv_iload_n hx hb dX4_settle_74 rfl (lv_at hl 3 rfl) ?_
    refine mw_lald hx hb hK hP 0 ((mu_n ((mp_ne ha hs9 (by simp)))).trans (mu_s _ _ _)) rfl (by omega) (by omega) dX4_settle_75 ?_
    refine lv_ldc2 (v := (9223372036854775807)) hx hb hown (hts (.constantLong RX4 74 (9223372036854775807)) (by decide +kernel)) dX4_settle_76 ?_
    refine nl_if_ne (tgt := 122) hx hb dX4_settle_79 dX4_settle_80 (by decide) (fun hc79 => ?_) (fun hc79 => ?_)
    · refine lv_aload_n hx hb dX4_settle_122 rfl (lv_at hl 0 rfl) ?_
      refine mw_get (C := RX4) (T := TX4) (N := 4) hx hb hts in_X4_settle_X4 hown hK hP ((mu_n ne0_4).trans ((mu_n ne0_3).trans (hh))) rfl 0 (by decide) (hts (.fieldLink RX4 9 "OctagonDesk$Shape" "bench" "LOctagonDesk$Bench;") (by decide +kernel)) (fun _ h9 => h9) rfl dX4_settle_123 ?_
      refine lv_bipush (v := nI 12) hx hb dX4_settle_126 (by decide) ?_
      refine lv_aload_n hx hb dX4_settle_128 rfl (lv_at hl 0 rfl) ?_
      refine mw_get (C := RX4) (T := TX4) (N := 4) hx hb hts in_X4_settle_X4 hown hK hP ((mu_n ne0_4).trans ((mu_n ne0_3).trans (hh))) rfl 1 (by decide) (hts (.fieldLink RX4 21 "OctagonDesk$Shape" "numbers" "LOctagonDesk$Numbers;") (by decide +kernel)) (fun _ h9 => h9) rfl dX4_settle_129 ?_
      refine lv_aload_n hx hb dX4_settle_132 rfl (lv_at hl 0 rfl) ?_
      refine mw_get (C := RX4) (T := TX4) (N := 4) hx hb hts in_X4_settle_X4 hown hK hP ((mu_n ne0_4).trans ((mu_n ne0_3).trans (hh))) rfl 2 (by decide) (hts (.fieldLink RX4 22 "OctagonDesk$Shape" "cells" "[J") (by decide +kernel)) (fun _ h9 => h9) rfl dX4_settle_133 ?_
      refine lv_iload_n hx hb dX4_settle_136 rfl (lv_at hl 3 rfl) ?_
      refine mw_lald hx hb hK hP 0 ((mu_n ((mp_ne ha hs9 (by simp)))).trans (mu_s _ _ _)) rfl (by omega) (by omega) dX4_settle_137 ?_
      refine kc_l (va_runV (As := [.long (g1 (ix (2 * i + 1) (2 * i + 1)))]) (rest := [.int (nI 12), .ref bn]) ⟨hx, hb, hml, hown, hts⟩ (c_X3_negative l G B (mu (mu μ la (.inl (G.2 0, 78, .inr (.inl g1)))) s9 (.inl (G.2 0, 13, .inr (.inl s1)))) nn nf (g1 (ix (2 * i + 1) (2 * i + 1))) ((mu_n ne2_4).trans ((mu_n ne2_3).trans (hnn))) (Pn.of (hz1 _ (by omega)))) (cwV 1 hts gX4_settle_X3_negative rfl rfl rfl (by decide +kernel) ⟨Nat.le_of_ble_eq_true rfl, Nat.le_of_ble_eq_true rfl⟩) ⟨KW.blind, hP.recv hK rfl ((mu_n ne2_4).trans ((mu_n ne2_3).trans (hnn))), fun U9 hU9 hW9 => ⟨rfl, KW.pre hBs hKK hS hP U9 hU9 hW9⟩⟩ rfl rfl hl.1 rfl (lv_room (Nat.le_of_ble_eq_true rfl)) dX4_settle_138 ⟨(Nat.le_of_ble_eq_true rfl), (Nat.le_of_ble_eq_true rfl)⟩) hS (fun r138 m138 H locs hq9 hP hz9 hS => ?_)
      obtain ⟨he9, hr138⟩ := hq9
      rw [he9] at hP
      refine kc_v (va_runV (As := [.int (nI 12), .long r138]) (rest := []) ⟨hx, hb, hml, hown, hts⟩ (c_X0_note l G B (mu (mu μ la (.inl (G.2 0, 78, .inr (.inl g1)))) s9 (.inl (G.2 0, 13, .inr (.inl s1)))) bn nn s9 lo nf s1 12 r138 ((mu_n ne1_4).trans ((mu_n ne1_3).trans (hbn))) ((mu_n ne2_4).trans ((mu_n ne2_3).trans (hnn))) (mu_s _ _ _) (by omega) (Pn.ng (hs1 _ (by omega))) (Pn.ng (Pn.of (by rw [hr138]; exact ng_z (hz1 _ (by omega)))))) (cwV 2 hts gX4_settle_X0_note rfl rfl rfl (by decide +kernel) ⟨Nat.le_of_ble_eq_true rfl, Nat.le_of_ble_eq_true rfl⟩) ⟨KW.blind, hP.recv hK rfl ((mu_n ne1_4).trans ((mu_n ne1_3).trans (hbn))), fun U9 hU9 hW9 => ⟨rfl, KW.pre hBs hKK hS hP U9 hU9 hW9⟩⟩ rfl rfl hl.1 rfl (lv_room (Nat.le_of_ble_eq_true rfl)) dX4_settle_141 ⟨(Nat.le_of_ble_eq_true rfl), (Nat.le_of_ble_eq_true rfl)⟩) hS (fun m141 H locs hq9 hP hz9 hS => ?_)
      rw [hq9] at hP
      have hP : mw G.1 vwCl B (mu (mu μ la (.inl (G.2 0, 78, .inr (.inl g1)))) s9 (.inl (G.2 0, 13, .inr (.inl (vp_updL s1 12 r138))))) _ := mw_eq (mu_u _ _ _ _) hP
      refine lv_aload_n hx hb dX4_settle_144 rfl (lv_at hl 0 rfl) ?_
      refine lv_iconst (v := nI 2) hx hb dX4_settle_145 (by decide) ?_
      refine lv_iload_n hx hb dX4_settle_146 rfl (lv_at hl 1 rfl) ?_
      refine nv_imul hx hb dX4_settle_147 ?_
      refine lv_iconst (v := nI 2) hx hb dX4_settle_148 (by decide) ?_
      refine lv_iload_n hx hb dX4_settle_149 rfl (lv_at hl 1 rfl) ?_
      refine nv_imul hx hb dX4_settle_150 ?_
      refine kc_v (va_runV (As := [.int (nI (2 * i)), .int (nI (2 * i))]) (rest := []) ⟨hx, hb, hml, hown, hts⟩ (c_X4_holdToSpare l G B (mu (mu μ la (.inl (G.2 0, 78, .inr (.inl g1)))) s9 (.inl (G.2 0, 13, .inr (.inl (vp_updL s1 12 r138))))) h bn nn la s9 lo nf g1 (vp_updL s1 12 r138) w9 (2 * i) (2 * i) ((mu_n ne0_4).trans ((mu_n ne0_3).trans (hh))) ((mu_n ne1_4).trans ((mu_n ne1_3).trans (hbn))) ((mu_n ne2_4).trans ((mu_n ne2_3).trans (hnn))) ((mu_n ((mp_ne ha hs9 (by simp)))).trans (mu_s _ _ _)) (mu_s _ _ _) ((mu_n ((mp_ne hlo hs9 (by simp)))).trans ((mu_n ((mp_ne hlo ha (by simp)))).trans (hlo))) (by omega) (by omega) ((Or.inl hz1 : Ok g1)) ((hs1.upd (Pn.of (by rw [hr138]; exact ng_z (hz1 _ (by omega)))))) (fun _ => Or.inl (hz1.upd (by rw [up12, hr138]; exact ng_z (hz1 _ (by omega)))))) (cwV 2 hts gX4_settle_X4_holdToSpare rfl rfl rfl (by decide +kernel) ⟨Nat.le_of_ble_eq_true rfl, Nat.le_of_ble_eq_true rfl⟩) ⟨KW.blind, hP.recv hK rfl ((mu_n ne0_4).trans ((mu_n ne0_3).trans (hh))), fun U9 hU9 hW9 => ⟨rfl, KW.pre hBs hKK hS hP U9 hU9 hW9⟩⟩ rfl rfl hl.1 rfl (lv_room (Nat.le_of_ble_eq_true rfl)) dX4_settle_151 ⟨(Nat.le_of_ble_eq_true rfl), (Nat.le_of_ble_eq_true rfl)⟩) hS (fun m151 H locs hq9 hP hz9 hS => ?_)
      obtain ⟨f151, g151, rfl, hH151, hN151⟩ := hq9
      have hP : mw G.1 vwCl B (mu (mu μ la (.inl (G.2 0, 78, .inr (.inl f151)))) s9 (.inl (G.2 0, 13, .inr (.inl g151)))) _ := mw_eq ((congrArg (fun z => mu z s9 (.inl (G.2 0, 13, .inr (.inl g151)))) ((mu_c _ _ ((mp_ne hs9 ha (by simp)))).trans (congrArg (fun z => mu z s9 (.inl (G.2 0, 13, .inr (.inl (vp_updL s1 12 r138))))) (mu_u _ _ _ _)))).trans (mu_u _ _ _ _)) hP
      have hq151 := hH151.za (by omega) (by omega) hz1 (by rw [up12]; rw [hr138]; exact ng_z (hz1 _ (by omega)))
      rw [hQ]
      exact W.vret hx hb hr (fun t99 ht99 hW99 => ⟨⟨mu (mu μ la (.inl (G.2 0, 78, .inr (.inl f151)))) s9 (.inl (G.2 0, 13, .inr (.inl g151))), rfl, (⟨_, _, rfl, hq151.1, hN151, hq151.2.2 (by rw [up12, hr138, (hz1 _ (by omega)).resolve_left hc79]; decide)⟩), by show mw _ _ _ _ t99.heap; rw [ht99]; exact hP⟩, hS.F ht99⟩) hS.2.2 dX4_settle_154
    · refine lv_aload_n hx hb dX4_settle_83 rfl (lv_at hl 0 rfl) ?_
      refine mw_get (C := RX4) (T := TX4) (N := 4) hx hb hts in_X4_settle_X4 hown hK hP ((mu_n ne0_4).trans ((mu_n ne0_3).trans (hh))) rfl 0 (by decide) (hts (.fieldLink RX4 9 "OctagonDesk$Shape" "bench" "LOctagonDesk$Bench;") (by decide +kernel)) (fun _ h9 => h9) rfl dX4_settle_84 ?_
      refine lv_bipush (v := nI 12) hx hb dX4_settle_87 (by decide) ?_
      refine lv_aload_n hx hb dX4_settle_89 rfl (lv_at hl 0 rfl) ?_
      refine mw_get (C := RX4) (T := TX4) (N := 4) hx hb hts in_X4_settle_X4 hown hK hP ((mu_n ne0_4).trans ((mu_n ne0_3).trans (hh))) rfl 1 (by decide) (hts (.fieldLink RX4 21 "OctagonDesk$Shape" "numbers" "LOctagonDesk$Numbers;") (by decide +kernel)) (fun _ h9 => h9) rfl dX4_settle_90 ?_
      refine lv_aload_n hx hb dX4_settle_93 rfl (lv_at hl 0 rfl) ?_
      refine mw_get (C := RX4) (T := TX4) (N := 4) hx hb hts in_X4_settle_X4 hown hK hP ((mu_n ne0_4).trans ((mu_n ne0_3).trans (hh))) rfl 2 (by decide) (hts (.fieldLink RX4 22 "OctagonDesk$Shape" "cells" "[J") (by decide +kernel)) (fun _ h9 => h9) rfl dX4_settle_94 ?_
      refine lv_iload_n hx hb dX4_settle_97 rfl (lv_at hl 2 rfl) ?_
      refine mw_lald hx hb hK hP 0 ((mu_n ((mp_ne ha hs9 (by simp)))).trans (mu_s _ _ _)) rfl (by omega) (by omega) dX4_settle_98 ?_
      refine kc_l (va_runV (As := [.long (g1 (ix (2 * i) (2 * i)))]) (rest := [.int (nI 12), .ref bn]) ⟨hx, hb, hml, hown, hts⟩ (c_X3_negative l G B (mu (mu μ la (.inl (G.2 0, 78, .inr (.inl g1)))) s9 (.inl (G.2 0, 13, .inr (.inl s1)))) nn nf (g1 (ix (2 * i) (2 * i))) ((mu_n ne2_4).trans ((mu_n ne2_3).trans (hnn))) (Pn.of (hz1 _ (by omega)))) (cwV 1 hts gX4_settle_X3_negative rfl rfl rfl (by decide +kernel) ⟨Nat.le_of_ble_eq_true rfl, Nat.le_of_ble_eq_true rfl⟩) ⟨KW.blind, hP.recv hK rfl ((mu_n ne2_4).trans ((mu_n ne2_3).trans (hnn))), fun U9 hU9 hW9 => ⟨rfl, KW.pre hBs hKK hS hP U9 hU9 hW9⟩⟩ rfl rfl hl.1 rfl (lv_room (Nat.le_of_ble_eq_true rfl)) dX4_settle_99 ⟨(Nat.le_of_ble_eq_true rfl), (Nat.le_of_ble_eq_true rfl)⟩) hS (fun r99 m99 H locs hq9 hP hz9 hS => ?_)
      obtain ⟨he9, hr99⟩ := hq9
      rw [he9] at hP
      refine kc_v (va_runV (As := [.int (nI 12), .long r99]) (rest := []) ⟨hx, hb, hml, hown, hts⟩ (c_X0_note l G B (mu (mu μ la (.inl (G.2 0, 78, .inr (.inl g1)))) s9 (.inl (G.2 0, 13, .inr (.inl s1)))) bn nn s9 lo nf s1 12 r99 ((mu_n ne1_4).trans ((mu_n ne1_3).trans (hbn))) ((mu_n ne2_4).trans ((mu_n ne2_3).trans (hnn))) (mu_s _ _ _) (by omega) (Pn.ng (hs1 _ (by omega))) (Pn.ng (Pn.of (by rw [hr99]; exact ng_z (hz1 _ (by omega)))))) (cwV 2 hts gX4_settle_X0_note rfl rfl rfl (by decide +kernel) ⟨Nat.le_of_ble_eq_true rfl, Nat.le_of_ble_eq_true rfl⟩) ⟨KW.blind, hP.recv hK rfl ((mu_n ne1_4).trans ((mu_n ne1_3).trans (hbn))), fun U9 hU9 hW9 => ⟨rfl, KW.pre hBs hKK hS hP U9 hU9 hW9⟩⟩ rfl rfl hl.1 rfl (lv_room (Nat.le_of_ble_eq_true rfl)) dX4_settle_102 ⟨(Nat.le_of_ble_eq_true rfl), (Nat.le_of_ble_eq_true rfl)⟩) hS (fun m102 H locs hq9 hP hz9 hS => ?_)
      rw [hq9] at hP
      have hP : mw G.1 vwCl B (mu (mu μ la (.inl (G.2 0, 78, .inr (.inl g1)))) s9 (.inl (G.2 0, 13, .inr (.inl (vp_updL s1 12 r99))))) _ := mw_eq (mu_u _ _ _ _) hP
      refine lv_aload_n hx hb dX4_settle_105 rfl (lv_at hl 0 rfl) ?_
      refine lv_iconst (v := nI 2) hx hb dX4_settle_106 (by decide) ?_
      refine lv_iload_n hx hb dX4_settle_107 rfl (lv_at hl 1 rfl) ?_
      refine nv_imul hx hb dX4_settle_108 ?_
      refine lv_iconst (v := nI 1) hx hb dX4_settle_109 (by decide) ?_
      refine nv_iadd hx hb dX4_settle_110 ?_
      refine lv_iconst (v := nI 2) hx hb dX4_settle_111 (by decide) ?_
      refine lv_iload_n hx hb dX4_settle_112 rfl (lv_at hl 1 rfl) ?_
      refine nv_imul hx hb dX4_settle_113 ?_
      refine lv_iconst (v := nI 1) hx hb dX4_settle_114 (by decide) ?_
      refine nv_iadd hx hb dX4_settle_115 ?_
      refine kc_v (va_runV (As := [.int (nI ((2 * i) + 1)), .int (nI ((2 * i) + 1))]) (rest := []) ⟨hx, hb, hml, hown, hts⟩ (c_X4_holdToSpare l G B (mu (mu μ la (.inl (G.2 0, 78, .inr (.inl g1)))) s9 (.inl (G.2 0, 13, .inr (.inl (vp_updL s1 12 r99))))) h bn nn la s9 lo nf g1 (vp_updL s1 12 r99) w9 ((2 * i) + 1) ((2 * i) + 1) ((mu_n ne0_4).trans ((mu_n ne0_3).trans (hh))) ((mu_n ne1_4).trans ((mu_n ne1_3).trans (hbn))) ((mu_n ne2_4).trans ((mu_n ne2_3).trans (hnn))) ((mu_n ((mp_ne ha hs9 (by simp)))).trans (mu_s _ _ _)) (mu_s _ _ _) ((mu_n ((mp_ne hlo hs9 (by simp)))).trans ((mu_n ((mp_ne hlo ha (by simp)))).trans (hlo))) (by omega) (by omega) ((Or.inl hz1 : Ok g1)) ((hs1.upd (Pn.of (by rw [hr99]; exact ng_z (hz1 _ (by omega)))))) (fun _ => Or.inl (hz1.upd (by rw [up12, hr99]; exact ng_z (hz1 _ (by omega)))))) (cwV 2 hts gX4_settle_X4_holdToSpare rfl rfl rfl (by decide +kernel) ⟨Nat.le_of_ble_eq_true rfl, Nat.le_of_ble_eq_true rfl⟩) ⟨KW.blind, hP.recv hK rfl ((mu_n ne0_4).trans ((mu_n ne0_3).trans (hh))), fun U9 hU9 hW9 => ⟨rfl, KW.pre hBs hKK hS hP U9 hU9 hW9⟩⟩ rfl rfl hl.1 rfl (lv_room (Nat.le_of_ble_eq_true rfl)) dX4_settle_116 ⟨(Nat.le_of_ble_eq_true rfl), (Nat.le_of_ble_eq_true rfl)⟩) hS (fun m116 H locs hq9 hP hz9 hS => ?_)
      obtain ⟨f116, g116, rfl, hH116, hN116⟩ := hq9
      have hP : mw G.1 vwCl B (mu (mu μ la (.inl (G.2 0, 78, .inr (.inl f116)))) s9 (.inl (G.2 0, 13, .inr (.inl g116)))) _ := mw_eq ((congrArg (fun z => mu z s9 (.inl (G.2 0, 13, .inr (.inl g116)))) ((mu_c _ _ ((mp_ne hs9 ha (by simp)))).trans (congrArg (fun z => mu z s9 (.inl (G.2 0, 13, .inr (.inl (vp_updL s1 12 r99))))) (mu_u _ _ _ _)))).trans (mu_u _ _ _ _)) hP
      have hq116 := hH116.za (by omega) (by omega) hz1 (by rw [up12]; rw [hr99]; exact ng_z (hz1 _ (by omega)))
      refine lv_goto (tgt := 154) hx hb dX4_settle_119 (by decide) ?_
      rw [hQ]
      exact W.vret hx hb hr (fun t99 ht99 hW99 => ⟨⟨mu (mu μ la (.inl (G.2 0, 78, .inr (.inl f116)))) s9 (.inl (G.2 0, 13, .inr (.inl g116))), rfl, (⟨_, _, rfl, hq116.1, hN116, hq116.2.1 _ (by omega) (hUD hc79)⟩), by show mw _ _ _ _ t99.heap; rw [ht99]; exact hP⟩, hS.F ht99⟩) hS.2.2 dX4_settle_154
  have hl := lv_entry ([.ref h, .int (nI i)]) (n := 4) (Nat.le_of_ble_eq_true rfl)
  have he9 : entryFrame m args 4 = entryFrame m ([.ref h, .int (nI i)] : List Value).toArray 4 := by rw [hargs]
  rw [he9, lg_entry_eq]
  generalize (lg_sl ([.ref h, .int (nI i)]) ++ List.replicate (4 - (lg_sl ([.ref h, .int (nI i)])).length) Slot.unset).toArray = ls at hl ⊢
  have hl : lv_has ls 4 [(0, .ref h), (1, .int (nI i))] := hl
  refine lv_iconst (v := nI 2) hx hb dX4_settle_0 (by decide) ?_
  refine lv_iload_n hx hb dX4_settle_1 rfl (lv_at hl 1 rfl) ?_
  refine nv_imul hx hb dX4_settle_2 ?_
  refine lv_iconst (v := nI 2) hx hb dX4_settle_3 (by decide) ?_
  refine lv_iload_n hx hb dX4_settle_4 rfl (lv_at hl 1 rfl) ?_
  refine nv_imul hx hb dX4_settle_5 ?_
  refine kc_i (va_runS (As := [.int (nI (2 * i)), .int (nI (2 * i))]) (rest := []) ⟨hx, hb, hml, hown, hts⟩ (c_X4_cell l G B (mu (mu μ la (.inl (G.2 0, 78, .inr (.inl f)))) s9 (.inl (G.2 0, 13, .inr (.inl g)))) (2 * i) (2 * i) (by omega) (by omega)) (va_cwS 2 hts gX4_settle_X4_cell rfl rfl rfl (by decide +kernel) ⟨Nat.le_of_ble_eq_true rfl, Nat.le_of_ble_eq_true rfl⟩) ⟨KW.blind, fun U9 hU9 hW9 => ⟨rfl, KW.pre hBs hKK hS hP U9 hU9 hW9⟩⟩ rfl rfl hl.1 rfl (lv_room (Nat.le_of_ble_eq_true rfl)) dX4_settle_6 ⟨(Nat.le_of_ble_eq_true rfl), (Nat.le_of_ble_eq_true rfl)⟩) hS (fun r6 m6 H locs hq9 hP hz9 hS => ?_)
  obtain ⟨he9, rfl⟩ := hq9
  rw [he9] at hP
  have hix6 := ix_lt (p := 2 * i) (q := 2 * i) (by omega) (by omega)
  refine lv_istore_n (lv' := [(2, .int (nI (ix (2 * i) (2 * i)))), (0, .ref h), (1, .int (nI i))]) hx hb dX4_settle_9 rfl hl (by decide) rfl (fun ls hl => ?_)
  refine lv_iconst (v := nI 2) hx hb dX4_settle_10 (by decide) ?_
  refine lv_iload_n hx hb dX4_settle_11 rfl (lv_at hl 2 rfl) ?_
  refine nv_imul hx hb dX4_settle_12 ?_
  refine lv_iconst (v := nI 1) hx hb dX4_settle_13 (by decide) ?_
  refine nv_iadd hx hb dX4_settle_14 ?_
  refine lv_iconst (v := nI 2) hx hb dX4_settle_15 (by decide) ?_
  refine lv_iload_n hx hb dX4_settle_16 rfl (lv_at hl 2 rfl) ?_
  refine nv_imul hx hb dX4_settle_17 ?_
  refine lv_iconst (v := nI 1) hx hb dX4_settle_18 (by decide) ?_
  refine nv_iadd hx hb dX4_settle_19 ?_
  refine kc_i (va_runS (As := [.int (nI ((2 * i) + 1)), .int (nI ((2 * i) + 1))]) (rest := []) ⟨hx, hb, hml, hown, hts⟩ (c_X4_cell l G B (mu (mu μ la (.inl (G.2 0, 78, .inr (.inl f)))) s9 (.inl (G.2 0, 13, .inr (.inl g)))) ((2 * i) + 1) ((2 * i) + 1) (by omega) (by omega)) (va_cwS 2 hts gX4_settle_X4_cell rfl rfl rfl (by decide +kernel) ⟨Nat.le_of_ble_eq_true rfl, Nat.le_of_ble_eq_true rfl⟩) ⟨KW.blind, fun U9 hU9 hW9 => ⟨rfl, KW.pre hBs hKK hS hP U9 hU9 hW9⟩⟩ rfl rfl hl.1 rfl (lv_room (Nat.le_of_ble_eq_true rfl)) dX4_settle_20 ⟨(Nat.le_of_ble_eq_true rfl), (Nat.le_of_ble_eq_true rfl)⟩) hS (fun r20 m20 H locs hq9 hP hz9 hS => ?_)
  obtain ⟨he9, rfl⟩ := hq9
  rw [he9] at hP
  have hix20 := ix_lt (p := (2 * i) + 1) (q := (2 * i) + 1) (by omega) (by omega)
  refine lv_istore_n (lv' := [(3, .int (nI (ix ((2 * i) + 1) ((2 * i) + 1)))), (2, .int (nI (ix (2 * i) (2 * i)))), (0, .ref h), (1, .int (nI i))]) hx hb dX4_settle_23 rfl hl (by decide) rfl (fun ls hl => ?_)
  refine lv_aload_n hx hb dX4_settle_24 rfl (lv_at hl 2 rfl) ?_
  refine mw_get (C := RX4) (T := TX4) (N := 4) hx hb hts in_X4_settle_X4 hown hK hP ((mu_n ne0_4).trans ((mu_n ne0_3).trans (hh))) rfl 2 (by decide) (hts (.fieldLink RX4 22 "OctagonDesk$Shape" "cells" "[J") (by decide +kernel)) (fun _ h9 => h9) rfl dX4_settle_25 ?_
  refine lv_iload_n hx hb dX4_settle_28 rfl (lv_at hl 1 rfl) ?_
  refine mw_lald hx hb hK hP 0 ((mu_n ((mp_ne ha hs9 (by simp)))).trans (mu_s _ _ _)) rfl (by omega) (by omega) dX4_settle_29 ?_
  refine lv_ldc2 (v := (9223372036854775807)) hx hb hown (hts (.constantLong RX4 74 (9223372036854775807)) (by decide +kernel)) dX4_settle_30 ?_
  refine nl_if_ne (tgt := 70) hx hb dX4_settle_33 dX4_settle_34 (by decide) (fun hc33 => ?_) (fun hc33 => ?_)
  · exact L70 f g (hZ) (hSn) (by first | exact fun h9 => absurd h9 hc46 | exact fun _ => (hZ _ (by omega)).resolve_left hc33) _ _ hP hS ls (lv_sub hl [2, 3, 1, 0] rfl)
  · refine lv_aload_n hx hb dX4_settle_37 rfl (lv_at hl 2 rfl) ?_
    refine mw_get (C := RX4) (T := TX4) (N := 4) hx hb hts in_X4_settle_X4 hown hK hP ((mu_n ne0_4).trans ((mu_n ne0_3).trans (hh))) rfl 2 (by decide) (hts (.fieldLink RX4 22 "OctagonDesk$Shape" "cells" "[J") (by decide +kernel)) (fun _ h9 => h9) rfl dX4_settle_38 ?_
    refine lv_iload_n hx hb dX4_settle_41 rfl (lv_at hl 0 rfl) ?_
    refine mw_lald hx hb hK hP 0 ((mu_n ((mp_ne ha hs9 (by simp)))).trans (mu_s _ _ _)) rfl (by omega) (by omega) dX4_settle_42 ?_
    refine lv_ldc2 (v := (9223372036854775807)) hx hb hown (hts (.constantLong RX4 74 (9223372036854775807)) (by decide +kernel)) dX4_settle_43 ?_
    refine nl_if_ne (tgt := 70) hx hb dX4_settle_46 dX4_settle_47 (by decide) (fun hc46 => ?_) (fun hc46 => ?_)
    · exact L70 f g (hZ) (hSn) (by first | exact fun h9 => absurd h9 hc46 | exact fun _ => (hZ _ (by omega)).resolve_left hc33) _ _ hP hS ls (lv_sub hl [2, 3, 1, 0] rfl)
    · refine lv_aload_n hx hb dX4_settle_50 rfl (lv_at hl 2 rfl) ?_
      refine mw_get (C := RX4) (T := TX4) (N := 4) hx hb hts in_X4_settle_X4 hown hK hP ((mu_n ne0_4).trans ((mu_n ne0_3).trans (hh))) rfl 0 (by decide) (hts (.fieldLink RX4 9 "OctagonDesk$Shape" "bench" "LOctagonDesk$Bench;") (by decide +kernel)) (fun _ h9 => h9) rfl dX4_settle_51 ?_
      refine lv_bipush (v := nI 12) hx hb dX4_settle_54 (by decide) ?_
      refine lv_lconst (v := 0) hx hb dX4_settle_56 (by decide) ?_
      refine kc_v (va_runV (As := [.int (nI 12), .long 0]) (rest := []) ⟨hx, hb, hml, hown, hts⟩ (c_X0_note l G B (mu (mu μ la (.inl (G.2 0, 78, .inr (.inl f)))) s9 (.inl (G.2 0, 13, .inr (.inl g)))) bn nn s9 lo nf g 12 0 ((mu_n ne1_4).trans ((mu_n ne1_3).trans (hbn))) ((mu_n ne2_4).trans ((mu_n ne2_3).trans (hnn))) (mu_s _ _ _) (by omega) (Pn.ng (hSn _ (by omega))) (Pn.ng (Pn.z))) (cwV 2 hts gX4_settle_X0_note rfl rfl rfl (by decide +kernel) ⟨Nat.le_of_ble_eq_true rfl, Nat.le_of_ble_eq_true rfl⟩) ⟨KW.blind, hP.recv hK rfl ((mu_n ne1_4).trans ((mu_n ne1_3).trans (hbn))), fun U9 hU9 hW9 => ⟨rfl, KW.pre hBs hKK hS hP U9 hU9 hW9⟩⟩ rfl rfl hl.1 rfl (lv_room (Nat.le_of_ble_eq_true rfl)) dX4_settle_57 ⟨(Nat.le_of_ble_eq_true rfl), (Nat.le_of_ble_eq_true rfl)⟩) hS (fun m57 H locs hq9 hP hz9 hS => ?_)
      rw [hq9] at hP
      have hP : mw G.1 vwCl B (mu (mu μ la (.inl (G.2 0, 78, .inr (.inl f)))) s9 (.inl (G.2 0, 13, .inr (.inl (vp_updL g 12 0))))) _ := mw_eq (mu_u _ _ _ _) hP
      refine lv_aload_n hx hb dX4_settle_60 rfl (lv_at hl 2 rfl) ?_
      refine lv_iconst (v := nI 2) hx hb dX4_settle_61 (by decide) ?_
      refine lv_iload_n hx hb dX4_settle_62 rfl (lv_at hl 3 rfl) ?_
      refine nv_imul hx hb dX4_settle_63 ?_
      refine lv_iconst (v := nI 2) hx hb dX4_settle_64 (by decide) ?_
      refine lv_iload_n hx hb dX4_settle_65 rfl (lv_at hl 3 rfl) ?_
      refine nv_imul hx hb dX4_settle_66 ?_
      refine kc_v (va_runV (As := [.int (nI (2 * i)), .int (nI (2 * i))]) (rest := []) ⟨hx, hb, hml, hown, hts⟩ (c_X4_holdToSpare l G B (mu (mu μ la (.inl (G.2 0, 78, .inr (.inl f)))) s9 (.inl (G.2 0, 13, .inr (.inl (vp_updL g 12 0))))) h bn nn la s9 lo nf f (vp_updL g 12 0) w9 (2 * i) (2 * i) ((mu_n ne0_4).trans ((mu_n ne0_3).trans (hh))) ((mu_n ne1_4).trans ((mu_n ne1_3).trans (hbn))) ((mu_n ne2_4).trans ((mu_n ne2_3).trans (hnn))) ((mu_n ((mp_ne ha hs9 (by simp)))).trans (mu_s _ _ _)) (mu_s _ _ _) ((mu_n ((mp_ne hlo hs9 (by simp)))).trans ((mu_n ((mp_ne hlo ha (by simp)))).trans (hlo))) (by omega) (by omega) ((Or.inl hZ : Ok f)) ((hSn.upd Pn.z)) (fun _ => Or.inl (hZ.upd (Or.inr up12)))) (cwV 2 hts gX4_settle_X4_holdToSpare rfl rfl rfl (by decide +kernel) ⟨Nat.le_of_ble_eq_true rfl, Nat.le_of_ble_eq_true rfl⟩) ⟨KW.blind, hP.recv hK rfl ((mu_n ne0_4).trans ((mu_n ne0_3).trans (hh))), fun U9 hU9 hW9 => ⟨rfl, KW.pre hBs hKK hS hP U9 hU9 hW9⟩⟩ rfl rfl hl.1 rfl (lv_room (Nat.le_of_ble_eq_true rfl)) dX4_settle_67 ⟨(Nat.le_of_ble_eq_true rfl), (Nat.le_of_ble_eq_true rfl)⟩) hS (fun m67 H locs hq9 hP hz9 hS => ?_)
      obtain ⟨f67, g67, rfl, hH67, hN67⟩ := hq9
      have hP : mw G.1 vwCl B (mu (mu μ la (.inl (G.2 0, 78, .inr (.inl f67)))) s9 (.inl (G.2 0, 13, .inr (.inl g67)))) _ := mw_eq ((congrArg (fun z => mu z s9 (.inl (G.2 0, 13, .inr (.inl g67)))) ((mu_c _ _ ((mp_ne hs9 ha (by simp)))).trans (congrArg (fun z => mu z s9 (.inl (G.2 0, 13, .inr (.inl (vp_updL g 12 0))))) (mu_u _ _ _ _)))).trans (mu_u _ _ _ _)) hP
      have hq67 := hH67.za (by omega) (by omega) hZ (by rw [up12]; exact Or.inr rfl)
      exact L70 f67 g67 (hq67.1) (hN67) (fun _ => hq67.2.2 up12) _ _ hP hS ls (lv_sub hl [2, 3, 1, 0] rfl)

abbrev rm_X4_shiftToLeast : Room := { frames := 1, cells := 0, slots := 0, locals := 21 }
set_option maxHeartbeats 4000000 in
set_option maxRecDepth 100000 in
theorem c_X4_shiftToLeast (l : Launch) (G : GG) (B : Nat) (μ : mp) (h bn nn la s9 lo eb : Nat) (nf : List Value) (f g : Nat → Int64) (w9 : Nat → Int32) (hh : μ h = some (.inr (4, [.ref bn, .ref nn, .ref la, .int (nI eb)]))) (hbn : μ bn = some (.inr (0, [.ref nn, .ref s9, .ref lo]))) (hnn : μ nn = some (.inr (3, nf))) (ha : μ la = some (.inl (G.2 0, 78, .inr (.inl f)))) (hs9 : μ s9 = some (.inl (G.2 0, 13, .inr (.inl g)))) (hlo : μ lo = some (.inl (G.2 2, 78, .inl w9))) (hI0 : f (ix 0 0) = INF) : Met l yX4_shiftToLeast wsX4_shiftToLeast rm_X4_shiftToLeast (va_Pc [.ref h] (KW G B μ)) (va_Qi (fun r μ2 => μ2 = μ ∧ r = 0) (BB G B) (fun q => B ≤ q)) 0 0 (fun q => B ≤ q) := by
  refine Met.ofW (cc := cX4_shiftToLeast) (maxL := 3) (ret := (some .boolean)) (by decide) rfl ?_
  intro p e s m args below meth c s₁ B9 hml hv
  obtain ⟨hargs, hBs, hP, hKK⟩ := hv
  have hx := B9.exec
  have hb := B9.bytes
  have hr := B9.returns
  have hts := atoms_spec (ws := wsX4_shiftToLeast) B9.pre
  have hown : s.vm.findClass RX4 = some m.cls := findClass_of_methodNamed B9.named
  have hlocks := B9.notSynchronized
  have hK := hKK.k
  have hS : va_S (fun q => B ≤ q) s.heap s.heap [] := va_S.rf
  obtain ⟨Q, hQ⟩ : ∃ Q, Q = MQ below (va_Qi (fun r μ2 => μ2 = μ ∧ r = 0) (BB G B) (fun q => B ≤ q)) args s 0 0 (fun q => B ≤ q) := ⟨_, rfl⟩
  rw [← hQ]
  have ne0_1 : h ≠ bn := mp_ne hh hbn (by simp)
  have ne0_2 : h ≠ nn := mp_ne hh hnn (by simp)
  have ne0_3 : h ≠ la := mp_ne hh ha (by simp)
  have ne0_4 : h ≠ s9 := mp_ne hh hs9 (by simp)
  have ne0_5 : h ≠ lo := mp_ne hh hlo (by simp)
  have ne1_2 : bn ≠ nn := mp_ne hbn hnn (by simp)
  have ne1_3 : bn ≠ la := mp_ne hbn ha (by simp)
  have ne1_4 : bn ≠ s9 := mp_ne hbn hs9 (by simp)
  have ne1_5 : bn ≠ lo := mp_ne hbn hlo (by simp)
  have ne2_3 : nn ≠ la := mp_ne hnn ha (by simp)
  have ne2_4 : nn ≠ s9 := mp_ne hnn hs9 (by simp)
  have ne2_5 : nn ≠ lo := mp_ne hnn hlo (by simp)
  have in_X4_shiftToLeast_X4 : ∀ w ∈ wsX40, w ∈ wsX4_shiftToLeast := by decide +kernel
  have hl := lv_entry ([.ref h]) (n := 3) (Nat.le_of_ble_eq_true rfl)
  have he9 : entryFrame m args 3 = entryFrame m ([.ref h] : List Value).toArray 3 := by rw [hargs]
  rw [he9, lg_entry_eq]
  generalize (lg_sl ([.ref h]) ++ List.replicate (3 - (lg_sl ([.ref h])).length) Slot.unset).toArray = ls at hl ⊢
  have hl : lv_has ls 3 [(0, .ref h)] := hl
  refine lv_iconst (v := nI 0) hx hb dX4_shiftToLeast_0 (by decide) ?_
  refine lv_istore_n (lv' := [(1, .int (nI 0)), (0, .ref h)]) hx hb dX4_shiftToLeast_1 rfl hl (by decide) rfl (fun ls hl => ?_)
  refine lv_iload_n hx hb dX4_shiftToLeast_2 rfl (lv_at hl 0 rfl) ?_
  refine lv_bipush (v := nI 6) hx hb dX4_shiftToLeast_3 (by decide) ?_
  refine nv_icmp_ge (tgt := 117) hx hb (by omega) (by omega) dX4_shiftToLeast_5 (by decide) (fun hc5 => ?_) (fun hc5 => ?_)
  · exact absurd hc5 (by omega)
  · refine lv_iconst (v := nI 2) hx hb dX4_shiftToLeast_8 (by decide) ?_
    refine lv_iload_n hx hb dX4_shiftToLeast_9 rfl (lv_at hl 0 rfl) ?_
    refine nv_imul hx hb dX4_shiftToLeast_10 ?_
    refine lv_iconst (v := nI 1) hx hb dX4_shiftToLeast_11 (by decide) ?_
    refine nv_iadd hx hb dX4_shiftToLeast_12 ?_
    refine lv_iconst (v := nI 2) hx hb dX4_shiftToLeast_13 (by decide) ?_
    refine lv_iload_n hx hb dX4_shiftToLeast_14 rfl (lv_at hl 0 rfl) ?_
    refine nv_imul hx hb dX4_shiftToLeast_15 ?_
    refine lv_iconst (v := nI 1) hx hb dX4_shiftToLeast_16 (by decide) ?_
    refine nv_iadd hx hb dX4_shiftToLeast_17 ?_
    refine kc_i (va_runS (As := [.int (nI 1), .int (nI 1)]) (rest := []) ⟨hx, hb, hml, hown, hts⟩ (c_X4_cell l G B (μ) 1 1 (by omega) (by omega)) (va_cwS 2 hts gX4_shiftToLeast_X4_cell rfl rfl rfl (by decide +kernel) ⟨Nat.le_of_ble_eq_true rfl, Nat.le_of_ble_eq_true rfl⟩) ⟨KW.blind, fun U9 hU9 hW9 => ⟨rfl, KW.pre hBs hKK hS hP U9 hU9 hW9⟩⟩ rfl rfl hl.1 rfl (lv_room (Nat.le_of_ble_eq_true rfl)) dX4_shiftToLeast_18 ⟨(Nat.le_of_ble_eq_true rfl), (Nat.le_of_ble_eq_true rfl)⟩) hS (fun r18 m18 H locs hq9 hP hz9 hS => ?_)
    obtain ⟨he9, rfl⟩ := hq9
    rw [he9] at hP
    have hix18 := ix_lt (p := 1) (q := 1) (by omega) (by omega)
    refine lv_istore_n (lv' := [(2, .int (nI (ix 1 1))), (1, .int (nI 0)), (0, .ref h)]) hx hb dX4_shiftToLeast_21 rfl hl (by decide) rfl (fun ls hl => ?_)
    refine lv_aload_n hx hb dX4_shiftToLeast_22 rfl (lv_at hl 2 rfl) ?_
    refine mw_get (C := RX4) (T := TX4) (N := 4) hx hb hts in_X4_shiftToLeast_X4 hown hK hP (hh) rfl 2 (by decide) (hts (.fieldLink RX4 22 "OctagonDesk$Shape" "cells" "[J") (by decide +kernel)) (fun _ h9 => h9) rfl dX4_shiftToLeast_23 ?_
    refine lv_iconst (v := nI 2) hx hb dX4_shiftToLeast_26 (by decide) ?_
    refine lv_iload_n hx hb dX4_shiftToLeast_27 rfl (lv_at hl 1 rfl) ?_
    refine nv_imul hx hb dX4_shiftToLeast_28 ?_
    refine lv_iconst (v := nI 2) hx hb dX4_shiftToLeast_29 (by decide) ?_
    refine lv_iload_n hx hb dX4_shiftToLeast_30 rfl (lv_at hl 1 rfl) ?_
    refine nv_imul hx hb dX4_shiftToLeast_31 ?_
    refine kc_i (va_runS (As := [.int (nI 0), .int (nI 0)]) (rest := [.ref la]) ⟨hx, hb, hml, hown, hts⟩ (c_X4_cell l G B (μ) 0 0 (by omega) (by omega)) (va_cwS 2 hts gX4_shiftToLeast_X4_cell rfl rfl rfl (by decide +kernel) ⟨Nat.le_of_ble_eq_true rfl, Nat.le_of_ble_eq_true rfl⟩) ⟨KW.blind, fun U9 hU9 hW9 => ⟨rfl, KW.pre hBs hKK hS hP U9 hU9 hW9⟩⟩ rfl rfl hl.1 rfl (lv_room (Nat.le_of_ble_eq_true rfl)) dX4_shiftToLeast_32 ⟨(Nat.le_of_ble_eq_true rfl), (Nat.le_of_ble_eq_true rfl)⟩) hS (fun r32 m32 H locs hq9 hP hz9 hS => ?_)
    obtain ⟨he9, rfl⟩ := hq9
    rw [he9] at hP
    have hix32 := ix_lt (p := 0) (q := 0) (by omega) (by omega)
    refine mw_lald hx hb hK hP 0 (ha) rfl (by omega) (by omega) dX4_shiftToLeast_35 ?_
    refine lv_ldc2 (v := (9223372036854775807)) hx hb hown (hts (.constantLong RX4 74 (9223372036854775807)) (by decide +kernel)) dX4_shiftToLeast_36 ?_
    refine nl_if_eq (tgt := 56) hx hb dX4_shiftToLeast_39 dX4_shiftToLeast_40 (by decide) (fun hc39 => ?_) (fun hc39 => ?_)
    · refine lv_iconst (v := nI 0) hx hb dX4_shiftToLeast_56 (by decide) ?_
      rw [hQ]
      exact W.zret (v := nI 0) (ty := .boolean) hx hb hr (by first | rfl | decide) (fun t99 ht99 hW99 => ⟨⟨nI 0, μ, rfl, (⟨rfl, rfl⟩), by show mw _ _ _ _ t99.heap; rw [ht99]; exact hP⟩, hS.F ht99⟩) hS.2.2 dX4_shiftToLeast_57
    · exact absurd hI0 hc39
