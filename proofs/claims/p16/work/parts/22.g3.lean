abbrev rg_X3_clear : Room := { frames := 7, cells := 1, slots := 6, locals := 120 }
set_option maxHeartbeats 4000000 in
set_option maxRecDepth 100000 in
theorem g_X3_clear (l : Launch) (hlt : l.stackTraces = false) (G : GG) (B : Nat) (μ : mp) (d k sc : Nat) (D : Nat → Prop) (x9 : Int32) (hG : DG G μ d k sc D) : vx_Met l yX3_clear wsX3_clear rg_X3_clear (va_Pc [.ref d, .int x9] (KX G B μ)) (va_Qv (fun μ2 => okS x9 ∧ (DG G μ2 d k sc (DN2 D μ) ∧ FD D μ μ2)) (BB G B) (fun q => B ≤ q)) (XX G B μ (fun E => E = exA ∧ ¬ okS x9)) 1 6 (fun q => B ≤ q) := by
  obtain ⟨aS, aL, aR, aT, aO, sa, na, la, bE, F, fS, fL, fR, fT, sp, fO, hD, hSV, hkw, hA⟩ := hG
  refine vx_ofW (cc := cX3_clear) (maxL := 2) (ret := none) (by decide) rfl ?_
  intro p e s m args below meth c s₁ B9 hml hout hv
  obtain ⟨hargs, ⟨hBs, hP, hKK⟩, hDc⟩ := hv
  have hx := B9.exec
  have hb := B9.bytes
  have hr := B9.returns
  have hts := atoms_spec (ws := wsX3_clear) B9.pre
  have hown : s.vm.findClass RX3 = some m.cls := findClass_of_methodNamed B9.named
  have hlocks := B9.notSynchronized
  have hK := hKK.k
  have hS : va_S (fun q => B ≤ q) s.heap s.heap [] := va_S.rf
  obtain ⟨Q, hQ⟩ : ∃ Q, Q = vx_MQ below (va_Qv (fun μ2 => okS x9 ∧ (DG G μ2 d k sc (DN2 D μ) ∧ FD D μ μ2)) (BB G B) (fun q => B ≤ q)) (XX G B μ (fun E => E = exA ∧ ¬ okS x9)) args s 1 6 (fun q => B ≤ q) := ⟨_, rfl⟩
  rw [← hQ]
  have in_X3_clear_X3 : ∀ w ∈ wsX30, w ∈ wsX3_clear := by decide +kernel
  have hk5 := hkw.le
  have hl := lv_entry ([.ref d, .int x9]) (n := 2) (Nat.le_of_ble_eq_true rfl)
  have he9 : entryFrame m args 2 = entryFrame m ([.ref d, .int x9] : List Value).toArray 2 := by rw [hargs]
  rw [he9, lg_entry_eq]
  generalize (lg_sl ([.ref d, .int x9]) ++ List.replicate (2 - (lg_sl ([.ref d, .int x9])).length) Slot.unset).toArray = ls at hl ⊢
  have hl : lv_has ls 2 [(0, .ref d), (1, .int x9)] := hl
  refine lv_iload_n hx hb dX3_clear_0 rfl (lv_at hl 1 rfl) ?_
  refine kx_v (vx_runS (As := [.int x9]) (rest := []) ⟨hx, hb, hml, hown, hts⟩ (c_X3_requireSlot l hlt G B (μ) x9) (va_cwS 1 hts gX3_clear_X3_requireSlot rfl rfl rfl (by decide +kernel) ⟨Nat.le_of_ble_eq_true rfl, Nat.le_of_ble_eq_true rfl⟩) ⟨KX.blind, fun U9 hU9 hW9 => ⟨rfl, KW.pre hBs hKK hS hP U9 hU9 hW9, hDc.at hW9⟩⟩ rfl rfl hl.1 rfl (lv_room (Nat.le_of_ble_eq_true rfl)) dX3_clear_1 ⟨(Nat.le_of_ble_eq_true rfl), (Nat.le_of_ble_eq_true rfl)⟩) hS (fun E ce q9 H locs hce hP hS h91 h92 h93 => ?_) (fun m1 H locs hq9 hP hz9 hS => ?_)
  · rw [hQ]
    exact kx_out hout hlocks h91 h92 h93 (hce) hP hS (Nat.le_of_ble_eq_true rfl) (Nat.le_of_ble_eq_true rfl)
  obtain ⟨he9, hk1⟩ := hq9
  rw [he9] at hP
  have hx1 := hk1
  obtain ⟨j1, hj1, ej1⟩ := ok_nat (by decide) hk1
  subst ej1
  refine lv_aload_n hx hb dX3_clear_4 rfl (lv_at hl 0 rfl) ?_
  refine mw_get (C := RX3) (T := TX3) (N := 7) hx hb hts in_X3_clear_X3 hown hK hP (hD.1) rfl 0 (by decide) (hts (.fieldLink RX3 13 "OctagonDesk" "slots" "[LOctagonDesk$Shape;") (by decide +kernel)) (fun _ h9 => h9) rfl dX3_clear_5 ?_
  refine lv_iload_n hx hb dX3_clear_8 rfl (lv_at hl 1 rfl) ?_
  refine mw_aldq hx hb hK hP 3 (hD.2.1.1) rfl (by omega) (by omega) (hD.2.1.2.2.2.2.1 j1 (by omega)) dX3_clear_9 ?_
  have hbj1_10 := hD.b j1 (by omega)
  refine kc_v (va_runV (As := []) (rest := []) ⟨hx, hb, hml, hown, hts⟩ (c_X1_allowAll l G B (μ) (sa j1) (na j1) (la j1) k (bE j1) (F j1)  ((hD.2.2.2.2.1.1 j1 (by omega)).1.1) ((hD.2.2.2.2.1.1 j1 (by omega)).1.2.1) ((hD.2.2.2.2.1.1 j1 (by omega)).1.2.2) (by omega)) (cwV 0 hts gX3_clear_X1_allowAll rfl rfl rfl (by decide +kernel) ⟨Nat.le_of_ble_eq_true rfl, Nat.le_of_ble_eq_true rfl⟩) ⟨KW.blind, hP.recv hK rfl ((hD.2.2.2.2.1.1 j1 (by omega)).1.1), fun U9 hU9 hW9 => ⟨rfl, KW.pre hBs hKK hS hP U9 hU9 hW9⟩⟩ rfl rfl hl.1 rfl (lv_room (Nat.le_of_ble_eq_true rfl)) dX3_clear_10 ⟨(Nat.le_of_ble_eq_true rfl), (Nat.le_of_ble_eq_true rfl)⟩) hS (fun m10 H locs hq9 hP hz9 hS => ?_)
  obtain ⟨g10, rfl, hg10⟩ := hq9
  have hP : mw G.1 vwCl B (mu (mu μ (sa j1) (.inr (1, [.ref (na j1), .int (nI 0)]))) (la j1) (.inl (G.2 0, 158 * k + 158, .inr (.inl g10)))) _ := mw_eq (congrArg (fun z => mu z (la j1) (.inl (G.2 0, 158 * k + 158, .inr (.inl g10)))) (rfl)) hP
  rw [hQ]
  refine vx_ret ?_
  refine W.widen (k := 1) (n := 6) (by omega) (by omega) ?_
  have hDx13 : DK G (mu (mu μ (sa j1) (.inr (1, [.ref (na j1), .int (nI 0)]))) (la j1) (.inl (G.2 0, 158 * k + 158, .inr (.inl g10)))) d aS aL aR aT aO k sc sa na la (va_up bE j1 0) (va_up F j1 g10) fS fL fR fT sp fO := hD.sh (by omega) (by omega)
  have hRx13 : DQ μ (mu (mu μ (sa j1) (.inr (1, [.ref (na j1), .int (nI 0)]))) (la j1) (.inl (G.2 0, 158 * k + 158, .inr (.inl g10)))) d aO sa na la la := DQ.sh (by omega)
  obtain ⟨μ13, em13⟩ : ∃ x9 : mp, x9 = mu (mu μ (sa j1) (.inr (1, [.ref (na j1), .int (nI 0)]))) (la j1) (.inl (G.2 0, 158 * k + 158, .inr (.inl g10))) := ⟨_, rfl⟩
  rw [← em13] at hP hDx13 hRx13
  exact W.vret hx hb hr (fun t99 ht99 hW99 => ⟨⟨μ13, rfl, (⟨hx1, DG.fin hA hSV hD hDx13 hRx13 hkw⟩), by show mw _ _ _ _ t99.heap; rw [ht99]; exact hP⟩, hS.F ht99⟩) hS.2.2 dX3_clear_13

abbrev rg_X3_copy : Room := { frames := 7, cells := 2, slots := 12, locals := 120 }
set_option maxHeartbeats 4000000 in
set_option maxRecDepth 100000 in
theorem g_X3_copy (l : Launch) (hlt : l.stackTraces = false) (G : GG) (B : Nat) (μ : mp) (d k sc : Nat) (D : Nat → Prop) (x9 y9 : Int32) (hG : DG G μ d k sc D) : vx_Met l yX3_copy wsX3_copy rg_X3_copy (va_Pc [.ref d, .int x9, .int y9] (KX G B μ)) (va_Qv (fun μ2 => (okS x9 ∧ okS y9) ∧ (DG G μ2 d k sc (DN2 D μ) ∧ FD D μ μ2)) (BB G B) (fun q => B ≤ q)) (XX G B μ (fun E => E = exA ∧ ¬ (okS x9 ∧ okS y9))) 2 12 (fun q => B ≤ q) := by
  obtain ⟨aS, aL, aR, aT, aO, sa, na, la, bE, F, fS, fL, fR, fT, sp, fO, hD, hSV, hkw, hA⟩ := hG
  refine vx_ofW (cc := cX3_copy) (maxL := 3) (ret := none) (by decide) rfl ?_
  intro p e s m args below meth c s₁ B9 hml hout hv
  obtain ⟨hargs, ⟨hBs, hP, hKK⟩, hDc⟩ := hv
  have hx := B9.exec
  have hb := B9.bytes
  have hr := B9.returns
  have hts := atoms_spec (ws := wsX3_copy) B9.pre
  have hown : s.vm.findClass RX3 = some m.cls := findClass_of_methodNamed B9.named
  have hlocks := B9.notSynchronized
  have hK := hKK.k
  have hS : va_S (fun q => B ≤ q) s.heap s.heap [] := va_S.rf
  obtain ⟨Q, hQ⟩ : ∃ Q, Q = vx_MQ below (va_Qv (fun μ2 => (okS x9 ∧ okS y9) ∧ (DG G μ2 d k sc (DN2 D μ) ∧ FD D μ μ2)) (BB G B) (fun q => B ≤ q)) (XX G B μ (fun E => E = exA ∧ ¬ (okS x9 ∧ okS y9))) args s 2 12 (fun q => B ≤ q) := ⟨_, rfl⟩
  rw [← hQ]
  have in_X3_copy_X3 : ∀ w ∈ wsX30, w ∈ wsX3_copy := by decide +kernel
  have hk5 := hkw.le
  have hl := lv_entry ([.ref d, .int x9, .int y9]) (n := 3) (Nat.le_of_ble_eq_true rfl)
  have he9 : entryFrame m args 3 = entryFrame m ([.ref d, .int x9, .int y9] : List Value).toArray 3 := by rw [hargs]
  rw [he9, lg_entry_eq]
  generalize (lg_sl ([.ref d, .int x9, .int y9]) ++ List.replicate (3 - (lg_sl ([.ref d, .int x9, .int y9])).length) Slot.unset).toArray = ls at hl ⊢
  have hl : lv_has ls 3 [(0, .ref d), (1, .int x9), (2, .int y9)] := hl
  refine lv_iload_n hx hb dX3_copy_0 rfl (lv_at hl 1 rfl) ?_
  refine kx_v (vx_runS (As := [.int x9]) (rest := []) ⟨hx, hb, hml, hown, hts⟩ (c_X3_requireSlot l hlt G B (μ) x9) (va_cwS 1 hts gX3_copy_X3_requireSlot rfl rfl rfl (by decide +kernel) ⟨Nat.le_of_ble_eq_true rfl, Nat.le_of_ble_eq_true rfl⟩) ⟨KX.blind, fun U9 hU9 hW9 => ⟨rfl, KW.pre hBs hKK hS hP U9 hU9 hW9, hDc.at hW9⟩⟩ rfl rfl hl.1 rfl (lv_room (Nat.le_of_ble_eq_true rfl)) dX3_copy_1 ⟨(Nat.le_of_ble_eq_true rfl), (Nat.le_of_ble_eq_true rfl)⟩) hS (fun E ce q9 H locs hce hP hS h91 h92 h93 => ?_) (fun m1 H locs hq9 hP hz9 hS => ?_)
  · rw [hQ]
    exact kx_out hout hlocks h91 h92 h93 (⟨hce.1, fun h9 => hce.2 h9.1⟩) hP hS (Nat.le_of_ble_eq_true rfl) (Nat.le_of_ble_eq_true rfl)
  obtain ⟨he9, hk1⟩ := hq9
  rw [he9] at hP
  have hx1 := hk1
  obtain ⟨j1, hj1, ej1⟩ := ok_nat (by decide) hk1
  subst ej1
  refine lv_iload_n hx hb dX3_copy_4 rfl (lv_at hl 2 rfl) ?_
  refine kx_v (vx_runS (As := [.int y9]) (rest := []) ⟨hx, hb, hml, hown, hts⟩ (c_X3_requireSlot l hlt G B (μ) y9) (va_cwS 1 hts gX3_copy_X3_requireSlot rfl rfl rfl (by decide +kernel) ⟨Nat.le_of_ble_eq_true rfl, Nat.le_of_ble_eq_true rfl⟩) ⟨KX.blind, fun U9 hU9 hW9 => ⟨rfl, KW.pre hBs hKK hS hP U9 hU9 hW9, hDc.at hW9⟩⟩ rfl rfl hl.1 rfl (lv_room (Nat.le_of_ble_eq_true rfl)) dX3_copy_5 ⟨(Nat.le_of_ble_eq_true rfl), (Nat.le_of_ble_eq_true rfl)⟩) hS (fun E ce q9 H locs hce hP hS h91 h92 h93 => ?_) (fun m5 H locs hq9 hP hz9 hS => ?_)
  · rw [hQ]
    exact kx_out hout hlocks h91 h92 h93 (⟨hce.1, fun h9 => hce.2 h9.2⟩) hP hS (Nat.le_of_ble_eq_true rfl) (Nat.le_of_ble_eq_true rfl)
  obtain ⟨he9, hk5⟩ := hq9
  rw [he9] at hP
  have hx5 := hk5
  obtain ⟨j5, hj5, ej5⟩ := ok_nat (by decide) hk5
  subst ej5
  have hbj1_8 := hD.b j1 (by omega)
  have hbj5_8 := hD.b j5 (by omega)
  refine lv_aload_n hx hb dX3_copy_8 rfl (lv_at hl 0 rfl) ?_
  refine mw_get (C := RX3) (T := TX3) (N := 7) hx hb hts in_X3_copy_X3 hown hK hP (hD.1) rfl 0 (by decide) (hts (.fieldLink RX3 13 "OctagonDesk" "slots" "[LOctagonDesk$Shape;") (by decide +kernel)) (fun _ h9 => h9) rfl dX3_copy_9 ?_
  refine lv_iload_n hx hb dX3_copy_12 rfl (lv_at hl 1 rfl) ?_
  refine mw_aldq hx hb hK hP 3 (hD.2.1.1) rfl (by omega) (by omega) (hD.2.1.2.2.2.2.1 j1 (by omega)) dX3_copy_13 ?_
  refine lv_aload_n hx hb dX3_copy_14 rfl (lv_at hl 0 rfl) ?_
  refine mw_get (C := RX3) (T := TX3) (N := 7) hx hb hts in_X3_copy_X3 hown hK hP (hD.1) rfl 0 (by decide) (hts (.fieldLink RX3 13 "OctagonDesk" "slots" "[LOctagonDesk$Shape;") (by decide +kernel)) (fun _ h9 => h9) rfl dX3_copy_15 ?_
  refine lv_iload_n hx hb dX3_copy_18 rfl (lv_at hl 2 rfl) ?_
  refine mw_aldq hx hb hK hP 3 (hD.2.1.1) rfl (by omega) (by omega) (hD.2.1.2.2.2.2.1 j5 (by omega)) dX3_copy_19 ?_
  refine kc_v (va_runV (As := [.ref (sa j5)]) (rest := []) ⟨hx, hb, hml, hown, hts⟩ (c_X1_takeOver l G B (μ) (sa j1) (na j1) (la j1) k (bE j1) (F j1) (sa j5) (na j5) (la j5) (bE j5) (F j5)  ((hD.2.2.2.2.1.1 j1 (by omega)).1.1) ((hD.2.2.2.2.1.1 j1 (by omega)).1.2.1) ((hD.2.2.2.2.1.1 j1 (by omega)).1.2.2) ((hD.2.2.2.2.1.1 j5 (by omega)).1.1) ((hD.2.2.2.2.1.1 j5 (by omega)).1.2.1) ((hD.2.2.2.2.1.1 j5 (by omega)).1.2.2) (by omega) (by omega)) (cwV 1 hts gX3_copy_X1_takeOver rfl rfl rfl (by decide +kernel) ⟨Nat.le_of_ble_eq_true rfl, Nat.le_of_ble_eq_true rfl⟩) ⟨KW.blind, hP.recv hK rfl ((hD.2.2.2.2.1.1 j1 (by omega)).1.1), fun U9 hU9 hW9 => ⟨rfl, KW.pre hBs hKK hS hP U9 hU9 hW9⟩⟩ rfl rfl hl.1 rfl (lv_room (Nat.le_of_ble_eq_true rfl)) dX3_copy_20 ⟨(Nat.le_of_ble_eq_true rfl), (Nat.le_of_ble_eq_true rfl)⟩) hS (fun m20 H locs hq9 hP hz9 hS => ?_)
  obtain ⟨g20, rfl, hg20⟩ := hq9
  have hP : mw G.1 vwCl B (mu (mu μ (la j1) (.inl (G.2 0, 158 * k + 158, .inr (.inl g20)))) (sa j1) (.inr (1, [.ref (na j1), .int (nI (bE j5))]))) _ := mw_eq (congrArg (fun z => mu z (sa j1) (.inr (1, [.ref (na j1), .int (nI (bE j5))]))) (rfl)) hP
  rw [hQ]
  refine vx_ret ?_
  refine W.widen (k := 2) (n := 12) (by omega) (by omega) ?_
  have hDx23 : DK G (mu (mu μ (la j1) (.inl (G.2 0, 158 * k + 158, .inr (.inl g20)))) (sa j1) (.inr (1, [.ref (na j1), .int (nI (bE j5))]))) d aS aL aR aT aO k sc sa na la (va_up bE j1 (bE j5)) (va_up F j1 g20) fS fL fR fT sp fO := hD.sh2 (by omega) (by omega)
  have hRx23 : DQ μ (mu (mu μ (la j1) (.inl (G.2 0, 158 * k + 158, .inr (.inl g20)))) (sa j1) (.inr (1, [.ref (na j1), .int (nI (bE j5))]))) d aO sa na la la := DQ.sh2 (by omega)
  obtain ⟨μ23, em23⟩ : ∃ x9 : mp, x9 = mu (mu μ (la j1) (.inl (G.2 0, 158 * k + 158, .inr (.inl g20)))) (sa j1) (.inr (1, [.ref (na j1), .int (nI (bE j5))])) := ⟨_, rfl⟩
  rw [← em23] at hP hDx23 hRx23
  exact W.vret hx hb hr (fun t99 ht99 hW99 => ⟨⟨μ23, rfl, (⟨⟨hx1, hx5⟩, DG.fin hA hSV hD hDx23 hRx23 hkw⟩), by show mw _ _ _ _ t99.heap; rw [ht99]; exact hP⟩, hS.F ht99⟩) hS.2.2 dX3_copy_23

abbrev rg_X3_forget : Room := { frames := 7, cells := 2, slots := 12, locals := 120 }
set_option maxHeartbeats 4000000 in
set_option maxRecDepth 100000 in
theorem g_X3_forget (l : Launch) (hlt : l.stackTraces = false) (G : GG) (B : Nat) (μ : mp) (d k sc : Nat) (D : Nat → Prop) (x9 y9 : Int32) (hG : DG G μ d k sc D) : vx_Met l yX3_forget wsX3_forget rg_X3_forget (va_Pc [.ref d, .int x9, .int y9] (KX G B μ)) (va_Qv (fun μ2 => (okS x9 ∧ okS y9) ∧ (DG G μ2 d k sc (DN2 D μ) ∧ FD D μ μ2)) (BB G B) (fun q => B ≤ q)) (XX G B μ (fun E => E = exA ∧ ¬ (okS x9 ∧ okS y9))) 2 12 (fun q => B ≤ q) := by
  obtain ⟨aS, aL, aR, aT, aO, sa, na, la, bE, F, fS, fL, fR, fT, sp, fO, hD, hSV, hkw, hA⟩ := hG
  refine vx_ofW (cc := cX3_forget) (maxL := 3) (ret := none) (by decide) rfl ?_
  intro p e s m args below meth c s₁ B9 hml hout hv
  obtain ⟨hargs, ⟨hBs, hP, hKK⟩, hDc⟩ := hv
  have hx := B9.exec
  have hb := B9.bytes
  have hr := B9.returns
  have hts := atoms_spec (ws := wsX3_forget) B9.pre
  have hown : s.vm.findClass RX3 = some m.cls := findClass_of_methodNamed B9.named
  have hlocks := B9.notSynchronized
  have hK := hKK.k
  have hS : va_S (fun q => B ≤ q) s.heap s.heap [] := va_S.rf
  obtain ⟨Q, hQ⟩ : ∃ Q, Q = vx_MQ below (va_Qv (fun μ2 => (okS x9 ∧ okS y9) ∧ (DG G μ2 d k sc (DN2 D μ) ∧ FD D μ μ2)) (BB G B) (fun q => B ≤ q)) (XX G B μ (fun E => E = exA ∧ ¬ (okS x9 ∧ okS y9))) args s 2 12 (fun q => B ≤ q) := ⟨_, rfl⟩
  rw [← hQ]
  have in_X3_forget_X3 : ∀ w ∈ wsX30, w ∈ wsX3_forget := by decide +kernel
  have hk5 := hkw.le
  have hl := lv_entry ([.ref d, .int x9, .int y9]) (n := 3) (Nat.le_of_ble_eq_true rfl)
  have he9 : entryFrame m args 3 = entryFrame m ([.ref d, .int x9, .int y9] : List Value).toArray 3 := by rw [hargs]
  rw [he9, lg_entry_eq]
  generalize (lg_sl ([.ref d, .int x9, .int y9]) ++ List.replicate (3 - (lg_sl ([.ref d, .int x9, .int y9])).length) Slot.unset).toArray = ls at hl ⊢
  have hl : lv_has ls 3 [(0, .ref d), (1, .int x9), (2, .int y9)] := hl
  refine lv_iload_n hx hb dX3_forget_0 rfl (lv_at hl 1 rfl) ?_
  refine kx_v (vx_runS (As := [.int x9]) (rest := []) ⟨hx, hb, hml, hown, hts⟩ (c_X3_requireSlot l hlt G B (μ) x9) (va_cwS 1 hts gX3_forget_X3_requireSlot rfl rfl rfl (by decide +kernel) ⟨Nat.le_of_ble_eq_true rfl, Nat.le_of_ble_eq_true rfl⟩) ⟨KX.blind, fun U9 hU9 hW9 => ⟨rfl, KW.pre hBs hKK hS hP U9 hU9 hW9, hDc.at hW9⟩⟩ rfl rfl hl.1 rfl (lv_room (Nat.le_of_ble_eq_true rfl)) dX3_forget_1 ⟨(Nat.le_of_ble_eq_true rfl), (Nat.le_of_ble_eq_true rfl)⟩) hS (fun E ce q9 H locs hce hP hS h91 h92 h93 => ?_) (fun m1 H locs hq9 hP hz9 hS => ?_)
  · rw [hQ]
    exact kx_out hout hlocks h91 h92 h93 (⟨hce.1, fun h9 => hce.2 h9.1⟩) hP hS (Nat.le_of_ble_eq_true rfl) (Nat.le_of_ble_eq_true rfl)
  obtain ⟨he9, hk1⟩ := hq9
  rw [he9] at hP
  have hx1 := hk1
  obtain ⟨j1, hj1, ej1⟩ := ok_nat (by decide) hk1
  subst ej1
  refine lv_iload_n hx hb dX3_forget_4 rfl (lv_at hl 2 rfl) ?_
  refine kx_v (vx_runS (As := [.int y9]) (rest := []) ⟨hx, hb, hml, hown, hts⟩ (c_X3_requireVariable l hlt G B (μ) y9) (va_cwS 1 hts gX3_forget_X3_requireVariable rfl rfl rfl (by decide +kernel) ⟨Nat.le_of_ble_eq_true rfl, Nat.le_of_ble_eq_true rfl⟩) ⟨KX.blind, fun U9 hU9 hW9 => ⟨rfl, KW.pre hBs hKK hS hP U9 hU9 hW9, hDc.at hW9⟩⟩ rfl rfl hl.1 rfl (lv_room (Nat.le_of_ble_eq_true rfl)) dX3_forget_5 ⟨(Nat.le_of_ble_eq_true rfl), (Nat.le_of_ble_eq_true rfl)⟩) hS (fun E ce q9 H locs hce hP hS h91 h92 h93 => ?_) (fun m5 H locs hq9 hP hz9 hS => ?_)
  · rw [hQ]
    exact kx_out hout hlocks h91 h92 h93 (⟨hce.1, fun h9 => hce.2 h9.2⟩) hP hS (Nat.le_of_ble_eq_true rfl) (Nat.le_of_ble_eq_true rfl)
  obtain ⟨he9, hk5⟩ := hq9
  rw [he9] at hP
  have hx5 := hk5
  obtain ⟨j5, hj5, ej5⟩ := ok_nat (by decide) hk5
  subst ej5
  have hbj1_8 := hD.b j1 (by omega)
  refine lv_aload_n hx hb dX3_forget_8 rfl (lv_at hl 0 rfl) ?_
  refine mw_get (C := RX3) (T := TX3) (N := 7) hx hb hts in_X3_forget_X3 hown hK hP (hD.1) rfl 0 (by decide) (hts (.fieldLink RX3 13 "OctagonDesk" "slots" "[LOctagonDesk$Shape;") (by decide +kernel)) (fun _ h9 => h9) rfl dX3_forget_9 ?_
  refine lv_iload_n hx hb dX3_forget_12 rfl (lv_at hl 1 rfl) ?_
  refine mw_aldq hx hb hK hP 3 (hD.2.1.1) rfl (by omega) (by omega) (hD.2.1.2.2.2.2.1 j1 (by omega)) dX3_forget_13 ?_
  refine lv_iload_n hx hb dX3_forget_14 rfl (lv_at hl 2 rfl) ?_
  refine kc_v (va_runV (As := [.int (nI j5)]) (rest := []) ⟨hx, hb, hml, hown, hts⟩ (c_X1_release l G B (μ) (sa j1) (na j1) (la j1) k (bE j1) (F j1) j5 ((hD.2.2.2.2.1.1 j1 (by omega)).1.1) ((hD.2.2.2.2.1.1 j1 (by omega)).1.2.1) ((hD.2.2.2.2.1.1 j1 (by omega)).1.2.2) (by omega) (by omega)) (cwV 1 hts gX3_forget_X1_release rfl rfl rfl (by decide +kernel) ⟨Nat.le_of_ble_eq_true rfl, Nat.le_of_ble_eq_true rfl⟩) ⟨KW.blind, hP.recv hK rfl ((hD.2.2.2.2.1.1 j1 (by omega)).1.1), fun U9 hU9 hW9 => ⟨rfl, KW.pre hBs hKK hS hP U9 hU9 hW9⟩⟩ rfl rfl hl.1 rfl (lv_room (Nat.le_of_ble_eq_true rfl)) dX3_forget_15 ⟨(Nat.le_of_ble_eq_true rfl), (Nat.le_of_ble_eq_true rfl)⟩) hS (fun m15 H locs hq9 hP hz9 hS => ?_)
  obtain ⟨g15, rfl, hg15⟩ := hq9
  have hP : mw G.1 vwCl B (mu μ (la j1) (.inl (G.2 0, 158 * k + 158, .inr (.inl g15)))) _ := hP
  rw [hQ]
  refine vx_ret ?_
  refine W.widen (k := 2) (n := 12) (by omega) (by omega) ?_
  have hDx18 : DK G (mu μ (la j1) (.inl (G.2 0, 158 * k + 158, .inr (.inl g15)))) d aS aL aR aT aO k sc sa na la bE (va_up F j1 g15) fS fL fR fT sp fO := hD.la (by omega)
  have hRx18 : DQ μ (mu μ (la j1) (.inl (G.2 0, 158 * k + 158, .inr (.inl g15)))) d aO sa na la la := DQ.la (by omega)
  obtain ⟨μ18, em18⟩ : ∃ x9 : mp, x9 = mu μ (la j1) (.inl (G.2 0, 158 * k + 158, .inr (.inl g15))) := ⟨_, rfl⟩
  rw [← em18] at hP hDx18 hRx18
  exact W.vret hx hb hr (fun t99 ht99 hW99 => ⟨⟨μ18, rfl, (⟨⟨hx1, hx5⟩, DG.fin hA hSV hD hDx18 hRx18 hkw⟩), by show mw _ _ _ _ t99.heap; rw [ht99]; exact hP⟩, hS.F ht99⟩) hS.2.2 dX3_forget_18

abbrev rg_X3_isEmpty : Room := { frames := 7, cells := 1, slots := 6, locals := 120 }
set_option maxHeartbeats 4000000 in
set_option maxRecDepth 100000 in
theorem g_X3_isEmpty (l : Launch) (hlt : l.stackTraces = false) (G : GG) (B : Nat) (μ : mp) (d k sc : Nat) (D : Nat → Prop) (x9 : Int32) (hG : DG G μ d k sc D) : vx_Met l yX3_isEmpty wsX3_isEmpty rg_X3_isEmpty (va_Pc [.ref d, .int x9] (KX G B μ)) (va_Qi (fun r μ2 => (DG G μ2 d k sc (DN2 D μ) ∧ FD D μ μ2)) (BB G B) (fun q => B ≤ q)) (XX G B μ (fun E => E = exA)) 1 6 (fun q => B ≤ q) := by
  obtain ⟨aS, aL, aR, aT, aO, sa, na, la, bE, F, fS, fL, fR, fT, sp, fO, hD, hSV, hkw, hA⟩ := hG
  refine vx_ofW (cc := cX3_isEmpty) (maxL := 2) (ret := (some .boolean)) (by decide) rfl ?_
  intro p e s m args below meth c s₁ B9 hml hout hv
  obtain ⟨hargs, ⟨hBs, hP, hKK⟩, hDc⟩ := hv
  have hx := B9.exec
  have hb := B9.bytes
  have hr := B9.returns
  have hts := atoms_spec (ws := wsX3_isEmpty) B9.pre
  have hown : s.vm.findClass RX3 = some m.cls := findClass_of_methodNamed B9.named
  have hlocks := B9.notSynchronized
  have hK := hKK.k
  have hS : va_S (fun q => B ≤ q) s.heap s.heap [] := va_S.rf
  obtain ⟨Q, hQ⟩ : ∃ Q, Q = vx_MQ below (va_Qi (fun r μ2 => (DG G μ2 d k sc (DN2 D μ) ∧ FD D μ μ2)) (BB G B) (fun q => B ≤ q)) (XX G B μ (fun E => E = exA)) args s 1 6 (fun q => B ≤ q) := ⟨_, rfl⟩
  rw [← hQ]
  have in_X3_isEmpty_X1 : ∀ w ∈ wsX10, w ∈ wsX3_isEmpty := by decide +kernel
  have in_X3_isEmpty_X3 : ∀ w ∈ wsX30, w ∈ wsX3_isEmpty := by decide +kernel
  have hk5 := hkw.le
  have hl := lv_entry ([.ref d, .int x9]) (n := 2) (Nat.le_of_ble_eq_true rfl)
  have he9 : entryFrame m args 2 = entryFrame m ([.ref d, .int x9] : List Value).toArray 2 := by rw [hargs]
  rw [he9, lg_entry_eq]
  generalize (lg_sl ([.ref d, .int x9]) ++ List.replicate (2 - (lg_sl ([.ref d, .int x9])).length) Slot.unset).toArray = ls at hl ⊢
  have hl : lv_has ls 2 [(0, .ref d), (1, .int x9)] := hl
  refine lv_iload_n hx hb dX3_isEmpty_0 rfl (lv_at hl 1 rfl) ?_
  refine kx_v (vx_runS (As := [.int x9]) (rest := []) ⟨hx, hb, hml, hown, hts⟩ (c_X3_requireSlot l hlt G B (μ) x9) (va_cwS 1 hts gX3_isEmpty_X3_requireSlot rfl rfl rfl (by decide +kernel) ⟨Nat.le_of_ble_eq_true rfl, Nat.le_of_ble_eq_true rfl⟩) ⟨KX.blind, fun U9 hU9 hW9 => ⟨rfl, KW.pre hBs hKK hS hP U9 hU9 hW9, hDc.at hW9⟩⟩ rfl rfl hl.1 rfl (lv_room (Nat.le_of_ble_eq_true rfl)) dX3_isEmpty_1 ⟨(Nat.le_of_ble_eq_true rfl), (Nat.le_of_ble_eq_true rfl)⟩) hS (fun E ce q9 H locs hce hP hS h91 h92 h93 => ?_) (fun m1 H locs hq9 hP hz9 hS => ?_)
  · rw [hQ]
    exact kx_out hout hlocks h91 h92 h93 (hce.1) hP hS (Nat.le_of_ble_eq_true rfl) (Nat.le_of_ble_eq_true rfl)
  obtain ⟨he9, hk1⟩ := hq9
  rw [he9] at hP
  have hx1 := hk1
  obtain ⟨j1, hj1, ej1⟩ := ok_nat (by decide) hk1
  subst ej1
  have hb9 := (hD.b j1 (by omega)).1
  refine lv_aload_n hx hb dX3_isEmpty_4 rfl (lv_at hl 0 rfl) ?_
  refine mw_get (C := RX3) (T := TX3) (N := 7) hx hb hts in_X3_isEmpty_X3 hown hK hP (hD.1) rfl 0 (by decide) (hts (.fieldLink RX3 13 "OctagonDesk" "slots" "[LOctagonDesk$Shape;") (by decide +kernel)) (fun _ h9 => h9) rfl dX3_isEmpty_5 ?_
  refine lv_iload_n hx hb dX3_isEmpty_8 rfl (lv_at hl 1 rfl) ?_
  refine mw_aldq hx hb hK hP 3 (hD.2.1.1) rfl (by omega) (by omega) (hD.2.1.2.2.2.2.1 j1 (by omega)) dX3_isEmpty_9 ?_
  refine mw_get (C := RX1) (T := TX1) (N := 2) hx hb hts in_X3_isEmpty_X1 hown hK hP ((hD.2.2.2.2.1.1 j1 (by omega)).1.1) rfl 1 (by decide) (hts (.fieldLink RX3 63 "OctagonDesk$Shape" "empty" "Z") (by decide +kernel)) (fun _ h9 => h9) rfl dX3_isEmpty_10 ?_
  rw [hQ]
  refine vx_ret ?_
  refine W.widen (k := 1) (n := 6) (by omega) (by omega) ?_
  exact W.zret (v := nI (bE j1)) (ty := .boolean) hx hb hr (zb_n (by omega)) (fun t99 ht99 hW99 => ⟨⟨nI (bE j1), μ, rfl, (DG.fin hA hSV hD hD (DQ.rf _ _ _ _ _ _) hkw), by show mw _ _ _ _ t99.heap; rw [ht99]; exact hP⟩, hS.F ht99⟩) hS.2.2 dX3_isEmpty_13

abbrev rg_X3_inside : Room := { frames := 7, cells := 2, slots := 12, locals := 120 }
set_option maxHeartbeats 4000000 in
set_option maxRecDepth 100000 in
theorem g_X3_inside (l : Launch) (hlt : l.stackTraces = false) (G : GG) (B : Nat) (μ : mp) (d k sc : Nat) (D : Nat → Prop) (x9 y9 : Int32) (hG : DG G μ d k sc D) : vx_Met l yX3_inside wsX3_inside rg_X3_inside (va_Pc [.ref d, .int x9, .int y9] (KX G B μ)) (va_Qi (fun r μ2 => (DG G μ2 d k sc (DN2 D μ) ∧ FD D μ μ2)) (BB G B) (fun q => B ≤ q)) (XX G B μ (fun E => E = exA)) 2 12 (fun q => B ≤ q) := by
  obtain ⟨aS, aL, aR, aT, aO, sa, na, la, bE, F, fS, fL, fR, fT, sp, fO, hD, hSV, hkw, hA⟩ := hG
  refine vx_ofW (cc := cX3_inside) (maxL := 3) (ret := (some .boolean)) (by decide) rfl ?_
  intro p e s m args below meth c s₁ B9 hml hout hv
  obtain ⟨hargs, ⟨hBs, hP, hKK⟩, hDc⟩ := hv
  have hx := B9.exec
  have hb := B9.bytes
  have hr := B9.returns
  have hts := atoms_spec (ws := wsX3_inside) B9.pre
  have hown : s.vm.findClass RX3 = some m.cls := findClass_of_methodNamed B9.named
  have hlocks := B9.notSynchronized
  have hK := hKK.k
  have hS : va_S (fun q => B ≤ q) s.heap s.heap [] := va_S.rf
  obtain ⟨Q, hQ⟩ : ∃ Q, Q = vx_MQ below (va_Qi (fun r μ2 => (DG G μ2 d k sc (DN2 D μ) ∧ FD D μ μ2)) (BB G B) (fun q => B ≤ q)) (XX G B μ (fun E => E = exA)) args s 2 12 (fun q => B ≤ q) := ⟨_, rfl⟩
  rw [← hQ]
  have in_X3_inside_X3 : ∀ w ∈ wsX30, w ∈ wsX3_inside := by decide +kernel
  have hk5 := hkw.le
  have hl := lv_entry ([.ref d, .int x9, .int y9]) (n := 3) (Nat.le_of_ble_eq_true rfl)
  have he9 : entryFrame m args 3 = entryFrame m ([.ref d, .int x9, .int y9] : List Value).toArray 3 := by rw [hargs]
  rw [he9, lg_entry_eq]
  generalize (lg_sl ([.ref d, .int x9, .int y9]) ++ List.replicate (3 - (lg_sl ([.ref d, .int x9, .int y9])).length) Slot.unset).toArray = ls at hl ⊢
  have hl : lv_has ls 3 [(0, .ref d), (1, .int x9), (2, .int y9)] := hl
  refine lv_iload_n hx hb dX3_inside_0 rfl (lv_at hl 1 rfl) ?_
  refine kx_v (vx_runS (As := [.int x9]) (rest := []) ⟨hx, hb, hml, hown, hts⟩ (c_X3_requireSlot l hlt G B (μ) x9) (va_cwS 1 hts gX3_inside_X3_requireSlot rfl rfl rfl (by decide +kernel) ⟨Nat.le_of_ble_eq_true rfl, Nat.le_of_ble_eq_true rfl⟩) ⟨KX.blind, fun U9 hU9 hW9 => ⟨rfl, KW.pre hBs hKK hS hP U9 hU9 hW9, hDc.at hW9⟩⟩ rfl rfl hl.1 rfl (lv_room (Nat.le_of_ble_eq_true rfl)) dX3_inside_1 ⟨(Nat.le_of_ble_eq_true rfl), (Nat.le_of_ble_eq_true rfl)⟩) hS (fun E ce q9 H locs hce hP hS h91 h92 h93 => ?_) (fun m1 H locs hq9 hP hz9 hS => ?_)
  · rw [hQ]
    exact kx_out hout hlocks h91 h92 h93 (hce.1) hP hS (Nat.le_of_ble_eq_true rfl) (Nat.le_of_ble_eq_true rfl)
  obtain ⟨he9, hk1⟩ := hq9
  rw [he9] at hP
  have hx1 := hk1
  obtain ⟨j1, hj1, ej1⟩ := ok_nat (by decide) hk1
  subst ej1
  refine lv_iload_n hx hb dX3_inside_4 rfl (lv_at hl 2 rfl) ?_
  refine kx_v (vx_runS (As := [.int y9]) (rest := []) ⟨hx, hb, hml, hown, hts⟩ (c_X3_requireSlot l hlt G B (μ) y9) (va_cwS 1 hts gX3_inside_X3_requireSlot rfl rfl rfl (by decide +kernel) ⟨Nat.le_of_ble_eq_true rfl, Nat.le_of_ble_eq_true rfl⟩) ⟨KX.blind, fun U9 hU9 hW9 => ⟨rfl, KW.pre hBs hKK hS hP U9 hU9 hW9, hDc.at hW9⟩⟩ rfl rfl hl.1 rfl (lv_room (Nat.le_of_ble_eq_true rfl)) dX3_inside_5 ⟨(Nat.le_of_ble_eq_true rfl), (Nat.le_of_ble_eq_true rfl)⟩) hS (fun E ce q9 H locs hce hP hS h91 h92 h93 => ?_) (fun m5 H locs hq9 hP hz9 hS => ?_)
  · rw [hQ]
    exact kx_out hout hlocks h91 h92 h93 (hce.1) hP hS (Nat.le_of_ble_eq_true rfl) (Nat.le_of_ble_eq_true rfl)
  obtain ⟨he9, hk5⟩ := hq9
  rw [he9] at hP
  have hx5 := hk5
  obtain ⟨j5, hj5, ej5⟩ := ok_nat (by decide) hk5
  subst ej5
  have hbj1_8 := hD.b j1 (by omega)
  have hbj5_8 := hD.b j5 (by omega)
  refine lv_aload_n hx hb dX3_inside_8 rfl (lv_at hl 0 rfl) ?_
  refine mw_get (C := RX3) (T := TX3) (N := 7) hx hb hts in_X3_inside_X3 hown hK hP (hD.1) rfl 0 (by decide) (hts (.fieldLink RX3 13 "OctagonDesk" "slots" "[LOctagonDesk$Shape;") (by decide +kernel)) (fun _ h9 => h9) rfl dX3_inside_9 ?_
  refine lv_iload_n hx hb dX3_inside_12 rfl (lv_at hl 1 rfl) ?_
  refine mw_aldq hx hb hK hP 3 (hD.2.1.1) rfl (by omega) (by omega) (hD.2.1.2.2.2.2.1 j1 (by omega)) dX3_inside_13 ?_
  refine lv_aload_n hx hb dX3_inside_14 rfl (lv_at hl 0 rfl) ?_
  refine mw_get (C := RX3) (T := TX3) (N := 7) hx hb hts in_X3_inside_X3 hown hK hP (hD.1) rfl 0 (by decide) (hts (.fieldLink RX3 13 "OctagonDesk" "slots" "[LOctagonDesk$Shape;") (by decide +kernel)) (fun _ h9 => h9) rfl dX3_inside_15 ?_
  refine lv_iload_n hx hb dX3_inside_18 rfl (lv_at hl 2 rfl) ?_
  refine mw_aldq hx hb hK hP 3 (hD.2.1.1) rfl (by omega) (by omega) (hD.2.1.2.2.2.2.1 j5 (by omega)) dX3_inside_19 ?_
  refine kc_i (va_runV (As := [.ref (sa j5)]) (rest := []) ⟨hx, hb, hml, hown, hts⟩ (c_X1_isWithin l G B (μ) (sa j1) (na j1) (la j1) k (bE j1) (F j1) (sa j5) (na j5) (la j5) (bE j5) (F j5)  ((hD.2.2.2.2.1.1 j1 (by omega)).1.1) ((hD.2.2.2.2.1.1 j1 (by omega)).1.2.1) ((hD.2.2.2.2.1.1 j1 (by omega)).1.2.2) ((hD.2.2.2.2.1.1 j5 (by omega)).1.1) ((hD.2.2.2.2.1.1 j5 (by omega)).1.2.1) ((hD.2.2.2.2.1.1 j5 (by omega)).1.2.2) (by omega) (by omega) (by omega)) (cwV 1 hts gX3_inside_X1_isWithin rfl rfl rfl (by decide +kernel) ⟨Nat.le_of_ble_eq_true rfl, Nat.le_of_ble_eq_true rfl⟩) ⟨KW.blind, hP.recv hK rfl ((hD.2.2.2.2.1.1 j1 (by omega)).1.1), fun U9 hU9 hW9 => ⟨rfl, KW.pre hBs hKK hS hP U9 hU9 hW9⟩⟩ rfl rfl hl.1 rfl (lv_room (Nat.le_of_ble_eq_true rfl)) dX3_inside_20 ⟨(Nat.le_of_ble_eq_true rfl), (Nat.le_of_ble_eq_true rfl)⟩) hS (fun r20 m20 H locs hq9 hP hz9 hS => ?_)
  obtain ⟨he9, hbr20, hr20⟩ := hq9
  rw [he9] at hP
  rw [hQ]
  refine vx_ret ?_
  refine W.widen (k := 2) (n := 12) (by omega) (by omega) ?_
  exact W.zret (v := r20) (ty := .boolean) hx hb hr (zb_r hbr20) (fun t99 ht99 hW99 => ⟨⟨r20, μ, rfl, (DG.fin hA hSV hD hD (DQ.rf _ _ _ _ _ _) hkw), by show mw _ _ _ _ t99.heap; rw [ht99]; exact hP⟩, hS.F ht99⟩) hS.2.2 dX3_inside_23

abbrev rg_X3_bounds : Room := { frames := 7, cells := 1, slots := 6, locals := 120 }
set_option maxHeartbeats 4000000 in
set_option maxRecDepth 100000 in
theorem g_X3_bounds (l : Launch) (hlt : l.stackTraces = false) (G : GG) (B : Nat) (μ : mp) (d k sc : Nat) (D : Nat → Prop) (x9 : Int32) (hG : DG G μ d k sc D) : vx_Met l yX3_bounds wsX3_bounds rg_X3_bounds (va_Pc [.ref d, .int x9] (KX G B μ)) (va_Qi (fun r μ2 => (DG G μ2 d k sc (DN2 D μ) ∧ FD D μ μ2)) (BB G B) (fun q => B ≤ q)) (XX G B μ (fun E => E = exA)) 1 6 (fun q => B ≤ q) := by
  obtain ⟨aS, aL, aR, aT, aO, sa, na, la, bE, F, fS, fL, fR, fT, sp, fO, hD, hSV, hkw, hA⟩ := hG
  refine vx_ofW (cc := cX3_bounds) (maxL := 2) (ret := (some .int)) (by decide) rfl ?_
  intro p e s m args below meth c s₁ B9 hml hout hv
  obtain ⟨hargs, ⟨hBs, hP, hKK⟩, hDc⟩ := hv
  have hx := B9.exec
  have hb := B9.bytes
  have hr := B9.returns
  have hts := atoms_spec (ws := wsX3_bounds) B9.pre
  have hown : s.vm.findClass RX3 = some m.cls := findClass_of_methodNamed B9.named
  have hlocks := B9.notSynchronized
  have hK := hKK.k
  have hS : va_S (fun q => B ≤ q) s.heap s.heap [] := va_S.rf
  obtain ⟨Q, hQ⟩ : ∃ Q, Q = vx_MQ below (va_Qi (fun r μ2 => (DG G μ2 d k sc (DN2 D μ) ∧ FD D μ μ2)) (BB G B) (fun q => B ≤ q)) (XX G B μ (fun E => E = exA)) args s 1 6 (fun q => B ≤ q) := ⟨_, rfl⟩
  rw [← hQ]
  have in_X3_bounds_X1 : ∀ w ∈ wsX10, w ∈ wsX3_bounds := by decide +kernel
  have in_X3_bounds_X3 : ∀ w ∈ wsX30, w ∈ wsX3_bounds := by decide +kernel
  have hk5 := hkw.le
  have hl := lv_entry ([.ref d, .int x9]) (n := 2) (Nat.le_of_ble_eq_true rfl)
  have he9 : entryFrame m args 2 = entryFrame m ([.ref d, .int x9] : List Value).toArray 2 := by rw [hargs]
  rw [he9, lg_entry_eq]
  generalize (lg_sl ([.ref d, .int x9]) ++ List.replicate (2 - (lg_sl ([.ref d, .int x9])).length) Slot.unset).toArray = ls at hl ⊢
  have hl : lv_has ls 2 [(0, .ref d), (1, .int x9)] := hl
  refine lv_iload_n hx hb dX3_bounds_0 rfl (lv_at hl 1 rfl) ?_
  refine kx_v (vx_runS (As := [.int x9]) (rest := []) ⟨hx, hb, hml, hown, hts⟩ (c_X3_requireSlot l hlt G B (μ) x9) (va_cwS 1 hts gX3_bounds_X3_requireSlot rfl rfl rfl (by decide +kernel) ⟨Nat.le_of_ble_eq_true rfl, Nat.le_of_ble_eq_true rfl⟩) ⟨KX.blind, fun U9 hU9 hW9 => ⟨rfl, KW.pre hBs hKK hS hP U9 hU9 hW9, hDc.at hW9⟩⟩ rfl rfl hl.1 rfl (lv_room (Nat.le_of_ble_eq_true rfl)) dX3_bounds_1 ⟨(Nat.le_of_ble_eq_true rfl), (Nat.le_of_ble_eq_true rfl)⟩) hS (fun E ce q9 H locs hce hP hS h91 h92 h93 => ?_) (fun m1 H locs hq9 hP hz9 hS => ?_)
  · rw [hQ]
    exact kx_out hout hlocks h91 h92 h93 (hce.1) hP hS (Nat.le_of_ble_eq_true rfl) (Nat.le_of_ble_eq_true rfl)
  obtain ⟨he9, hk1⟩ := hq9
  rw [he9] at hP
  have hx1 := hk1
  obtain ⟨j1, hj1, ej1⟩ := ok_nat (by decide) hk1
  subst ej1
  have hbj1_4 := hD.b j1 (by omega)
  refine lv_aload_n hx hb dX3_bounds_4 rfl (lv_at hl 0 rfl) ?_
  refine mw_get (C := RX3) (T := TX3) (N := 7) hx hb hts in_X3_bounds_X3 hown hK hP (hD.1) rfl 0 (by decide) (hts (.fieldLink RX3 13 "OctagonDesk" "slots" "[LOctagonDesk$Shape;") (by decide +kernel)) (fun _ h9 => h9) rfl dX3_bounds_5 ?_
  refine lv_iload_n hx hb dX3_bounds_8 rfl (lv_at hl 1 rfl) ?_
  refine mw_aldq hx hb hK hP 3 (hD.2.1.1) rfl (by omega) (by omega) (hD.2.1.2.2.2.2.1 j1 (by omega)) dX3_bounds_9 ?_
  refine mw_get (C := RX1) (T := TX1) (N := 2) hx hb hts in_X3_bounds_X1 hown hK hP ((hD.2.2.2.2.1.1 j1 (by omega)).1.1) rfl 1 (by decide) (hts (.fieldLink RX3 63 "OctagonDesk$Shape" "empty" "Z") (by decide +kernel)) (fun _ h9 => h9) rfl dX3_bounds_10 ?_
  refine lv_if_eq (tgt := 20) hx hb dX3_bounds_13 (by decide) (fun hc13 => ?_) (fun hc13 => ?_)
  · refine lv_aload_n hx hb dX3_bounds_20 rfl (lv_at hl 0 rfl) ?_
    refine mw_get (C := RX3) (T := TX3) (N := 7) hx hb hts in_X3_bounds_X3 hown hK hP (hD.1) rfl 0 (by decide) (hts (.fieldLink RX3 13 "OctagonDesk" "slots" "[LOctagonDesk$Shape;") (by decide +kernel)) (fun _ h9 => h9) rfl dX3_bounds_21 ?_
    refine lv_iload_n hx hb dX3_bounds_24 rfl (lv_at hl 1 rfl) ?_
    refine mw_aldq hx hb hK hP 3 (hD.2.1.1) rfl (by omega) (by omega) (hD.2.1.2.2.2.2.1 j1 (by omega)) dX3_bounds_25 ?_
    refine kc_i (va_runV (As := []) (rest := []) ⟨hx, hb, hml, hown, hts⟩ (c_X1_countBounds l G B (μ) (sa j1) (na j1) (la j1) k (bE j1) (F j1)  ((hD.2.2.2.2.1.1 j1 (by omega)).1.1) ((hD.2.2.2.2.1.1 j1 (by omega)).1.2.1) ((hD.2.2.2.2.1.1 j1 (by omega)).1.2.2) (by omega)) (cwV 0 hts gX3_bounds_X1_countBounds rfl rfl rfl (by decide +kernel) ⟨Nat.le_of_ble_eq_true rfl, Nat.le_of_ble_eq_true rfl⟩) ⟨KW.blind, hP.recv hK rfl ((hD.2.2.2.2.1.1 j1 (by omega)).1.1), fun U9 hU9 hW9 => ⟨rfl, KW.pre hBs hKK hS hP U9 hU9 hW9⟩⟩ rfl rfl hl.1 rfl (lv_room (Nat.le_of_ble_eq_true rfl)) dX3_bounds_26 ⟨(Nat.le_of_ble_eq_true rfl), (Nat.le_of_ble_eq_true rfl)⟩) hS (fun r26 m26 H locs hq9 hP hz9 hS => ?_)
    obtain ⟨he9, n26, rfl, hn26⟩ := hq9
    rw [he9] at hP
    rw [hQ]
    refine vx_ret ?_
    refine W.widen (k := 1) (n := 6) (by omega) (by omega) ?_
    exact W.iret (v := nI n26) hx hb hr (fun t99 ht99 hW99 => ⟨⟨nI n26, μ, rfl, (DG.fin hA hSV hD hD (DQ.rf _ _ _ _ _ _) hkw), by show mw _ _ _ _ t99.heap; rw [ht99]; exact hP⟩, hS.F ht99⟩) hS.2.2 dX3_bounds_29
  · refine lv_iconst (v := (-1)) hx hb dX3_bounds_16 (by decide) ?_
    refine lv_goto (tgt := 29) hx hb dX3_bounds_17 (by decide) ?_
    rw [hQ]
    refine vx_ret ?_
    refine W.widen (k := 1) (n := 6) (by omega) (by omega) ?_
    exact W.iret (v := (-1)) hx hb hr (fun t99 ht99 hW99 => ⟨⟨(-1), μ, rfl, (DG.fin hA hSV hD hD (DQ.rf _ _ _ _ _ _) hkw), by show mw _ _ _ _ t99.heap; rw [ht99]; exact hP⟩, hS.F ht99⟩) hS.2.2 dX3_bounds_29

abbrev rg_X3_take : Room := { frames := 7, cells := 2, slots := 12, locals := 120 }
set_option maxHeartbeats 4000000 in
set_option maxRecDepth 100000 in
theorem g_X3_take (l : Launch) (hlt : l.stackTraces = false) (G : GG) (B : Nat) (μ : mp) (d k sc : Nat) (D : Nat → Prop) (x9 y9 : Int32) (hG : DG G μ d k sc D) : vx_Met l yX3_take wsX3_take rg_X3_take (va_Pc [.ref d, .int x9, .int y9] (KX G B μ)) (va_Qi (fun r μ2 => (DG G μ2 d k sc (DN2 D μ) ∧ FD D μ μ2)) (BB G B) (fun q => B ≤ q)) (XX G B μ (fun E => E = exA)) 2 12 (fun q => B ≤ q) := by
  obtain ⟨aS, aL, aR, aT, aO, sa, na, la, bE, F, fS, fL, fR, fT, sp, fO, hD, hSV, hkw, hA⟩ := hG
  refine vx_ofW (cc := cX3_take) (maxL := 3) (ret := (some .boolean)) (by decide) rfl ?_
  intro p e s m args below meth c s₁ B9 hml hout hv
  obtain ⟨hargs, ⟨hBs, hP, hKK⟩, hDc⟩ := hv
  have hx := B9.exec
  have hb := B9.bytes
  have hr := B9.returns
  have hts := atoms_spec (ws := wsX3_take) B9.pre
  have hown : s.vm.findClass RX3 = some m.cls := findClass_of_methodNamed B9.named
  have hlocks := B9.notSynchronized
  have hK := hKK.k
  have hS : va_S (fun q => B ≤ q) s.heap s.heap [] := va_S.rf
  obtain ⟨Q, hQ⟩ : ∃ Q, Q = vx_MQ below (va_Qi (fun r μ2 => (DG G μ2 d k sc (DN2 D μ) ∧ FD D μ μ2)) (BB G B) (fun q => B ≤ q)) (XX G B μ (fun E => E = exA)) args s 2 12 (fun q => B ≤ q) := ⟨_, rfl⟩
  rw [← hQ]
  have in_X3_take_X1 : ∀ w ∈ wsX10, w ∈ wsX3_take := by decide +kernel
  have in_X3_take_X3 : ∀ w ∈ wsX30, w ∈ wsX3_take := by decide +kernel
  have hk5 := hkw.le
  have hl := lv_entry ([.ref d, .int x9, .int y9]) (n := 3) (Nat.le_of_ble_eq_true rfl)
  have he9 : entryFrame m args 3 = entryFrame m ([.ref d, .int x9, .int y9] : List Value).toArray 3 := by rw [hargs]
  rw [he9, lg_entry_eq]
  generalize (lg_sl ([.ref d, .int x9, .int y9]) ++ List.replicate (3 - (lg_sl ([.ref d, .int x9, .int y9])).length) Slot.unset).toArray = ls at hl ⊢
  have hl : lv_has ls 3 [(0, .ref d), (1, .int x9), (2, .int y9)] := hl
  refine lv_iload_n hx hb dX3_take_0 rfl (lv_at hl 1 rfl) ?_
  refine kx_v (vx_runS (As := [.int x9]) (rest := []) ⟨hx, hb, hml, hown, hts⟩ (c_X3_requireSlot l hlt G B (μ) x9) (va_cwS 1 hts gX3_take_X3_requireSlot rfl rfl rfl (by decide +kernel) ⟨Nat.le_of_ble_eq_true rfl, Nat.le_of_ble_eq_true rfl⟩) ⟨KX.blind, fun U9 hU9 hW9 => ⟨rfl, KW.pre hBs hKK hS hP U9 hU9 hW9, hDc.at hW9⟩⟩ rfl rfl hl.1 rfl (lv_room (Nat.le_of_ble_eq_true rfl)) dX3_take_1 ⟨(Nat.le_of_ble_eq_true rfl), (Nat.le_of_ble_eq_true rfl)⟩) hS (fun E ce q9 H locs hce hP hS h91 h92 h93 => ?_) (fun m1 H locs hq9 hP hz9 hS => ?_)
  · rw [hQ]
    exact kx_out hout hlocks h91 h92 h93 (hce.1) hP hS (Nat.le_of_ble_eq_true rfl) (Nat.le_of_ble_eq_true rfl)
  obtain ⟨he9, hk1⟩ := hq9
  rw [he9] at hP
  have hx1 := hk1
  obtain ⟨j1, hj1, ej1⟩ := ok_nat (by decide) hk1
  subst ej1
  refine lv_iload_n hx hb dX3_take_4 rfl (lv_at hl 2 rfl) ?_
  refine lv_if_lt (tgt := 14) hx hb dX3_take_5 (by decide) (fun hc5 => ?_) (fun hc5 => ?_)
  · rw [hQ]
    exact kx_throw (is := 149) hx hb hlt hown (by decide +kernel) (hts (.classLink RX3 126 exA) (by decide +kernel)) (hts (.initialized exA) (by decide +kernel)) (List.mem_of_getElem? (i := 2) rfl) hKK.2.2.2.2.1.1 hDc (fun w9 h9 => hts w9 (List.mem_cons_of_mem _ (List.mem_append_right _ h9))) (by decide +kernel) (by decide +kernel) hKK hP hS (hl.1.trans hml.symm) dX3_take_14 dX3_take_17 dX3_take_18 dX3_take_20 dX3_take_23 hout (Nat.le_of_ble_eq_true rfl) (Nat.le_of_ble_eq_true rfl) (Nat.le_of_ble_eq_true rfl) (Nat.le_of_ble_eq_true rfl) (Nat.le_of_ble_eq_true rfl) hlocks (rfl) (Nat.le_of_ble_eq_true rfl) (Nat.le_of_ble_eq_true rfl)
  · refine lv_iload_n hx hb dX3_take_8 rfl (lv_at hl 2 rfl) ?_
    refine lv_bipush (v := nI 8) hx hb dX3_take_9 (by decide) ?_
    refine lv_icmp_lt (tgt := 24) hx hb dX3_take_11 (by decide) (fun hc11 => ?_) (fun hc11 => ?_)
    · have hw9 : okJ y9 := ⟨hc5, hc11⟩
      obtain ⟨ny9, hny9, eny9⟩ := ok_nat (n := 8) (by decide) hw9
      subst eny9
      have hbj1_24 := hD.b j1 (by omega)
      have hb_6___ny9__24 := hD.b (6 + ny9) (by omega)
      refine lv_aload_n hx hb dX3_take_24 rfl (lv_at hl 0 rfl) ?_
      refine mw_get (C := RX3) (T := TX3) (N := 7) hx hb hts in_X3_take_X3 hown hK hP (hD.1) rfl 0 (by decide) (hts (.fieldLink RX3 13 "OctagonDesk" "slots" "[LOctagonDesk$Shape;") (by decide +kernel)) (fun _ h9 => h9) rfl dX3_take_25 ?_
      refine lv_iload_n hx hb dX3_take_28 rfl (lv_at hl 1 rfl) ?_
      refine mw_aldq hx hb hK hP 3 (hD.2.1.1) rfl (by omega) (by omega) (hD.2.1.2.2.2.2.1 j1 (by omega)) dX3_take_29 ?_
      refine lv_aload_n hx hb dX3_take_30 rfl (lv_at hl 0 rfl) ?_
      refine mw_get (C := RX3) (T := TX3) (N := 7) hx hb hts in_X3_take_X3 hown hK hP (hD.1) rfl 5 (by decide) (hts (.fieldLink RX3 22 "OctagonDesk" "left" "[LOctagonDesk$Shape;") (by decide +kernel)) (fun _ h9 => h9) rfl dX3_take_31 ?_
      refine lv_iload_n hx hb dX3_take_34 rfl (lv_at hl 2 rfl) ?_
      refine mw_aldq hx hb hK hP 3 (hD.2.1.2.1) rfl (by omega) (by omega) (hD.2.1.2.2.2.2.2.1 ny9 (by omega)) dX3_take_35 ?_
      refine kc_v (va_runV (As := [.ref (sa (6 + ny9))]) (rest := []) ⟨hx, hb, hml, hown, hts⟩ (c_X1_takeOver l G B (μ) (sa j1) (na j1) (la j1) k (bE j1) (F j1) (sa (6 + ny9)) (na (6 + ny9)) (la (6 + ny9)) (bE (6 + ny9)) (F (6 + ny9))  ((hD.2.2.2.2.1.1 j1 (by omega)).1.1) ((hD.2.2.2.2.1.1 j1 (by omega)).1.2.1) ((hD.2.2.2.2.1.1 j1 (by omega)).1.2.2) ((hD.2.2.2.2.1.1 (6 + ny9) (by omega)).1.1) ((hD.2.2.2.2.1.1 (6 + ny9) (by omega)).1.2.1) ((hD.2.2.2.2.1.1 (6 + ny9) (by omega)).1.2.2) (by omega) (by omega)) (cwV 1 hts gX3_take_X1_takeOver rfl rfl rfl (by decide +kernel) ⟨Nat.le_of_ble_eq_true rfl, Nat.le_of_ble_eq_true rfl⟩) ⟨KW.blind, hP.recv hK rfl ((hD.2.2.2.2.1.1 j1 (by omega)).1.1), fun U9 hU9 hW9 => ⟨rfl, KW.pre hBs hKK hS hP U9 hU9 hW9⟩⟩ rfl rfl hl.1 rfl (lv_room (Nat.le_of_ble_eq_true rfl)) dX3_take_36 ⟨(Nat.le_of_ble_eq_true rfl), (Nat.le_of_ble_eq_true rfl)⟩) hS (fun m36 H locs hq9 hP hz9 hS => ?_)
      obtain ⟨g36, rfl, hg36⟩ := hq9
      have hP : mw G.1 vwCl B (mu (mu μ (la j1) (.inl (G.2 0, 158 * k + 158, .inr (.inl g36)))) (sa j1) (.inr (1, [.ref (na j1), .int (nI (bE (6 + ny9)))]))) _ := mw_eq (congrArg (fun z => mu z (sa j1) (.inr (1, [.ref (na j1), .int (nI (bE (6 + ny9)))]))) (rfl)) hP
      refine lv_aload_n hx hb dX3_take_39 rfl (lv_at hl 0 rfl) ?_
      refine mw_get (C := RX3) (T := TX3) (N := 7) hx hb hts in_X3_take_X3 hown hK hP ((mu_n ((mp_ne hD.1 ((hD.2.2.2.2.1.1 j1 (by omega)).1.1) (by simp)))).trans ((mu_n ((mp_ne hD.1 ((hD.2.2.2.2.1.1 j1 (by omega)).1.2.2) (by simp)))).trans (hD.1))) rfl 0 (by decide) (hts (.fieldLink RX3 13 "OctagonDesk" "slots" "[LOctagonDesk$Shape;") (by decide +kernel)) (fun _ h9 => h9) rfl dX3_take_40 ?_
      refine lv_iload_n hx hb dX3_take_43 rfl (lv_at hl 1 rfl) ?_
      refine mw_aldq hx hb hK hP 3 ((mu_n ((mp_ne hD.2.1.1 ((hD.2.2.2.2.1.1 j1 (by omega)).1.1) (by simp)))).trans ((mu_n ((mp_ne hD.2.1.1 ((hD.2.2.2.2.1.1 j1 (by omega)).1.2.2) (by simp)))).trans (hD.2.1.1))) rfl (by omega) (by omega) (hD.2.1.2.2.2.2.1 j1 (by omega)) dX3_take_44 ?_
      refine mw_get (C := RX1) (T := TX1) (N := 2) hx hb hts in_X3_take_X1 hown hK hP (mu_s _ _ _) rfl 1 (by decide) (hts (.fieldLink RX3 63 "OctagonDesk$Shape" "empty" "Z") (by decide +kernel)) (fun _ h9 => h9) rfl dX3_take_45 ?_
      refine lv_if_ne (tgt := 55) hx hb dX3_take_48 (by decide) (fun hc48 => ?_) (fun hc48 => ?_)
      · refine lv_iconst (v := nI 0) hx hb dX3_take_55 (by decide) ?_
        rw [hQ]
        refine vx_ret ?_
        refine W.widen (k := 2) (n := 12) (by omega) (by omega) ?_
        have hDx56 : DK G (mu (mu μ (la j1) (.inl (G.2 0, 158 * k + 158, .inr (.inl g36)))) (sa j1) (.inr (1, [.ref (na j1), .int (nI (bE (6 + ny9)))]))) d aS aL aR aT aO k sc sa na la (va_up bE j1 (bE (6 + ny9))) (va_up F j1 g36) fS fL fR fT sp fO := hD.sh2 (by omega) (by omega)
        have hRx56 : DQ μ (mu (mu μ (la j1) (.inl (G.2 0, 158 * k + 158, .inr (.inl g36)))) (sa j1) (.inr (1, [.ref (na j1), .int (nI (bE (6 + ny9)))]))) d aO sa na la la := DQ.sh2 (by omega)
        obtain ⟨μ56, em56⟩ : ∃ x9 : mp, x9 = mu (mu μ (la j1) (.inl (G.2 0, 158 * k + 158, .inr (.inl g36)))) (sa j1) (.inr (1, [.ref (na j1), .int (nI (bE (6 + ny9)))])) := ⟨_, rfl⟩
        rw [← em56] at hP hDx56 hRx56
        exact W.zret (v := nI 0) (ty := .boolean) hx hb hr (by first | rfl | decide) (fun t99 ht99 hW99 => ⟨⟨nI 0, μ56, rfl, (DG.fin hA hSV hD hDx56 hRx56 hkw), by show mw _ _ _ _ t99.heap; rw [ht99]; exact hP⟩, hS.F ht99⟩) hS.2.2 dX3_take_56
      · refine lv_iconst (v := nI 1) hx hb dX3_take_51 (by decide) ?_
        refine lv_goto (tgt := 56) hx hb dX3_take_52 (by decide) ?_
        rw [hQ]
        refine vx_ret ?_
        refine W.widen (k := 2) (n := 12) (by omega) (by omega) ?_
        have hDx56 : DK G (mu (mu μ (la j1) (.inl (G.2 0, 158 * k + 158, .inr (.inl g36)))) (sa j1) (.inr (1, [.ref (na j1), .int (nI (bE (6 + ny9)))]))) d aS aL aR aT aO k sc sa na la (va_up bE j1 (bE (6 + ny9))) (va_up F j1 g36) fS fL fR fT sp fO := hD.sh2 (by omega) (by omega)
        have hRx56 : DQ μ (mu (mu μ (la j1) (.inl (G.2 0, 158 * k + 158, .inr (.inl g36)))) (sa j1) (.inr (1, [.ref (na j1), .int (nI (bE (6 + ny9)))]))) d aO sa na la la := DQ.sh2 (by omega)
        obtain ⟨μ56, em56⟩ : ∃ x9 : mp, x9 = mu (mu μ (la j1) (.inl (G.2 0, 158 * k + 158, .inr (.inl g36)))) (sa j1) (.inr (1, [.ref (na j1), .int (nI (bE (6 + ny9)))])) := ⟨_, rfl⟩
        rw [← em56] at hP hDx56 hRx56
        exact W.zret (v := nI 1) (ty := .boolean) hx hb hr (by first | rfl | decide) (fun t99 ht99 hW99 => ⟨⟨nI 1, μ56, rfl, (DG.fin hA hSV hD hDx56 hRx56 hkw), by show mw _ _ _ _ t99.heap; rw [ht99]; exact hP⟩, hS.F ht99⟩) hS.2.2 dX3_take_56
    · rw [hQ]
      exact kx_throw (is := 149) hx hb hlt hown (by decide +kernel) (hts (.classLink RX3 126 exA) (by decide +kernel)) (hts (.initialized exA) (by decide +kernel)) (List.mem_of_getElem? (i := 2) rfl) hKK.2.2.2.2.1.1 hDc (fun w9 h9 => hts w9 (List.mem_cons_of_mem _ (List.mem_append_right _ h9))) (by decide +kernel) (by decide +kernel) hKK hP hS (hl.1.trans hml.symm) dX3_take_14 dX3_take_17 dX3_take_18 dX3_take_20 dX3_take_23 hout (Nat.le_of_ble_eq_true rfl) (Nat.le_of_ble_eq_true rfl) (Nat.le_of_ble_eq_true rfl) (Nat.le_of_ble_eq_true rfl) (Nat.le_of_ble_eq_true rfl) hlocks (rfl) (Nat.le_of_ble_eq_true rfl) (Nat.le_of_ble_eq_true rfl)

abbrev rg_X3_join (k : Nat) : Room := { frames := 8, cells := 5 + 23 * (511 - k), slots := 30 + 7268 * (511 - k), locals := 167 }
set_option maxHeartbeats 4000000 in
set_option maxRecDepth 100000 in
theorem g_X3_join (l : Launch) (hlt : l.stackTraces = false) (G : GG) (B : Nat) (μ : mp) (N9 T9 : Nat) (d k sc : Nat) (D : Nat → Prop) (x9 y9 z9 : Int32) (hG : DG G μ d k sc D) : vx_Met l yX3_join wsX3_join (rg_X3_join k) (va_Pc [.ref d, .int x9, .int y9, .int z9] (KXN G B N9 T9 μ)) (va_Qv (fun (u9 : mp × Nat) => (fun μ2 k2 => (okS x9 ∧ okS y9 ∧ okS z9) ∧ (DG G μ2 d k2 sc (DN2 D μ) ∧ FD D μ μ2) ∧ k ≤ k2) u9.1 u9.2) (BG G B N9 T9 k 5 30) (fun q => B ≤ q)) (XN G B N9 T9 5 30 μ (fun E => E = exA ∧ ¬ (okS x9 ∧ okS y9 ∧ okS z9))) (5 + 23 * (511 - k)) (30 + 7268 * (511 - k)) (fun q => B ≤ q) := by
  obtain ⟨aS, aL, aR, aT, aO, sa, na, la, bE, F, fS, fL, fR, fT, sp, fO, hD, hSV, hkw, hA⟩ := hG
  refine vx_ofW (cc := cX3_join) (maxL := 4) (ret := none) (by decide) rfl ?_
  intro p e s m args below meth c s₁ B9 hml hout hv
  obtain ⟨hargs, ⟨⟨hBs, hP, hKK⟩, hDc⟩, hN9, hT9⟩ := hv
  have hx := B9.exec
  have hb := B9.bytes
  have hr := B9.returns
  have hts := atoms_spec (ws := wsX3_join) B9.pre
  have hown : s.vm.findClass RX3 = some m.cls := findClass_of_methodNamed B9.named
  have hlocks := B9.notSynchronized
  have hK := hKK.k
  have hS : va_S (fun q => B ≤ q) s.heap s.heap [] := va_S.rf
  obtain ⟨Q, hQ⟩ : ∃ Q, Q = vx_MQ below (va_Qv (fun (u9 : mp × Nat) => (fun μ2 k2 => (okS x9 ∧ okS y9 ∧ okS z9) ∧ (DG G μ2 d k2 sc (DN2 D μ) ∧ FD D μ μ2) ∧ k ≤ k2) u9.1 u9.2) (BG G B N9 T9 k 5 30) (fun q => B ≤ q)) (XN G B N9 T9 5 30 μ (fun E => E = exA ∧ ¬ (okS x9 ∧ okS y9 ∧ okS z9))) args s (5 + 23 * (511 - k)) (30 + 7268 * (511 - k)) (fun q => B ≤ q) := ⟨_, rfl⟩
  rw [← hQ]
  have in_X3_join_X3 : ∀ w ∈ wsX30, w ∈ wsX3_join := by decide +kernel
  have hk5 := hkw.le
  have hl := lv_entry ([.ref d, .int x9, .int y9, .int z9]) (n := 4) (Nat.le_of_ble_eq_true rfl)
  have he9 : entryFrame m args 4 = entryFrame m ([.ref d, .int x9, .int y9, .int z9] : List Value).toArray 4 := by rw [hargs]
  rw [he9, lg_entry_eq]
  generalize (lg_sl ([.ref d, .int x9, .int y9, .int z9]) ++ List.replicate (4 - (lg_sl ([.ref d, .int x9, .int y9, .int z9])).length) Slot.unset).toArray = ls at hl ⊢
  have hl : lv_has ls 4 [(0, .ref d), (1, .int x9), (2, .int y9), (3, .int z9)] := hl
  refine lv_iload_n hx hb dX3_join_0 rfl (lv_at hl 1 rfl) ?_
  refine lv_iload_n hx hb dX3_join_1 rfl (lv_at hl 2 rfl) ?_
  refine lv_iload_n hx hb dX3_join_2 rfl (lv_at hl 3 rfl) ?_
  refine kx_v (vx_runS (As := [.int x9, .int y9, .int z9]) (rest := []) ⟨hx, hb, hml, hown, hts⟩ (c_X3_requireThreeSlots l hlt G B (μ) x9 y9 z9) (va_cwS 3 hts gX3_join_X3_requireThreeSlots rfl rfl rfl (by decide +kernel) ⟨Nat.le_of_ble_eq_true rfl, Nat.le_of_ble_eq_true rfl⟩) ⟨KX.blind, fun U9 hU9 hW9 => ⟨rfl, KW.pre hBs hKK hS hP U9 hU9 hW9, hDc.at hW9⟩⟩ rfl rfl hl.1 rfl (lv_room (Nat.le_of_ble_eq_true rfl)) dX3_join_3 ⟨(Nat.le_trans (m := 5 + 23 * (511 - k)) (by omega) (Nat.le_refl _)), (Nat.le_trans (m := 30 + 7268 * (511 - k)) (by omega) (Nat.le_refl _))⟩) hS (fun E ce q9 H locs hce hP hS h91 h92 h93 => ?_) (fun m3 H locs hq9 hP hz9 hS => ?_)
  · rw [hQ]
    exact kx_outN hN9 hT9 hout hlocks h91 h92 h93 (hce) hP hS (by omega) (by omega) (Nat.le_trans (m := 5 + 23 * (511 - k)) (by omega) (Nat.le_refl _)) (Nat.le_trans (m := 30 + 7268 * (511 - k)) (by omega) (Nat.le_refl _))
  obtain ⟨he9, hk3⟩ := hq9
  rw [he9] at hP
  have hx3 := hk3
  obtain ⟨hka3, hkb3, hkc3⟩ := hk3
  obtain ⟨ja3, hja3, eja3⟩ := ok_nat (by decide) hka3
  subst eja3
  obtain ⟨jb3, hjb3, ejb3⟩ := ok_nat (by decide) hkb3
  subst ejb3
  obtain ⟨jc3, hjc3, ejc3⟩ := ok_nat (by decide) hkc3
  subst ejc3
  have hb22_6 := hD.b 22 (by omega)
  have hbja3_6 := hD.b ja3 (by omega)
  have hbjb3_6 := hD.b jb3 (by omega)
  have hbjc3_6 := hD.b jc3 (by omega)
  refine lv_aload_n hx hb dX3_join_6 rfl (lv_at hl 0 rfl) ?_
  refine mw_get (C := RX3) (T := TX3) (N := 7) hx hb hts in_X3_join_X3 hown hK hP (hD.1) rfl 1 (by decide) (hts (.fieldLink RX3 29 "OctagonDesk" "made" "LOctagonDesk$Shape;") (by decide +kernel)) (fun _ h9 => h9) rfl dX3_join_7 ?_
  refine lv_aload_n hx hb dX3_join_10 rfl (lv_at hl 0 rfl) ?_
  refine mw_get (C := RX3) (T := TX3) (N := 7) hx hb hts in_X3_join_X3 hown hK hP (hD.1) rfl 0 (by decide) (hts (.fieldLink RX3 13 "OctagonDesk" "slots" "[LOctagonDesk$Shape;") (by decide +kernel)) (fun _ h9 => h9) rfl dX3_join_11 ?_
  refine lv_iload_n hx hb dX3_join_14 rfl (lv_at hl 2 rfl) ?_
  refine mw_aldq hx hb hK hP 3 (hD.2.1.1) rfl (by omega) (by omega) (hD.2.1.2.2.2.2.1 jb3 (by omega)) dX3_join_15 ?_
  refine kc_v (va_runV (As := [.ref (sa jb3)]) (rest := []) ⟨hx, hb, hml, hown, hts⟩ (c_X1_takeOver l G B (μ) (sa 22) (na 22) (la 22) k (bE 22) (F 22) (sa jb3) (na jb3) (la jb3) (bE jb3) (F jb3)  ((hD.2.2.2.2.1.1 22 (by omega)).1.1) ((hD.2.2.2.2.1.1 22 (by omega)).1.2.1) ((hD.2.2.2.2.1.1 22 (by omega)).1.2.2) ((hD.2.2.2.2.1.1 jb3 (by omega)).1.1) ((hD.2.2.2.2.1.1 jb3 (by omega)).1.2.1) ((hD.2.2.2.2.1.1 jb3 (by omega)).1.2.2) (by omega) (by omega)) (cwV 1 hts gX3_join_X1_takeOver rfl rfl rfl (by decide +kernel) ⟨Nat.le_of_ble_eq_true rfl, Nat.le_of_ble_eq_true rfl⟩) ⟨KW.blind, hP.recv hK rfl ((hD.2.2.2.2.1.1 22 (by omega)).1.1), fun U9 hU9 hW9 => ⟨rfl, KW.pre hBs hKK hS hP U9 hU9 hW9⟩⟩ rfl rfl hl.1 rfl (lv_room (Nat.le_of_ble_eq_true rfl)) dX3_join_16 ⟨(Nat.le_trans (m := 5 + 23 * (511 - k)) (by omega) (Nat.le_refl _)), (Nat.le_trans (m := 30 + 7268 * (511 - k)) (by omega) (Nat.le_refl _))⟩) hS (fun m16 H locs hq9 hP hz9 hS => ?_)
  obtain ⟨g16, rfl, hg16⟩ := hq9
  have hP : mw G.1 vwCl B (mu (mu μ (la 22) (.inl (G.2 0, 158 * k + 158, .inr (.inl g16)))) (sa 22) (.inr (1, [.ref (na 22), .int (nI (bE jb3))]))) _ := mw_eq (congrArg (fun z => mu z (sa 22) (.inr (1, [.ref (na 22), .int (nI (bE jb3))]))) (rfl)) hP
  refine lv_aload_n hx hb dX3_join_19 rfl (lv_at hl 0 rfl) ?_
  refine mw_get (C := RX3) (T := TX3) (N := 7) hx hb hts in_X3_join_X3 hown hK hP ((mu_n ((mp_ne hD.1 ((hD.2.2.2.2.1.1 22 (by omega)).1.1) (by simp)))).trans ((mu_n ((mp_ne hD.1 ((hD.2.2.2.2.1.1 22 (by omega)).1.2.2) (by simp)))).trans (hD.1))) rfl 1 (by decide) (hts (.fieldLink RX3 29 "OctagonDesk" "made" "LOctagonDesk$Shape;") (by decide +kernel)) (fun _ h9 => h9) rfl dX3_join_20 ?_
  refine lv_aload_n hx hb dX3_join_23 rfl (lv_at hl 0 rfl) ?_
  refine mw_get (C := RX3) (T := TX3) (N := 7) hx hb hts in_X3_join_X3 hown hK hP ((mu_n ((mp_ne hD.1 ((hD.2.2.2.2.1.1 22 (by omega)).1.1) (by simp)))).trans ((mu_n ((mp_ne hD.1 ((hD.2.2.2.2.1.1 22 (by omega)).1.2.2) (by simp)))).trans (hD.1))) rfl 0 (by decide) (hts (.fieldLink RX3 13 "OctagonDesk" "slots" "[LOctagonDesk$Shape;") (by decide +kernel)) (fun _ h9 => h9) rfl dX3_join_24 ?_
  refine lv_iload_n hx hb dX3_join_27 rfl (lv_at hl 3 rfl) ?_
  refine mw_aldq hx hb hK hP 3 ((mu_n ((mp_ne hD.2.1.1 ((hD.2.2.2.2.1.1 22 (by omega)).1.1) (by simp)))).trans ((mu_n ((mp_ne hD.2.1.1 ((hD.2.2.2.2.1.1 22 (by omega)).1.2.2) (by simp)))).trans (hD.2.1.1))) rfl (by omega) (by omega) (hD.2.1.2.2.2.2.1 jc3 (by omega)) dX3_join_28 ?_
  refine kc_v (va_runV (As := [.ref (sa jc3)]) (rest := []) ⟨hx, hb, hml, hown, hts⟩ (c_X1_stretchOver l G B (mu (mu μ (la 22) (.inl (G.2 0, 158 * k + 158, .inr (.inl g16)))) (sa 22) (.inr (1, [.ref (na 22), .int (nI (bE jb3))]))) (sa 22) (na 22) (la 22) k (bE jb3) g16 (sa jc3) (na jc3) (la jc3) (bE jc3) (F jc3)  (mu_s _ _ _) ((mu_n ((mp_ne ((hD.2.2.2.2.1.1 22 (by omega)).1.2.1) ((hD.2.2.2.2.1.1 22 (by omega)).1.1) (by simp)))).trans ((mu_n ((mp_ne ((hD.2.2.2.2.1.1 22 (by omega)).1.2.1) ((hD.2.2.2.2.1.1 22 (by omega)).1.2.2) (by simp)))).trans ((hD.2.2.2.2.1.1 22 (by omega)).1.2.1))) ((mu_n ((mp_ne ((hD.2.2.2.2.1.1 22 (by omega)).1.2.2) ((hD.2.2.2.2.1.1 22 (by omega)).1.1) (by simp)))).trans (mu_s _ _ _)) ((mu_n (((hD.2.2.2.2.1.2 jc3 22 (by omega) (by omega) (by omega)).1))).trans ((mu_n ((mp_ne ((hD.2.2.2.2.1.1 jc3 (by omega)).1.1) ((hD.2.2.2.2.1.1 22 (by omega)).1.2.2) (by simp)))).trans ((hD.2.2.2.2.1.1 jc3 (by omega)).1.1))) ((mu_n ((mp_ne ((hD.2.2.2.2.1.1 jc3 (by omega)).1.2.1) ((hD.2.2.2.2.1.1 22 (by omega)).1.1) (by simp)))).trans ((mu_n ((mp_ne ((hD.2.2.2.2.1.1 jc3 (by omega)).1.2.1) ((hD.2.2.2.2.1.1 22 (by omega)).1.2.2) (by simp)))).trans ((hD.2.2.2.2.1.1 jc3 (by omega)).1.2.1))) ((mu_n ((mp_ne ((hD.2.2.2.2.1.1 jc3 (by omega)).1.2.2) ((hD.2.2.2.2.1.1 22 (by omega)).1.1) (by simp)))).trans ((mu_n (((hD.2.2.2.2.1.2 jc3 22 (by omega) (by omega) (by omega)).2.2))).trans ((hD.2.2.2.2.1.1 jc3 (by omega)).1.2.2))) (by omega) (by omega) (by omega) (((hD.2.2.2.2.1.2 22 jc3 (by omega) (by omega) (by omega)).2.2)) (((hD.2.2.2.2.1.2 22 jc3 (by omega) (by omega) (by omega)).1))) (cwV 1 hts gX3_join_X1_stretchOver rfl rfl rfl (by decide +kernel) ⟨Nat.le_of_ble_eq_true rfl, Nat.le_of_ble_eq_true rfl⟩) ⟨KW.blind, hP.recv hK rfl (mu_s _ _ _), fun U9 hU9 hW9 => ⟨rfl, KW.pre hBs hKK hS hP U9 hU9 hW9⟩⟩ rfl rfl hl.1 rfl (lv_room (Nat.le_of_ble_eq_true rfl)) dX3_join_29 ⟨(Nat.le_trans (m := 5 + 23 * (511 - k)) (by omega) (Nat.le_refl _)), (Nat.le_trans (m := 30 + 7268 * (511 - k)) (by omega) (Nat.le_refl _))⟩) hS (fun m29 H locs hq9 hP hz9 hS => ?_)
  obtain ⟨g29, b29, rfl, hb29⟩ := hq9
  have hP : mw G.1 vwCl B (mu (mu μ (la 22) (.inl (G.2 0, 158 * k + 158, .inr (.inl g29)))) (sa 22) (.inr (1, [.ref (na 22), .int (nI b29)]))) _ := mw_eq ((congrArg (fun z => mu z (la 22) (.inl (G.2 0, 158 * k + 158, .inr (.inl g29)))) (mu_u _ _ _ _)).trans ((mu_c _ _ ((mp_ne ((hD.2.2.2.2.1.1 22 (by omega)).1.1) ((hD.2.2.2.2.1.1 22 (by omega)).1.2.2) (by simp)))).trans (congrArg (fun z => mu z (sa 22) (.inr (1, [.ref (na 22), .int (nI b29)]))) (mu_u _ _ _ _)))) hP
  refine lv_aload_n hx hb dX3_join_32 rfl (lv_at hl 0 rfl) ?_
  refine lv_iload_n hx hb dX3_join_33 rfl (lv_at hl 1 rfl) ?_
  have hDx34 : DK G (mu (mu μ (la 22) (.inl (G.2 0, 158 * k + 158, .inr (.inl g29)))) (sa 22) (.inr (1, [.ref (na 22), .int (nI b29)]))) d aS aL aR aT aO k sc sa na la (va_up bE 22 b29) (va_up F 22 g29) fS fL fR fT sp fO := hD.sh2 (by omega) (by omega)
  have hRx34 : DQ μ (mu (mu μ (la 22) (.inl (G.2 0, 158 * k + 158, .inr (.inl g29)))) (sa 22) (.inr (1, [.ref (na 22), .int (nI b29)]))) d aO sa na la la := DQ.sh2 (by omega)
  obtain ⟨μ34, em34⟩ : ∃ x9 : mp, x9 = mu (mu μ (la 22) (.inl (G.2 0, 158 * k + 158, .inr (.inl g29)))) (sa 22) (.inr (1, [.ref (na 22), .int (nI b29)])) := ⟨_, rfl⟩
  rw [← em34] at hP hDx34 hRx34
  refine kg_v (va_runV (As := [.int (nI ja3)]) (rest := []) ⟨hx, hb, hml, hown, hts⟩ (c_X3_putMadek l G B μ34 _ _ d aS aL aR aT aO k sc sa na la (va_up bE 22 b29) (va_up F 22 g29) fS fL fR fT sp fO ja3 hDx34 (by omega) hkw) (cwV 1 hts gX3_join_X3_putMade rfl rfl rfl (by decide +kernel) ⟨Nat.le_of_ble_eq_true rfl, Nat.le_of_ble_eq_true rfl⟩) ⟨KN.blind, hP.recv hK rfl (hDx34.1), fun U9 hU9 hW9 => ⟨rfl, KW.pre hBs hKK hS hP U9 hU9 hW9, by rw [hU9], by rw [hU9]⟩⟩ rfl rfl hl.1 rfl (lv_room (Nat.le_of_ble_eq_true rfl)) dX3_join_34 ⟨(Nat.le_trans (m := 5 + 23 * (511 - k)) (by omega) (Nat.le_refl _)), (Nat.le_trans (m := 30 + 7268 * (511 - k)) (by omega) (Nat.le_refl _))⟩) hS (fun m34 k34 H locs hq9 hP hz9 hS => ?_)
  obtain ⟨la34, bE34, F34, hD34, hR34, hkq_34, hkw34⟩ := hq9
  have hk5_34 := hkw34.le
  have hR34 := hRx34.tr hR34
  refine Wknow (fun hw1 hw2 => ?_)
  rw [hQ]
  refine vx_ret ?_
  refine W.widen (k := 5 + 23 * (511 - k)) (n := 30 + 7268 * (511 - k)) (by omega) (by omega) ?_
  exact W.vret hx hb hr (fun t99 ht99 hW99 => ⟨⟨(m34, k34), rfl, (⟨hx3, ⟨DG.fin hA hSV hD hD34 hR34 hkw34, by omega⟩⟩), by show mw _ _ _ _ t99.heap; rw [ht99]; exact hP, by show t99.heap.size ≤ N9 + (5 + 23 * (k34 - k)); rw [ht99]; omega, by show tot t99.heap ≤ T9 + (30 + 7268 * (k34 - k)); rw [ht99]; omega⟩, hS.F ht99⟩) hS.2.2 dX3_join_37

abbrev rg_X3_widen (k : Nat) : Room := { frames := 8, cells := 5 + 23 * (511 - k), slots := 30 + 7268 * (511 - k), locals := 167 }
set_option maxHeartbeats 4000000 in
set_option maxRecDepth 100000 in
theorem g_X3_widen (l : Launch) (hlt : l.stackTraces = false) (G : GG) (B : Nat) (μ : mp) (N9 T9 : Nat) (d k sc : Nat) (D : Nat → Prop) (x9 y9 z9 : Int32) (hG : DG G μ d k sc D) : vx_Met l yX3_widen wsX3_widen (rg_X3_widen k) (va_Pc [.ref d, .int x9, .int y9, .int z9] (KXN G B N9 T9 μ)) (va_Qv (fun (u9 : mp × Nat) => (fun μ2 k2 => (okS x9 ∧ okS y9 ∧ okS z9) ∧ (DG G μ2 d k2 sc (DN2 D μ) ∧ FD D μ μ2) ∧ k ≤ k2) u9.1 u9.2) (BG G B N9 T9 k 5 30) (fun q => B ≤ q)) (XN G B N9 T9 5 30 μ (fun E => E = exA ∧ ¬ (okS x9 ∧ okS y9 ∧ okS z9))) (5 + 23 * (511 - k)) (30 + 7268 * (511 - k)) (fun q => B ≤ q) := by
  obtain ⟨aS, aL, aR, aT, aO, sa, na, la, bE, F, fS, fL, fR, fT, sp, fO, hD, hSV, hkw, hA⟩ := hG
  refine vx_ofW (cc := cX3_widen) (maxL := 4) (ret := none) (by decide) rfl ?_
  intro p e s m args below meth c s₁ B9 hml hout hv
  obtain ⟨hargs, ⟨⟨hBs, hP, hKK⟩, hDc⟩, hN9, hT9⟩ := hv
  have hx := B9.exec
  have hb := B9.bytes
  have hr := B9.returns
  have hts := atoms_spec (ws := wsX3_widen) B9.pre
  have hown : s.vm.findClass RX3 = some m.cls := findClass_of_methodNamed B9.named
  have hlocks := B9.notSynchronized
  have hK := hKK.k
  have hS : va_S (fun q => B ≤ q) s.heap s.heap [] := va_S.rf
  obtain ⟨Q, hQ⟩ : ∃ Q, Q = vx_MQ below (va_Qv (fun (u9 : mp × Nat) => (fun μ2 k2 => (okS x9 ∧ okS y9 ∧ okS z9) ∧ (DG G μ2 d k2 sc (DN2 D μ) ∧ FD D μ μ2) ∧ k ≤ k2) u9.1 u9.2) (BG G B N9 T9 k 5 30) (fun q => B ≤ q)) (XN G B N9 T9 5 30 μ (fun E => E = exA ∧ ¬ (okS x9 ∧ okS y9 ∧ okS z9))) args s (5 + 23 * (511 - k)) (30 + 7268 * (511 - k)) (fun q => B ≤ q) := ⟨_, rfl⟩
  rw [← hQ]
  have in_X3_widen_X3 : ∀ w ∈ wsX30, w ∈ wsX3_widen := by decide +kernel
  have hk5 := hkw.le
  have hl := lv_entry ([.ref d, .int x9, .int y9, .int z9]) (n := 4) (Nat.le_of_ble_eq_true rfl)
  have he9 : entryFrame m args 4 = entryFrame m ([.ref d, .int x9, .int y9, .int z9] : List Value).toArray 4 := by rw [hargs]
  rw [he9, lg_entry_eq]
  generalize (lg_sl ([.ref d, .int x9, .int y9, .int z9]) ++ List.replicate (4 - (lg_sl ([.ref d, .int x9, .int y9, .int z9])).length) Slot.unset).toArray = ls at hl ⊢
  have hl : lv_has ls 4 [(0, .ref d), (1, .int x9), (2, .int y9), (3, .int z9)] := hl
  refine lv_iload_n hx hb dX3_widen_0 rfl (lv_at hl 1 rfl) ?_
  refine lv_iload_n hx hb dX3_widen_1 rfl (lv_at hl 2 rfl) ?_
  refine lv_iload_n hx hb dX3_widen_2 rfl (lv_at hl 3 rfl) ?_
  refine kx_v (vx_runS (As := [.int x9, .int y9, .int z9]) (rest := []) ⟨hx, hb, hml, hown, hts⟩ (c_X3_requireThreeSlots l hlt G B (μ) x9 y9 z9) (va_cwS 3 hts gX3_widen_X3_requireThreeSlots rfl rfl rfl (by decide +kernel) ⟨Nat.le_of_ble_eq_true rfl, Nat.le_of_ble_eq_true rfl⟩) ⟨KX.blind, fun U9 hU9 hW9 => ⟨rfl, KW.pre hBs hKK hS hP U9 hU9 hW9, hDc.at hW9⟩⟩ rfl rfl hl.1 rfl (lv_room (Nat.le_of_ble_eq_true rfl)) dX3_widen_3 ⟨(Nat.le_trans (m := 5 + 23 * (511 - k)) (by omega) (Nat.le_refl _)), (Nat.le_trans (m := 30 + 7268 * (511 - k)) (by omega) (Nat.le_refl _))⟩) hS (fun E ce q9 H locs hce hP hS h91 h92 h93 => ?_) (fun m3 H locs hq9 hP hz9 hS => ?_)
  · rw [hQ]
    exact kx_outN hN9 hT9 hout hlocks h91 h92 h93 (hce) hP hS (by omega) (by omega) (Nat.le_trans (m := 5 + 23 * (511 - k)) (by omega) (Nat.le_refl _)) (Nat.le_trans (m := 30 + 7268 * (511 - k)) (by omega) (Nat.le_refl _))
  obtain ⟨he9, hk3⟩ := hq9
  rw [he9] at hP
  have hx3 := hk3
  obtain ⟨hka3, hkb3, hkc3⟩ := hk3
  obtain ⟨ja3, hja3, eja3⟩ := ok_nat (by decide) hka3
  subst eja3
  obtain ⟨jb3, hjb3, ejb3⟩ := ok_nat (by decide) hkb3
  subst ejb3
  obtain ⟨jc3, hjc3, ejc3⟩ := ok_nat (by decide) hkc3
  subst ejc3
  have hb22_6 := hD.b 22 (by omega)
  have hbja3_6 := hD.b ja3 (by omega)
  have hbjb3_6 := hD.b jb3 (by omega)
  have hbjc3_6 := hD.b jc3 (by omega)
  refine lv_aload_n hx hb dX3_widen_6 rfl (lv_at hl 0 rfl) ?_
  refine mw_get (C := RX3) (T := TX3) (N := 7) hx hb hts in_X3_widen_X3 hown hK hP (hD.1) rfl 1 (by decide) (hts (.fieldLink RX3 29 "OctagonDesk" "made" "LOctagonDesk$Shape;") (by decide +kernel)) (fun _ h9 => h9) rfl dX3_widen_7 ?_
  refine lv_aload_n hx hb dX3_widen_10 rfl (lv_at hl 0 rfl) ?_
  refine mw_get (C := RX3) (T := TX3) (N := 7) hx hb hts in_X3_widen_X3 hown hK hP (hD.1) rfl 0 (by decide) (hts (.fieldLink RX3 13 "OctagonDesk" "slots" "[LOctagonDesk$Shape;") (by decide +kernel)) (fun _ h9 => h9) rfl dX3_widen_11 ?_
  refine lv_iload_n hx hb dX3_widen_14 rfl (lv_at hl 2 rfl) ?_
  refine mw_aldq hx hb hK hP 3 (hD.2.1.1) rfl (by omega) (by omega) (hD.2.1.2.2.2.2.1 jb3 (by omega)) dX3_widen_15 ?_
  refine kc_v (va_runV (As := [.ref (sa jb3)]) (rest := []) ⟨hx, hb, hml, hown, hts⟩ (c_X1_takeOver l G B (μ) (sa 22) (na 22) (la 22) k (bE 22) (F 22) (sa jb3) (na jb3) (la jb3) (bE jb3) (F jb3)  ((hD.2.2.2.2.1.1 22 (by omega)).1.1) ((hD.2.2.2.2.1.1 22 (by omega)).1.2.1) ((hD.2.2.2.2.1.1 22 (by omega)).1.2.2) ((hD.2.2.2.2.1.1 jb3 (by omega)).1.1) ((hD.2.2.2.2.1.1 jb3 (by omega)).1.2.1) ((hD.2.2.2.2.1.1 jb3 (by omega)).1.2.2) (by omega) (by omega)) (cwV 1 hts gX3_widen_X1_takeOver rfl rfl rfl (by decide +kernel) ⟨Nat.le_of_ble_eq_true rfl, Nat.le_of_ble_eq_true rfl⟩) ⟨KW.blind, hP.recv hK rfl ((hD.2.2.2.2.1.1 22 (by omega)).1.1), fun U9 hU9 hW9 => ⟨rfl, KW.pre hBs hKK hS hP U9 hU9 hW9⟩⟩ rfl rfl hl.1 rfl (lv_room (Nat.le_of_ble_eq_true rfl)) dX3_widen_16 ⟨(Nat.le_trans (m := 5 + 23 * (511 - k)) (by omega) (Nat.le_refl _)), (Nat.le_trans (m := 30 + 7268 * (511 - k)) (by omega) (Nat.le_refl _))⟩) hS (fun m16 H locs hq9 hP hz9 hS => ?_)
  obtain ⟨g16, rfl, hg16⟩ := hq9
  have hP : mw G.1 vwCl B (mu (mu μ (la 22) (.inl (G.2 0, 158 * k + 158, .inr (.inl g16)))) (sa 22) (.inr (1, [.ref (na 22), .int (nI (bE jb3))]))) _ := mw_eq (congrArg (fun z => mu z (sa 22) (.inr (1, [.ref (na 22), .int (nI (bE jb3))]))) (rfl)) hP
  refine lv_aload_n hx hb dX3_widen_19 rfl (lv_at hl 0 rfl) ?_
  refine mw_get (C := RX3) (T := TX3) (N := 7) hx hb hts in_X3_widen_X3 hown hK hP ((mu_n ((mp_ne hD.1 ((hD.2.2.2.2.1.1 22 (by omega)).1.1) (by simp)))).trans ((mu_n ((mp_ne hD.1 ((hD.2.2.2.2.1.1 22 (by omega)).1.2.2) (by simp)))).trans (hD.1))) rfl 1 (by decide) (hts (.fieldLink RX3 29 "OctagonDesk" "made" "LOctagonDesk$Shape;") (by decide +kernel)) (fun _ h9 => h9) rfl dX3_widen_20 ?_
  refine lv_aload_n hx hb dX3_widen_23 rfl (lv_at hl 0 rfl) ?_
  refine mw_get (C := RX3) (T := TX3) (N := 7) hx hb hts in_X3_widen_X3 hown hK hP ((mu_n ((mp_ne hD.1 ((hD.2.2.2.2.1.1 22 (by omega)).1.1) (by simp)))).trans ((mu_n ((mp_ne hD.1 ((hD.2.2.2.2.1.1 22 (by omega)).1.2.2) (by simp)))).trans (hD.1))) rfl 0 (by decide) (hts (.fieldLink RX3 13 "OctagonDesk" "slots" "[LOctagonDesk$Shape;") (by decide +kernel)) (fun _ h9 => h9) rfl dX3_widen_24 ?_
  refine lv_iload_n hx hb dX3_widen_27 rfl (lv_at hl 3 rfl) ?_
  refine mw_aldq hx hb hK hP 3 ((mu_n ((mp_ne hD.2.1.1 ((hD.2.2.2.2.1.1 22 (by omega)).1.1) (by simp)))).trans ((mu_n ((mp_ne hD.2.1.1 ((hD.2.2.2.2.1.1 22 (by omega)).1.2.2) (by simp)))).trans (hD.2.1.1))) rfl (by omega) (by omega) (hD.2.1.2.2.2.2.1 jc3 (by omega)) dX3_widen_28 ?_
  refine kc_v (va_runV (As := [.ref (sa jc3)]) (rest := []) ⟨hx, hb, hml, hown, hts⟩ (c_X1_loosenBy l G B (mu (mu μ (la 22) (.inl (G.2 0, 158 * k + 158, .inr (.inl g16)))) (sa 22) (.inr (1, [.ref (na 22), .int (nI (bE jb3))]))) (sa 22) (na 22) (la 22) k (bE jb3) g16 (sa jc3) (na jc3) (la jc3) (bE jc3) (F jc3)  (mu_s _ _ _) ((mu_n ((mp_ne ((hD.2.2.2.2.1.1 22 (by omega)).1.2.1) ((hD.2.2.2.2.1.1 22 (by omega)).1.1) (by simp)))).trans ((mu_n ((mp_ne ((hD.2.2.2.2.1.1 22 (by omega)).1.2.1) ((hD.2.2.2.2.1.1 22 (by omega)).1.2.2) (by simp)))).trans ((hD.2.2.2.2.1.1 22 (by omega)).1.2.1))) ((mu_n ((mp_ne ((hD.2.2.2.2.1.1 22 (by omega)).1.2.2) ((hD.2.2.2.2.1.1 22 (by omega)).1.1) (by simp)))).trans (mu_s _ _ _)) ((mu_n (((hD.2.2.2.2.1.2 jc3 22 (by omega) (by omega) (by omega)).1))).trans ((mu_n ((mp_ne ((hD.2.2.2.2.1.1 jc3 (by omega)).1.1) ((hD.2.2.2.2.1.1 22 (by omega)).1.2.2) (by simp)))).trans ((hD.2.2.2.2.1.1 jc3 (by omega)).1.1))) ((mu_n ((mp_ne ((hD.2.2.2.2.1.1 jc3 (by omega)).1.2.1) ((hD.2.2.2.2.1.1 22 (by omega)).1.1) (by simp)))).trans ((mu_n ((mp_ne ((hD.2.2.2.2.1.1 jc3 (by omega)).1.2.1) ((hD.2.2.2.2.1.1 22 (by omega)).1.2.2) (by simp)))).trans ((hD.2.2.2.2.1.1 jc3 (by omega)).1.2.1))) ((mu_n ((mp_ne ((hD.2.2.2.2.1.1 jc3 (by omega)).1.2.2) ((hD.2.2.2.2.1.1 22 (by omega)).1.1) (by simp)))).trans ((mu_n (((hD.2.2.2.2.1.2 jc3 22 (by omega) (by omega) (by omega)).2.2))).trans ((hD.2.2.2.2.1.1 jc3 (by omega)).1.2.2))) (by omega) (by omega) (by omega) (((hD.2.2.2.2.1.2 22 jc3 (by omega) (by omega) (by omega)).2.2)) (((hD.2.2.2.2.1.2 22 jc3 (by omega) (by omega) (by omega)).1))) (cwV 1 hts gX3_widen_X1_loosenBy rfl rfl rfl (by decide +kernel) ⟨Nat.le_of_ble_eq_true rfl, Nat.le_of_ble_eq_true rfl⟩) ⟨KW.blind, hP.recv hK rfl (mu_s _ _ _), fun U9 hU9 hW9 => ⟨rfl, KW.pre hBs hKK hS hP U9 hU9 hW9⟩⟩ rfl rfl hl.1 rfl (lv_room (Nat.le_of_ble_eq_true rfl)) dX3_widen_29 ⟨(Nat.le_trans (m := 5 + 23 * (511 - k)) (by omega) (Nat.le_refl _)), (Nat.le_trans (m := 30 + 7268 * (511 - k)) (by omega) (Nat.le_refl _))⟩) hS (fun m29 H locs hq9 hP hz9 hS => ?_)
  obtain ⟨g29, b29, rfl, hb29⟩ := hq9
  have hP : mw G.1 vwCl B (mu (mu μ (la 22) (.inl (G.2 0, 158 * k + 158, .inr (.inl g29)))) (sa 22) (.inr (1, [.ref (na 22), .int (nI b29)]))) _ := mw_eq ((congrArg (fun z => mu z (la 22) (.inl (G.2 0, 158 * k + 158, .inr (.inl g29)))) (mu_u _ _ _ _)).trans ((mu_c _ _ ((mp_ne ((hD.2.2.2.2.1.1 22 (by omega)).1.1) ((hD.2.2.2.2.1.1 22 (by omega)).1.2.2) (by simp)))).trans (congrArg (fun z => mu z (sa 22) (.inr (1, [.ref (na 22), .int (nI b29)]))) (mu_u _ _ _ _)))) hP
  refine lv_aload_n hx hb dX3_widen_32 rfl (lv_at hl 0 rfl) ?_
  refine lv_iload_n hx hb dX3_widen_33 rfl (lv_at hl 1 rfl) ?_
  have hDx34 : DK G (mu (mu μ (la 22) (.inl (G.2 0, 158 * k + 158, .inr (.inl g29)))) (sa 22) (.inr (1, [.ref (na 22), .int (nI b29)]))) d aS aL aR aT aO k sc sa na la (va_up bE 22 b29) (va_up F 22 g29) fS fL fR fT sp fO := hD.sh2 (by omega) (by omega)
  have hRx34 : DQ μ (mu (mu μ (la 22) (.inl (G.2 0, 158 * k + 158, .inr (.inl g29)))) (sa 22) (.inr (1, [.ref (na 22), .int (nI b29)]))) d aO sa na la la := DQ.sh2 (by omega)
  obtain ⟨μ34, em34⟩ : ∃ x9 : mp, x9 = mu (mu μ (la 22) (.inl (G.2 0, 158 * k + 158, .inr (.inl g29)))) (sa 22) (.inr (1, [.ref (na 22), .int (nI b29)])) := ⟨_, rfl⟩
  rw [← em34] at hP hDx34 hRx34
  refine kg_v (va_runV (As := [.int (nI ja3)]) (rest := []) ⟨hx, hb, hml, hown, hts⟩ (c_X3_putMadek l G B μ34 _ _ d aS aL aR aT aO k sc sa na la (va_up bE 22 b29) (va_up F 22 g29) fS fL fR fT sp fO ja3 hDx34 (by omega) hkw) (cwV 1 hts gX3_widen_X3_putMade rfl rfl rfl (by decide +kernel) ⟨Nat.le_of_ble_eq_true rfl, Nat.le_of_ble_eq_true rfl⟩) ⟨KN.blind, hP.recv hK rfl (hDx34.1), fun U9 hU9 hW9 => ⟨rfl, KW.pre hBs hKK hS hP U9 hU9 hW9, by rw [hU9], by rw [hU9]⟩⟩ rfl rfl hl.1 rfl (lv_room (Nat.le_of_ble_eq_true rfl)) dX3_widen_34 ⟨(Nat.le_trans (m := 5 + 23 * (511 - k)) (by omega) (Nat.le_refl _)), (Nat.le_trans (m := 30 + 7268 * (511 - k)) (by omega) (Nat.le_refl _))⟩) hS (fun m34 k34 H locs hq9 hP hz9 hS => ?_)
  obtain ⟨la34, bE34, F34, hD34, hR34, hkq_34, hkw34⟩ := hq9
  have hk5_34 := hkw34.le
  have hR34 := hRx34.tr hR34
  refine Wknow (fun hw1 hw2 => ?_)
  rw [hQ]
  refine vx_ret ?_
  refine W.widen (k := 5 + 23 * (511 - k)) (n := 30 + 7268 * (511 - k)) (by omega) (by omega) ?_
  exact W.vret hx hb hr (fun t99 ht99 hW99 => ⟨⟨(m34, k34), rfl, (⟨hx3, ⟨DG.fin hA hSV hD hD34 hR34 hkw34, by omega⟩⟩), by show mw _ _ _ _ t99.heap; rw [ht99]; exact hP, by show t99.heap.size ≤ N9 + (5 + 23 * (k34 - k)); rw [ht99]; omega, by show tot t99.heap ≤ T9 + (30 + 7268 * (k34 - k)); rw [ht99]; omega⟩, hS.F ht99⟩) hS.2.2 dX3_widen_37

abbrev rg_X3_meet (k : Nat) : Room := { frames := 8, cells := 5 + 23 * (511 - k), slots := 30 + 7268 * (511 - k), locals := 167 }
set_option maxHeartbeats 4000000 in
set_option maxRecDepth 100000 in
theorem g_X3_meet (l : Launch) (hlt : l.stackTraces = false) (G : GG) (B : Nat) (μ : mp) (N9 T9 : Nat) (d k sc : Nat) (D : Nat → Prop) (x9 y9 z9 : Int32) (hG : DG G μ d k sc D) : vx_Met l yX3_meet wsX3_meet (rg_X3_meet k) (va_Pc [.ref d, .int x9, .int y9, .int z9] (KXN G B N9 T9 μ)) (va_Qi (fun r9 (u9 : mp × Nat) => (fun r μ2 k2 => (DG G μ2 d k2 sc (DN2 D μ) ∧ FD D μ μ2) ∧ k ≤ k2) r9 u9.1 u9.2) (BG G B N9 T9 k 5 30) (fun q => B ≤ q)) (XN G B N9 T9 5 30 μ (fun E => E = exA)) (5 + 23 * (511 - k)) (30 + 7268 * (511 - k)) (fun q => B ≤ q) := by
  obtain ⟨aS, aL, aR, aT, aO, sa, na, la, bE, F, fS, fL, fR, fT, sp, fO, hD, hSV, hkw, hA⟩ := hG
  refine vx_ofW (cc := cX3_meet) (maxL := 4) (ret := (some .boolean)) (by decide) rfl ?_
  intro p e s m args below meth c s₁ B9 hml hout hv
  obtain ⟨hargs, ⟨⟨hBs, hP, hKK⟩, hDc⟩, hN9, hT9⟩ := hv
  have hx := B9.exec
  have hb := B9.bytes
  have hr := B9.returns
  have hts := atoms_spec (ws := wsX3_meet) B9.pre
  have hown : s.vm.findClass RX3 = some m.cls := findClass_of_methodNamed B9.named
  have hlocks := B9.notSynchronized
  have hK := hKK.k
  have hS : va_S (fun q => B ≤ q) s.heap s.heap [] := va_S.rf
  obtain ⟨Q, hQ⟩ : ∃ Q, Q = vx_MQ below (va_Qi (fun r9 (u9 : mp × Nat) => (fun r μ2 k2 => (DG G μ2 d k2 sc (DN2 D μ) ∧ FD D μ μ2) ∧ k ≤ k2) r9 u9.1 u9.2) (BG G B N9 T9 k 5 30) (fun q => B ≤ q)) (XN G B N9 T9 5 30 μ (fun E => E = exA)) args s (5 + 23 * (511 - k)) (30 + 7268 * (511 - k)) (fun q => B ≤ q) := ⟨_, rfl⟩
  rw [← hQ]
  have in_X3_meet_X1 : ∀ w ∈ wsX10, w ∈ wsX3_meet := by decide +kernel
  have in_X3_meet_X3 : ∀ w ∈ wsX30, w ∈ wsX3_meet := by decide +kernel
  have hk5 := hkw.le
  have hl := lv_entry ([.ref d, .int x9, .int y9, .int z9]) (n := 4) (Nat.le_of_ble_eq_true rfl)
  have he9 : entryFrame m args 4 = entryFrame m ([.ref d, .int x9, .int y9, .int z9] : List Value).toArray 4 := by rw [hargs]
  rw [he9, lg_entry_eq]
  generalize (lg_sl ([.ref d, .int x9, .int y9, .int z9]) ++ List.replicate (4 - (lg_sl ([.ref d, .int x9, .int y9, .int z9])).length) Slot.unset).toArray = ls at hl ⊢
  have hl : lv_has ls 4 [(0, .ref d), (1, .int x9), (2, .int y9), (3, .int z9)] := hl
  refine lv_iload_n hx hb dX3_meet_0 rfl (lv_at hl 1 rfl) ?_
  refine lv_iload_n hx hb dX3_meet_1 rfl (lv_at hl 2 rfl) ?_
  refine lv_iload_n hx hb dX3_meet_2 rfl (lv_at hl 3 rfl) ?_
  refine kx_v (vx_runS (As := [.int x9, .int y9, .int z9]) (rest := []) ⟨hx, hb, hml, hown, hts⟩ (c_X3_requireThreeSlots l hlt G B (μ) x9 y9 z9) (va_cwS 3 hts gX3_meet_X3_requireThreeSlots rfl rfl rfl (by decide +kernel) ⟨Nat.le_of_ble_eq_true rfl, Nat.le_of_ble_eq_true rfl⟩) ⟨KX.blind, fun U9 hU9 hW9 => ⟨rfl, KW.pre hBs hKK hS hP U9 hU9 hW9, hDc.at hW9⟩⟩ rfl rfl hl.1 rfl (lv_room (Nat.le_of_ble_eq_true rfl)) dX3_meet_3 ⟨(Nat.le_trans (m := 5 + 23 * (511 - k)) (by omega) (Nat.le_refl _)), (Nat.le_trans (m := 30 + 7268 * (511 - k)) (by omega) (Nat.le_refl _))⟩) hS (fun E ce q9 H locs hce hP hS h91 h92 h93 => ?_) (fun m3 H locs hq9 hP hz9 hS => ?_)
  · rw [hQ]
    exact kx_outN hN9 hT9 hout hlocks h91 h92 h93 (hce.1) hP hS (by omega) (by omega) (Nat.le_trans (m := 5 + 23 * (511 - k)) (by omega) (Nat.le_refl _)) (Nat.le_trans (m := 30 + 7268 * (511 - k)) (by omega) (Nat.le_refl _))
  obtain ⟨he9, hk3⟩ := hq9
  rw [he9] at hP
  have hx3 := hk3
  obtain ⟨hka3, hkb3, hkc3⟩ := hk3
  obtain ⟨ja3, hja3, eja3⟩ := ok_nat (by decide) hka3
  subst eja3
  obtain ⟨jb3, hjb3, ejb3⟩ := ok_nat (by decide) hkb3
  subst ejb3
  obtain ⟨jc3, hjc3, ejc3⟩ := ok_nat (by decide) hkc3
  subst ejc3
  have hb22_6 := hD.b 22 (by omega)
  have hbja3_6 := hD.b ja3 (by omega)
  have hbjb3_6 := hD.b jb3 (by omega)
  have hbjc3_6 := hD.b jc3 (by omega)
  refine lv_aload_n hx hb dX3_meet_6 rfl (lv_at hl 0 rfl) ?_
  refine mw_get (C := RX3) (T := TX3) (N := 7) hx hb hts in_X3_meet_X3 hown hK hP (hD.1) rfl 1 (by decide) (hts (.fieldLink RX3 29 "OctagonDesk" "made" "LOctagonDesk$Shape;") (by decide +kernel)) (fun _ h9 => h9) rfl dX3_meet_7 ?_
  refine lv_aload_n hx hb dX3_meet_10 rfl (lv_at hl 0 rfl) ?_
  refine mw_get (C := RX3) (T := TX3) (N := 7) hx hb hts in_X3_meet_X3 hown hK hP (hD.1) rfl 0 (by decide) (hts (.fieldLink RX3 13 "OctagonDesk" "slots" "[LOctagonDesk$Shape;") (by decide +kernel)) (fun _ h9 => h9) rfl dX3_meet_11 ?_
  refine lv_iload_n hx hb dX3_meet_14 rfl (lv_at hl 2 rfl) ?_
  refine mw_aldq hx hb hK hP 3 (hD.2.1.1) rfl (by omega) (by omega) (hD.2.1.2.2.2.2.1 jb3 (by omega)) dX3_meet_15 ?_
  refine kc_v (va_runV (As := [.ref (sa jb3)]) (rest := []) ⟨hx, hb, hml, hown, hts⟩ (c_X1_takeOver l G B (μ) (sa 22) (na 22) (la 22) k (bE 22) (F 22) (sa jb3) (na jb3) (la jb3) (bE jb3) (F jb3)  ((hD.2.2.2.2.1.1 22 (by omega)).1.1) ((hD.2.2.2.2.1.1 22 (by omega)).1.2.1) ((hD.2.2.2.2.1.1 22 (by omega)).1.2.2) ((hD.2.2.2.2.1.1 jb3 (by omega)).1.1) ((hD.2.2.2.2.1.1 jb3 (by omega)).1.2.1) ((hD.2.2.2.2.1.1 jb3 (by omega)).1.2.2) (by omega) (by omega)) (cwV 1 hts gX3_meet_X1_takeOver rfl rfl rfl (by decide +kernel) ⟨Nat.le_of_ble_eq_true rfl, Nat.le_of_ble_eq_true rfl⟩) ⟨KW.blind, hP.recv hK rfl ((hD.2.2.2.2.1.1 22 (by omega)).1.1), fun U9 hU9 hW9 => ⟨rfl, KW.pre hBs hKK hS hP U9 hU9 hW9⟩⟩ rfl rfl hl.1 rfl (lv_room (Nat.le_of_ble_eq_true rfl)) dX3_meet_16 ⟨(Nat.le_trans (m := 5 + 23 * (511 - k)) (by omega) (Nat.le_refl _)), (Nat.le_trans (m := 30 + 7268 * (511 - k)) (by omega) (Nat.le_refl _))⟩) hS (fun m16 H locs hq9 hP hz9 hS => ?_)
  obtain ⟨g16, rfl, hg16⟩ := hq9
  have hP : mw G.1 vwCl B (mu (mu μ (la 22) (.inl (G.2 0, 158 * k + 158, .inr (.inl g16)))) (sa 22) (.inr (1, [.ref (na 22), .int (nI (bE jb3))]))) _ := mw_eq (congrArg (fun z => mu z (sa 22) (.inr (1, [.ref (na 22), .int (nI (bE jb3))]))) (rfl)) hP
  refine lv_aload_n hx hb dX3_meet_19 rfl (lv_at hl 0 rfl) ?_
  refine mw_get (C := RX3) (T := TX3) (N := 7) hx hb hts in_X3_meet_X3 hown hK hP ((mu_n ((mp_ne hD.1 ((hD.2.2.2.2.1.1 22 (by omega)).1.1) (by simp)))).trans ((mu_n ((mp_ne hD.1 ((hD.2.2.2.2.1.1 22 (by omega)).1.2.2) (by simp)))).trans (hD.1))) rfl 1 (by decide) (hts (.fieldLink RX3 29 "OctagonDesk" "made" "LOctagonDesk$Shape;") (by decide +kernel)) (fun _ h9 => h9) rfl dX3_meet_20 ?_
  refine lv_aload_n hx hb dX3_meet_23 rfl (lv_at hl 0 rfl) ?_
  refine mw_get (C := RX3) (T := TX3) (N := 7) hx hb hts in_X3_meet_X3 hown hK hP ((mu_n ((mp_ne hD.1 ((hD.2.2.2.2.1.1 22 (by omega)).1.1) (by simp)))).trans ((mu_n ((mp_ne hD.1 ((hD.2.2.2.2.1.1 22 (by omega)).1.2.2) (by simp)))).trans (hD.1))) rfl 0 (by decide) (hts (.fieldLink RX3 13 "OctagonDesk" "slots" "[LOctagonDesk$Shape;") (by decide +kernel)) (fun _ h9 => h9) rfl dX3_meet_24 ?_
  refine lv_iload_n hx hb dX3_meet_27 rfl (lv_at hl 3 rfl) ?_
  refine mw_aldq hx hb hK hP 3 ((mu_n ((mp_ne hD.2.1.1 ((hD.2.2.2.2.1.1 22 (by omega)).1.1) (by simp)))).trans ((mu_n ((mp_ne hD.2.1.1 ((hD.2.2.2.2.1.1 22 (by omega)).1.2.2) (by simp)))).trans (hD.2.1.1))) rfl (by omega) (by omega) (hD.2.1.2.2.2.2.1 jc3 (by omega)) dX3_meet_28 ?_
  refine kc_v (va_runV (As := [.ref (sa jc3)]) (rest := []) ⟨hx, hb, hml, hown, hts⟩ (c_X1_cutTo l G B (mu (mu μ (la 22) (.inl (G.2 0, 158 * k + 158, .inr (.inl g16)))) (sa 22) (.inr (1, [.ref (na 22), .int (nI (bE jb3))]))) (sa 22) (na 22) (la 22) k (bE jb3) g16 (sa jc3) (na jc3) (la jc3) (bE jc3) (F jc3)  (mu_s _ _ _) ((mu_n ((mp_ne ((hD.2.2.2.2.1.1 22 (by omega)).1.2.1) ((hD.2.2.2.2.1.1 22 (by omega)).1.1) (by simp)))).trans ((mu_n ((mp_ne ((hD.2.2.2.2.1.1 22 (by omega)).1.2.1) ((hD.2.2.2.2.1.1 22 (by omega)).1.2.2) (by simp)))).trans ((hD.2.2.2.2.1.1 22 (by omega)).1.2.1))) ((mu_n ((mp_ne ((hD.2.2.2.2.1.1 22 (by omega)).1.2.2) ((hD.2.2.2.2.1.1 22 (by omega)).1.1) (by simp)))).trans (mu_s _ _ _)) ((mu_n (((hD.2.2.2.2.1.2 jc3 22 (by omega) (by omega) (by omega)).1))).trans ((mu_n ((mp_ne ((hD.2.2.2.2.1.1 jc3 (by omega)).1.1) ((hD.2.2.2.2.1.1 22 (by omega)).1.2.2) (by simp)))).trans ((hD.2.2.2.2.1.1 jc3 (by omega)).1.1))) ((mu_n ((mp_ne ((hD.2.2.2.2.1.1 jc3 (by omega)).1.2.1) ((hD.2.2.2.2.1.1 22 (by omega)).1.1) (by simp)))).trans ((mu_n ((mp_ne ((hD.2.2.2.2.1.1 jc3 (by omega)).1.2.1) ((hD.2.2.2.2.1.1 22 (by omega)).1.2.2) (by simp)))).trans ((hD.2.2.2.2.1.1 jc3 (by omega)).1.2.1))) ((mu_n ((mp_ne ((hD.2.2.2.2.1.1 jc3 (by omega)).1.2.2) ((hD.2.2.2.2.1.1 22 (by omega)).1.1) (by simp)))).trans ((mu_n (((hD.2.2.2.2.1.2 jc3 22 (by omega) (by omega) (by omega)).2.2))).trans ((hD.2.2.2.2.1.1 jc3 (by omega)).1.2.2))) (by omega) (by omega) (by omega) (((hD.2.2.2.2.1.2 22 jc3 (by omega) (by omega) (by omega)).2.2)) (((hD.2.2.2.2.1.2 22 jc3 (by omega) (by omega) (by omega)).1))) (cwV 1 hts gX3_meet_X1_cutTo rfl rfl rfl (by decide +kernel) ⟨Nat.le_of_ble_eq_true rfl, Nat.le_of_ble_eq_true rfl⟩) ⟨KW.blind, hP.recv hK rfl (mu_s _ _ _), fun U9 hU9 hW9 => ⟨rfl, KW.pre hBs hKK hS hP U9 hU9 hW9⟩⟩ rfl rfl hl.1 rfl (lv_room (Nat.le_of_ble_eq_true rfl)) dX3_meet_29 ⟨(Nat.le_trans (m := 5 + 23 * (511 - k)) (by omega) (Nat.le_refl _)), (Nat.le_trans (m := 30 + 7268 * (511 - k)) (by omega) (Nat.le_refl _))⟩) hS (fun m29 H locs hq9 hP hz9 hS => ?_)
  obtain ⟨g29, b29, rfl, hb29, hg29⟩ := hq9
  have hP : mw G.1 vwCl B (mu (mu μ (la 22) (.inl (G.2 0, 158 * k + 158, .inr (.inl g29)))) (sa 22) (.inr (1, [.ref (na 22), .int (nI b29)]))) _ := mw_eq ((congrArg (fun z => mu z (la 22) (.inl (G.2 0, 158 * k + 158, .inr (.inl g29)))) (mu_u _ _ _ _)).trans ((mu_c _ _ ((mp_ne ((hD.2.2.2.2.1.1 22 (by omega)).1.1) ((hD.2.2.2.2.1.1 22 (by omega)).1.2.2) (by simp)))).trans (congrArg (fun z => mu z (sa 22) (.inr (1, [.ref (na 22), .int (nI b29)]))) (mu_u _ _ _ _)))) hP
  refine lv_aload_n hx hb dX3_meet_32 rfl (lv_at hl 0 rfl) ?_
  refine lv_iload_n hx hb dX3_meet_33 rfl (lv_at hl 1 rfl) ?_
  have hDx34 : DK G (mu (mu μ (la 22) (.inl (G.2 0, 158 * k + 158, .inr (.inl g29)))) (sa 22) (.inr (1, [.ref (na 22), .int (nI b29)]))) d aS aL aR aT aO k sc sa na la (va_up bE 22 b29) (va_up F 22 g29) fS fL fR fT sp fO := hD.sh2 (by omega) (by omega)
  have hRx34 : DQ μ (mu (mu μ (la 22) (.inl (G.2 0, 158 * k + 158, .inr (.inl g29)))) (sa 22) (.inr (1, [.ref (na 22), .int (nI b29)]))) d aO sa na la la := DQ.sh2 (by omega)
  obtain ⟨μ34, em34⟩ : ∃ x9 : mp, x9 = mu (mu μ (la 22) (.inl (G.2 0, 158 * k + 158, .inr (.inl g29)))) (sa 22) (.inr (1, [.ref (na 22), .int (nI b29)])) := ⟨_, rfl⟩
  rw [← em34] at hP hDx34 hRx34
  refine kg_v (va_runV (As := [.int (nI ja3)]) (rest := []) ⟨hx, hb, hml, hown, hts⟩ (c_X3_putMadek l G B μ34 _ _ d aS aL aR aT aO k sc sa na la (va_up bE 22 b29) (va_up F 22 g29) fS fL fR fT sp fO ja3 hDx34 (by omega) hkw) (cwV 1 hts gX3_meet_X3_putMade rfl rfl rfl (by decide +kernel) ⟨Nat.le_of_ble_eq_true rfl, Nat.le_of_ble_eq_true rfl⟩) ⟨KN.blind, hP.recv hK rfl (hDx34.1), fun U9 hU9 hW9 => ⟨rfl, KW.pre hBs hKK hS hP U9 hU9 hW9, by rw [hU9], by rw [hU9]⟩⟩ rfl rfl hl.1 rfl (lv_room (Nat.le_of_ble_eq_true rfl)) dX3_meet_34 ⟨(Nat.le_trans (m := 5 + 23 * (511 - k)) (by omega) (Nat.le_refl _)), (Nat.le_trans (m := 30 + 7268 * (511 - k)) (by omega) (Nat.le_refl _))⟩) hS (fun m34 k34 H locs hq9 hP hz9 hS => ?_)
  obtain ⟨la34, bE34, F34, hD34, hR34, hkq_34, hkw34⟩ := hq9
  have hk5_34 := hkw34.le
  have hR34 := hRx34.tr hR34
  refine lv_aload_n hx hb dX3_meet_37 rfl (lv_at hl 0 rfl) ?_
  refine mw_get (C := RX3) (T := TX3) (N := 7) hx hb hts in_X3_meet_X3 hown hK hP (hD34.1) rfl 0 (by decide) (hts (.fieldLink RX3 13 "OctagonDesk" "slots" "[LOctagonDesk$Shape;") (by decide +kernel)) (fun _ h9 => h9) rfl dX3_meet_38 ?_
  refine lv_iload_n hx hb dX3_meet_41 rfl (lv_at hl 1 rfl) ?_
  refine mw_aldq hx hb hK hP 3 (hD34.2.1.1) rfl (by omega) (by omega) (hD34.2.1.2.2.2.2.1 ja3 (by omega)) dX3_meet_42 ?_
  refine mw_get (C := RX1) (T := TX1) (N := 2) hx hb hts in_X3_meet_X1 hown hK hP ((hD34.2.2.2.2.1.1 ja3 (by omega)).1.1) rfl 1 (by decide) (hts (.fieldLink RX3 63 "OctagonDesk$Shape" "empty" "Z") (by decide +kernel)) (fun _ h9 => h9) rfl dX3_meet_43 ?_
  refine lv_if_ne (tgt := 53) hx hb dX3_meet_46 (by decide) (fun hc46 => ?_) (fun hc46 => ?_)
  · refine lv_iconst (v := nI 0) hx hb dX3_meet_53 (by decide) ?_
    refine Wknow (fun hw1 hw2 => ?_)
    rw [hQ]
    refine vx_ret ?_
    refine W.widen (k := 5 + 23 * (511 - k)) (n := 30 + 7268 * (511 - k)) (by omega) (by omega) ?_
    exact W.zret (v := nI 0) (ty := .boolean) hx hb hr (by first | rfl | decide) (fun t99 ht99 hW99 => ⟨⟨nI 0, (m34, k34), rfl, (⟨DG.fin hA hSV hD hD34 hR34 hkw34, by omega⟩), by show mw _ _ _ _ t99.heap; rw [ht99]; exact hP, by show t99.heap.size ≤ N9 + (5 + 23 * (k34 - k)); rw [ht99]; omega, by show tot t99.heap ≤ T9 + (30 + 7268 * (k34 - k)); rw [ht99]; omega⟩, hS.F ht99⟩) hS.2.2 dX3_meet_54
  · refine lv_iconst (v := nI 1) hx hb dX3_meet_49 (by decide) ?_
    refine lv_goto (tgt := 54) hx hb dX3_meet_50 (by decide) ?_
    refine Wknow (fun hw1 hw2 => ?_)
    rw [hQ]
    refine vx_ret ?_
    refine W.widen (k := 5 + 23 * (511 - k)) (n := 30 + 7268 * (511 - k)) (by omega) (by omega) ?_
    exact W.zret (v := nI 1) (ty := .boolean) hx hb hr (by first | rfl | decide) (fun t99 ht99 hW99 => ⟨⟨nI 1, (m34, k34), rfl, (⟨DG.fin hA hSV hD hD34 hR34 hkw34, by omega⟩), by show mw _ _ _ _ t99.heap; rw [ht99]; exact hP, by show t99.heap.size ≤ N9 + (5 + 23 * (k34 - k)); rw [ht99]; omega, by show tot t99.heap ≤ T9 + (30 + 7268 * (k34 - k)); rw [ht99]; omega⟩, hS.F ht99⟩) hS.2.2 dX3_meet_54

abbrev rg_X3_act (k : Nat) : Room := { frames := 9, cells := 5 + 23 * (511 - k), slots := 30 + 7268 * (511 - k), locals := 167 }
set_option maxHeartbeats 4000000 in
set_option maxRecDepth 100000 in
theorem g_X3_act (l : Launch) (hlt : l.stackTraces = false) (G : GG) (B : Nat) (μ : mp) (N9 T9 : Nat) (d k sc : Nat) (D : Nat → Prop) (x9 k9 a9 b9 c9 : Int32) (hG : DG G μ d k sc D) : vx_Met l yX3_act wsX3_act (rg_X3_act k) (va_Pc [.ref d, .int x9, .int k9, .int a9, .int b9, .int c9] (KXN G B N9 T9 μ)) (va_Qi (fun r9 (u9 : mp × Nat) => (fun r μ2 k2 => (DG G μ2 d k2 sc (DN2 D μ) ∧ FD D μ μ2) ∧ k ≤ k2) r9 u9.1 u9.2) (BG G B N9 T9 k 5 30) (fun q => B ≤ q)) (XN G B N9 T9 5 30 μ (fun E => E = exA)) (5 + 23 * (511 - k)) (30 + 7268 * (511 - k)) (fun q => B ≤ q) := by
  obtain ⟨aS, aL, aR, aT, aO, sa, na, la, bE, F, fS, fL, fR, fT, sp, fO, hD, hSV, hkw, hA⟩ := hG
  refine vx_ofW (cc := cX3_act) (maxL := 6) (ret := (some .boolean)) (by decide) rfl ?_
  intro p e s m args below meth c s₁ B9 hml hout hv
  obtain ⟨hargs, ⟨⟨hBs, hP, hKK⟩, hDc⟩, hN9, hT9⟩ := hv
  have hx := B9.exec
  have hb := B9.bytes
  have hr := B9.returns
  have hts := atoms_spec (ws := wsX3_act) B9.pre
  have hown : s.vm.findClass RX3 = some m.cls := findClass_of_methodNamed B9.named
  have hlocks := B9.notSynchronized
  have hK := hKK.k
  have hS : va_S (fun q => B ≤ q) s.heap s.heap [] := va_S.rf
  obtain ⟨Q, hQ⟩ : ∃ Q, Q = vx_MQ below (va_Qi (fun r9 (u9 : mp × Nat) => (fun r μ2 k2 => (DG G μ2 d k2 sc (DN2 D μ) ∧ FD D μ μ2) ∧ k ≤ k2) r9 u9.1 u9.2) (BG G B N9 T9 k 5 30) (fun q => B ≤ q)) (XN G B N9 T9 5 30 μ (fun E => E = exA)) args s (5 + 23 * (511 - k)) (30 + 7268 * (511 - k)) (fun q => B ≤ q) := ⟨_, rfl⟩
  rw [← hQ]
  have in_X3_act_X1 : ∀ w ∈ wsX10, w ∈ wsX3_act := by decide +kernel
  have in_X3_act_X3 : ∀ w ∈ wsX30, w ∈ wsX3_act := by decide +kernel
  have hk5 := hkw.le
  have hl := lv_entry ([.ref d, .int x9, .int k9, .int a9, .int b9, .int c9]) (n := 6) (Nat.le_of_ble_eq_true rfl)
  have he9 : entryFrame m args 6 = entryFrame m ([.ref d, .int x9, .int k9, .int a9, .int b9, .int c9] : List Value).toArray 6 := by rw [hargs]
  rw [he9, lg_entry_eq]
  generalize (lg_sl ([.ref d, .int x9, .int k9, .int a9, .int b9, .int c9]) ++ List.replicate (6 - (lg_sl ([.ref d, .int x9, .int k9, .int a9, .int b9, .int c9])).length) Slot.unset).toArray = ls at hl ⊢
  have hl : lv_has ls 6 [(0, .ref d), (1, .int x9), (2, .int k9), (3, .int a9), (4, .int b9), (5, .int c9)] := hl
  refine lv_iload_n hx hb dX3_act_0 rfl (lv_at hl 1 rfl) ?_
  refine kx_v (vx_runS (As := [.int x9]) (rest := []) ⟨hx, hb, hml, hown, hts⟩ (c_X3_requireSlot l hlt G B (μ) x9) (va_cwS 1 hts gX3_act_X3_requireSlot rfl rfl rfl (by decide +kernel) ⟨Nat.le_of_ble_eq_true rfl, Nat.le_of_ble_eq_true rfl⟩) ⟨KX.blind, fun U9 hU9 hW9 => ⟨rfl, KW.pre hBs hKK hS hP U9 hU9 hW9, hDc.at hW9⟩⟩ rfl rfl hl.1 rfl (lv_room (Nat.le_of_ble_eq_true rfl)) dX3_act_1 ⟨(Nat.le_trans (m := 5 + 23 * (511 - k)) (by omega) (Nat.le_refl _)), (Nat.le_trans (m := 30 + 7268 * (511 - k)) (by omega) (Nat.le_refl _))⟩) hS (fun E ce q9 H locs hce hP hS h91 h92 h93 => ?_) (fun m1 H locs hq9 hP hz9 hS => ?_)
  · rw [hQ]
    exact kx_outN hN9 hT9 hout hlocks h91 h92 h93 (hce.1) hP hS (by omega) (by omega) (Nat.le_trans (m := 5 + 23 * (511 - k)) (by omega) (Nat.le_refl _)) (Nat.le_trans (m := 30 + 7268 * (511 - k)) (by omega) (Nat.le_refl _))
  obtain ⟨he9, hk1⟩ := hq9
  rw [he9] at hP
  have hx1 := hk1
  obtain ⟨j1, hj1, ej1⟩ := ok_nat (by decide) hk1
  subst ej1
  refine lv_iload_n hx hb dX3_act_4 rfl (lv_at hl 2 rfl) ?_
  refine lv_iload_n hx hb dX3_act_5 rfl (lv_at hl 3 rfl) ?_
  refine lv_iload hx hb dX3_act_6 (lv_at hl 4 rfl) ?_
  refine lv_iload hx hb dX3_act_8 (lv_at hl 5 rfl) ?_
  refine kx_v (vx_runS (As := [.int k9, .int a9, .int b9, .int c9]) (rest := []) ⟨hx, hb, hml, hown, hts⟩ (c_X3_requireAction l hlt G B (μ) k9 a9 b9 c9) (va_cwS 4 hts gX3_act_X3_requireAction rfl rfl rfl (by decide +kernel) ⟨Nat.le_of_ble_eq_true rfl, Nat.le_of_ble_eq_true rfl⟩) ⟨KX.blind, fun U9 hU9 hW9 => ⟨rfl, KW.pre hBs hKK hS hP U9 hU9 hW9, hDc.at hW9⟩⟩ rfl rfl hl.1 rfl (lv_room (Nat.le_of_ble_eq_true rfl)) dX3_act_10 ⟨(Nat.le_trans (m := 5 + 23 * (511 - k)) (by omega) (Nat.le_refl _)), (Nat.le_trans (m := 30 + 7268 * (511 - k)) (by omega) (Nat.le_refl _))⟩) hS (fun E ce q9 H locs hce hP hS h91 h92 h93 => ?_) (fun m10 H locs hq9 hP hz9 hS => ?_)
  · rw [hQ]
    exact kx_outN hN9 hT9 hout hlocks h91 h92 h93 (hce.1) hP hS (by omega) (by omega) (Nat.le_trans (m := 5 + 23 * (511 - k)) (by omega) (Nat.le_refl _)) (Nat.le_trans (m := 30 + 7268 * (511 - k)) (by omega) (Nat.le_refl _))
  obtain ⟨he9, hk10⟩ := hq9
  rw [he9] at hP
  obtain ⟨hkN, hk10⟩ := hk10
  rcases hk10 with ⟨ek9, hp1, hp2, hp3⟩ | ⟨ek9, hp1, hp2⟩ | ⟨ek9, hp1, hp2, hp3⟩
  · replace ek9 : k9 = nI 0 := ek9.trans (by decide)
    subst ek9
    obtain ⟨na9, hna9, ena9⟩ := ok_nat (n := 12) (by decide) hp1
    subst ena9
    obtain ⟨nb9, hnb9, enb9⟩ := ok_nat (n := 12) (by decide) hp2
    subst enb9
    have hb22_13 := hD.b 22 (by omega)
    have hbj1_13 := hD.b j1 (by omega)
    refine lv_aload_n hx hb dX3_act_13 rfl (lv_at hl 0 rfl) ?_
    refine mw_get (C := RX3) (T := TX3) (N := 7) hx hb hts in_X3_act_X3 hown hK hP (hD.1) rfl 1 (by decide) (hts (.fieldLink RX3 29 "OctagonDesk" "made" "LOctagonDesk$Shape;") (by decide +kernel)) (fun _ h9 => h9) rfl dX3_act_14 ?_
    refine lv_aload_n hx hb dX3_act_17 rfl (lv_at hl 0 rfl) ?_
    refine mw_get (C := RX3) (T := TX3) (N := 7) hx hb hts in_X3_act_X3 hown hK hP (hD.1) rfl 0 (by decide) (hts (.fieldLink RX3 13 "OctagonDesk" "slots" "[LOctagonDesk$Shape;") (by decide +kernel)) (fun _ h9 => h9) rfl dX3_act_18 ?_
    refine lv_iload_n hx hb dX3_act_21 rfl (lv_at hl 1 rfl) ?_
    refine mw_aldq hx hb hK hP 3 (hD.2.1.1) rfl (by omega) (by omega) (hD.2.1.2.2.2.2.1 j1 (by omega)) dX3_act_22 ?_
    refine lv_iload_n hx hb dX3_act_23 rfl (lv_at hl 2 rfl) ?_
    refine lv_iload_n hx hb dX3_act_24 rfl (lv_at hl 3 rfl) ?_
    refine lv_iload hx hb dX3_act_25 (lv_at hl 4 rfl) ?_
    refine lv_iload hx hb dX3_act_27 (lv_at hl 5 rfl) ?_
    refine kc_v (va_runV (As := [.ref (sa j1), .int (nI 0), .int (nI na9), .int (nI nb9), .int c9]) (rest := []) ⟨hx, hb, hml, hown, hts⟩ (c_X1_makeFrom_0 l G B (μ) (sa 22) (na 22) (la 22) k (bE 22) (F 22) (sa j1) (na j1) (la j1) (bE j1) (F j1) na9 nb9 c9 ((hD.2.2.2.2.1.1 22 (by omega)).1.1) ((hD.2.2.2.2.1.1 22 (by omega)).1.2.1) ((hD.2.2.2.2.1.1 22 (by omega)).1.2.2) ((hD.2.2.2.2.1.1 j1 (by omega)).1.1) ((hD.2.2.2.2.1.1 j1 (by omega)).1.2.1) ((hD.2.2.2.2.1.1 j1 (by omega)).1.2.2) (by omega) (by omega) (by omega) (((hD.2.2.2.2.1.2 22 j1 (by omega) (by omega) (by omega)).2.2)) (((hD.2.2.2.2.1.2 22 j1 (by omega) (by omega) (by omega)).1)) (by omega) (by omega)) (cwV 5 hts gX3_act_X1_makeFrom rfl rfl rfl (by decide +kernel) ⟨Nat.le_of_ble_eq_true rfl, Nat.le_of_ble_eq_true rfl⟩) ⟨KW.blind, hP.recv hK rfl ((hD.2.2.2.2.1.1 22 (by omega)).1.1), fun U9 hU9 hW9 => ⟨rfl, KW.pre hBs hKK hS hP U9 hU9 hW9⟩⟩ rfl rfl hl.1 rfl (lv_room (Nat.le_of_ble_eq_true rfl)) dX3_act_29 ⟨(Nat.le_trans (m := 5 + 23 * (511 - k)) (by omega) (Nat.le_refl _)), (Nat.le_trans (m := 30 + 7268 * (511 - k)) (by omega) (Nat.le_refl _))⟩) hS (fun m29 H locs hq9 hP hz9 hS => ?_)
    obtain ⟨g29, b29, rfl, hb29, hg29⟩ := hq9
    have hP : mw G.1 vwCl B (mu (mu μ (sa 22) (.inr (1, [.ref (na 22), .int (nI b29)]))) (la 22) (.inl (G.2 0, 158 * k + 158, .inr (.inl g29)))) _ := mw_eq (congrArg (fun z => mu z (la 22) (.inl (G.2 0, 158 * k + 158, .inr (.inl g29)))) (rfl)) hP
    refine lv_aload_n hx hb dX3_act_32 rfl (lv_at hl 0 rfl) ?_
    refine lv_iload_n hx hb dX3_act_33 rfl (lv_at hl 1 rfl) ?_
    have hDx34 : DK G (mu (mu μ (sa 22) (.inr (1, [.ref (na 22), .int (nI b29)]))) (la 22) (.inl (G.2 0, 158 * k + 158, .inr (.inl g29)))) d aS aL aR aT aO k sc sa na la (va_up bE 22 b29) (va_up F 22 g29) fS fL fR fT sp fO := hD.sh (by omega) (by omega)
    have hRx34 : DQ μ (mu (mu μ (sa 22) (.inr (1, [.ref (na 22), .int (nI b29)]))) (la 22) (.inl (G.2 0, 158 * k + 158, .inr (.inl g29)))) d aO sa na la la := DQ.sh (by omega)
    obtain ⟨μ34, em34⟩ : ∃ x9 : mp, x9 = mu (mu μ (sa 22) (.inr (1, [.ref (na 22), .int (nI b29)]))) (la 22) (.inl (G.2 0, 158 * k + 158, .inr (.inl g29))) := ⟨_, rfl⟩
    rw [← em34] at hP hDx34 hRx34
    refine kg_v (va_runV (As := [.int (nI j1)]) (rest := []) ⟨hx, hb, hml, hown, hts⟩ (c_X3_putMadek l G B μ34 _ _ d aS aL aR aT aO k sc sa na la (va_up bE 22 b29) (va_up F 22 g29) fS fL fR fT sp fO j1 hDx34 (by omega) hkw) (cwV 1 hts gX3_act_X3_putMade rfl rfl rfl (by decide +kernel) ⟨Nat.le_of_ble_eq_true rfl, Nat.le_of_ble_eq_true rfl⟩) ⟨KN.blind, hP.recv hK rfl (hDx34.1), fun U9 hU9 hW9 => ⟨rfl, KW.pre hBs hKK hS hP U9 hU9 hW9, by rw [hU9], by rw [hU9]⟩⟩ rfl rfl hl.1 rfl (lv_room (Nat.le_of_ble_eq_true rfl)) dX3_act_34 ⟨(Nat.le_trans (m := 5 + 23 * (511 - k)) (by omega) (Nat.le_refl _)), (Nat.le_trans (m := 30 + 7268 * (511 - k)) (by omega) (Nat.le_refl _))⟩) hS (fun m34 k34 H locs hq9 hP hz9 hS => ?_)
    obtain ⟨la34, bE34, F34, hD34, hR34, hkq_34, hkw34⟩ := hq9
    have hk5_34 := hkw34.le
    have hR34 := hRx34.tr hR34
    refine lv_aload_n hx hb dX3_act_37 rfl (lv_at hl 0 rfl) ?_
    refine mw_get (C := RX3) (T := TX3) (N := 7) hx hb hts in_X3_act_X3 hown hK hP (hD34.1) rfl 0 (by decide) (hts (.fieldLink RX3 13 "OctagonDesk" "slots" "[LOctagonDesk$Shape;") (by decide +kernel)) (fun _ h9 => h9) rfl dX3_act_38 ?_
    refine lv_iload_n hx hb dX3_act_41 rfl (lv_at hl 1 rfl) ?_
    refine mw_aldq hx hb hK hP 3 (hD34.2.1.1) rfl (by omega) (by omega) (hD34.2.1.2.2.2.2.1 j1 (by omega)) dX3_act_42 ?_
    refine mw_get (C := RX1) (T := TX1) (N := 2) hx hb hts in_X3_act_X1 hown hK hP ((hD34.2.2.2.2.1.1 j1 (by omega)).1.1) rfl 1 (by decide) (hts (.fieldLink RX3 63 "OctagonDesk$Shape" "empty" "Z") (by decide +kernel)) (fun _ h9 => h9) rfl dX3_act_43 ?_
    refine lv_if_ne (tgt := 53) hx hb dX3_act_46 (by decide) (fun hc46 => ?_) (fun hc46 => ?_)
    · refine lv_iconst (v := nI 0) hx hb dX3_act_53 (by decide) ?_
      refine Wknow (fun hw1 hw2 => ?_)
      rw [hQ]
      refine vx_ret ?_
      refine W.widen (k := 5 + 23 * (511 - k)) (n := 30 + 7268 * (511 - k)) (by omega) (by omega) ?_
      exact W.zret (v := nI 0) (ty := .boolean) hx hb hr (by first | rfl | decide) (fun t99 ht99 hW99 => ⟨⟨nI 0, (m34, k34), rfl, (⟨DG.fin hA hSV hD hD34 hR34 hkw34, by omega⟩), by show mw _ _ _ _ t99.heap; rw [ht99]; exact hP, by show t99.heap.size ≤ N9 + (5 + 23 * (k34 - k)); rw [ht99]; omega, by show tot t99.heap ≤ T9 + (30 + 7268 * (k34 - k)); rw [ht99]; omega⟩, hS.F ht99⟩) hS.2.2 dX3_act_54
    · refine lv_iconst (v := nI 1) hx hb dX3_act_49 (by decide) ?_
      refine lv_goto (tgt := 54) hx hb dX3_act_50 (by decide) ?_
      refine Wknow (fun hw1 hw2 => ?_)
      rw [hQ]
      refine vx_ret ?_
      refine W.widen (k := 5 + 23 * (511 - k)) (n := 30 + 7268 * (511 - k)) (by omega) (by omega) ?_
      exact W.zret (v := nI 1) (ty := .boolean) hx hb hr (by first | rfl | decide) (fun t99 ht99 hW99 => ⟨⟨nI 1, (m34, k34), rfl, (⟨DG.fin hA hSV hD hD34 hR34 hkw34, by omega⟩), by show mw _ _ _ _ t99.heap; rw [ht99]; exact hP, by show t99.heap.size ≤ N9 + (5 + 23 * (k34 - k)); rw [ht99]; omega, by show tot t99.heap ≤ T9 + (30 + 7268 * (k34 - k)); rw [ht99]; omega⟩, hS.F ht99⟩) hS.2.2 dX3_act_54
  · replace ek9 : k9 = nI 1 := ek9.trans (by decide)
    subst ek9
    obtain ⟨na9, hna9, ena9⟩ := ok_nat (n := 6) (by decide) hp1
    subst ena9
    obtain ⟨nb9, hnb9, enb9⟩ := ok_nat (n := 12) (by decide) hp2
    subst enb9
    have hb22_13 := hD.b 22 (by omega)
    have hbj1_13 := hD.b j1 (by omega)
    refine lv_aload_n hx hb dX3_act_13 rfl (lv_at hl 0 rfl) ?_
    refine mw_get (C := RX3) (T := TX3) (N := 7) hx hb hts in_X3_act_X3 hown hK hP (hD.1) rfl 1 (by decide) (hts (.fieldLink RX3 29 "OctagonDesk" "made" "LOctagonDesk$Shape;") (by decide +kernel)) (fun _ h9 => h9) rfl dX3_act_14 ?_
    refine lv_aload_n hx hb dX3_act_17 rfl (lv_at hl 0 rfl) ?_
    refine mw_get (C := RX3) (T := TX3) (N := 7) hx hb hts in_X3_act_X3 hown hK hP (hD.1) rfl 0 (by decide) (hts (.fieldLink RX3 13 "OctagonDesk" "slots" "[LOctagonDesk$Shape;") (by decide +kernel)) (fun _ h9 => h9) rfl dX3_act_18 ?_
    refine lv_iload_n hx hb dX3_act_21 rfl (lv_at hl 1 rfl) ?_
    refine mw_aldq hx hb hK hP 3 (hD.2.1.1) rfl (by omega) (by omega) (hD.2.1.2.2.2.2.1 j1 (by omega)) dX3_act_22 ?_
    refine lv_iload_n hx hb dX3_act_23 rfl (lv_at hl 2 rfl) ?_
    refine lv_iload_n hx hb dX3_act_24 rfl (lv_at hl 3 rfl) ?_
    refine lv_iload hx hb dX3_act_25 (lv_at hl 4 rfl) ?_
    refine lv_iload hx hb dX3_act_27 (lv_at hl 5 rfl) ?_
    refine kc_v (va_runV (As := [.ref (sa j1), .int (nI 1), .int (nI na9), .int (nI nb9), .int c9]) (rest := []) ⟨hx, hb, hml, hown, hts⟩ (c_X1_makeFrom_1 l G B (μ) (sa 22) (na 22) (la 22) k (bE 22) (F 22) (sa j1) (na j1) (la j1) (bE j1) (F j1) na9 nb9 c9 ((hD.2.2.2.2.1.1 22 (by omega)).1.1) ((hD.2.2.2.2.1.1 22 (by omega)).1.2.1) ((hD.2.2.2.2.1.1 22 (by omega)).1.2.2) ((hD.2.2.2.2.1.1 j1 (by omega)).1.1) ((hD.2.2.2.2.1.1 j1 (by omega)).1.2.1) ((hD.2.2.2.2.1.1 j1 (by omega)).1.2.2) (by omega) (by omega) (by omega) (((hD.2.2.2.2.1.2 22 j1 (by omega) (by omega) (by omega)).2.2)) (((hD.2.2.2.2.1.2 22 j1 (by omega) (by omega) (by omega)).1)) (by omega) (by omega)) (cwV 5 hts gX3_act_X1_makeFrom rfl rfl rfl (by decide +kernel) ⟨Nat.le_of_ble_eq_true rfl, Nat.le_of_ble_eq_true rfl⟩) ⟨KW.blind, hP.recv hK rfl ((hD.2.2.2.2.1.1 22 (by omega)).1.1), fun U9 hU9 hW9 => ⟨rfl, KW.pre hBs hKK hS hP U9 hU9 hW9⟩⟩ rfl rfl hl.1 rfl (lv_room (Nat.le_of_ble_eq_true rfl)) dX3_act_29 ⟨(Nat.le_trans (m := 5 + 23 * (511 - k)) (by omega) (Nat.le_refl _)), (Nat.le_trans (m := 30 + 7268 * (511 - k)) (by omega) (Nat.le_refl _))⟩) hS (fun m29 H locs hq9 hP hz9 hS => ?_)
    obtain ⟨g29, b29, rfl, hb29, hg29⟩ := hq9
    have hP : mw G.1 vwCl B (mu (mu μ (sa 22) (.inr (1, [.ref (na 22), .int (nI b29)]))) (la 22) (.inl (G.2 0, 158 * k + 158, .inr (.inl g29)))) _ := mw_eq (congrArg (fun z => mu z (la 22) (.inl (G.2 0, 158 * k + 158, .inr (.inl g29)))) (rfl)) hP
    refine lv_aload_n hx hb dX3_act_32 rfl (lv_at hl 0 rfl) ?_
    refine lv_iload_n hx hb dX3_act_33 rfl (lv_at hl 1 rfl) ?_
    have hDx34 : DK G (mu (mu μ (sa 22) (.inr (1, [.ref (na 22), .int (nI b29)]))) (la 22) (.inl (G.2 0, 158 * k + 158, .inr (.inl g29)))) d aS aL aR aT aO k sc sa na la (va_up bE 22 b29) (va_up F 22 g29) fS fL fR fT sp fO := hD.sh (by omega) (by omega)
    have hRx34 : DQ μ (mu (mu μ (sa 22) (.inr (1, [.ref (na 22), .int (nI b29)]))) (la 22) (.inl (G.2 0, 158 * k + 158, .inr (.inl g29)))) d aO sa na la la := DQ.sh (by omega)
    obtain ⟨μ34, em34⟩ : ∃ x9 : mp, x9 = mu (mu μ (sa 22) (.inr (1, [.ref (na 22), .int (nI b29)]))) (la 22) (.inl (G.2 0, 158 * k + 158, .inr (.inl g29))) := ⟨_, rfl⟩
    rw [← em34] at hP hDx34 hRx34
    refine kg_v (va_runV (As := [.int (nI j1)]) (rest := []) ⟨hx, hb, hml, hown, hts⟩ (c_X3_putMadek l G B μ34 _ _ d aS aL aR aT aO k sc sa na la (va_up bE 22 b29) (va_up F 22 g29) fS fL fR fT sp fO j1 hDx34 (by omega) hkw) (cwV 1 hts gX3_act_X3_putMade rfl rfl rfl (by decide +kernel) ⟨Nat.le_of_ble_eq_true rfl, Nat.le_of_ble_eq_true rfl⟩) ⟨KN.blind, hP.recv hK rfl (hDx34.1), fun U9 hU9 hW9 => ⟨rfl, KW.pre hBs hKK hS hP U9 hU9 hW9, by rw [hU9], by rw [hU9]⟩⟩ rfl rfl hl.1 rfl (lv_room (Nat.le_of_ble_eq_true rfl)) dX3_act_34 ⟨(Nat.le_trans (m := 5 + 23 * (511 - k)) (by omega) (Nat.le_refl _)), (Nat.le_trans (m := 30 + 7268 * (511 - k)) (by omega) (Nat.le_refl _))⟩) hS (fun m34 k34 H locs hq9 hP hz9 hS => ?_)
    obtain ⟨la34, bE34, F34, hD34, hR34, hkq_34, hkw34⟩ := hq9
    have hk5_34 := hkw34.le
    have hR34 := hRx34.tr hR34
    refine lv_aload_n hx hb dX3_act_37 rfl (lv_at hl 0 rfl) ?_
    refine mw_get (C := RX3) (T := TX3) (N := 7) hx hb hts in_X3_act_X3 hown hK hP (hD34.1) rfl 0 (by decide) (hts (.fieldLink RX3 13 "OctagonDesk" "slots" "[LOctagonDesk$Shape;") (by decide +kernel)) (fun _ h9 => h9) rfl dX3_act_38 ?_
    refine lv_iload_n hx hb dX3_act_41 rfl (lv_at hl 1 rfl) ?_
    refine mw_aldq hx hb hK hP 3 (hD34.2.1.1) rfl (by omega) (by omega) (hD34.2.1.2.2.2.2.1 j1 (by omega)) dX3_act_42 ?_
    refine mw_get (C := RX1) (T := TX1) (N := 2) hx hb hts in_X3_act_X1 hown hK hP ((hD34.2.2.2.2.1.1 j1 (by omega)).1.1) rfl 1 (by decide) (hts (.fieldLink RX3 63 "OctagonDesk$Shape" "empty" "Z") (by decide +kernel)) (fun _ h9 => h9) rfl dX3_act_43 ?_
    refine lv_if_ne (tgt := 53) hx hb dX3_act_46 (by decide) (fun hc46 => ?_) (fun hc46 => ?_)
    · refine lv_iconst (v := nI 0) hx hb dX3_act_53 (by decide) ?_
      refine Wknow (fun hw1 hw2 => ?_)
      rw [hQ]
      refine vx_ret ?_
      refine W.widen (k := 5 + 23 * (511 - k)) (n := 30 + 7268 * (511 - k)) (by omega) (by omega) ?_
      exact W.zret (v := nI 0) (ty := .boolean) hx hb hr (by first | rfl | decide) (fun t99 ht99 hW99 => ⟨⟨nI 0, (m34, k34), rfl, (⟨DG.fin hA hSV hD hD34 hR34 hkw34, by omega⟩), by show mw _ _ _ _ t99.heap; rw [ht99]; exact hP, by show t99.heap.size ≤ N9 + (5 + 23 * (k34 - k)); rw [ht99]; omega, by show tot t99.heap ≤ T9 + (30 + 7268 * (k34 - k)); rw [ht99]; omega⟩, hS.F ht99⟩) hS.2.2 dX3_act_54
    · refine lv_iconst (v := nI 1) hx hb dX3_act_49 (by decide) ?_
      refine lv_goto (tgt := 54) hx hb dX3_act_50 (by decide) ?_
      refine Wknow (fun hw1 hw2 => ?_)
      rw [hQ]
      refine vx_ret ?_
      refine W.widen (k := 5 + 23 * (511 - k)) (n := 30 + 7268 * (511 - k)) (by omega) (by omega) ?_
      exact W.zret (v := nI 1) (ty := .boolean) hx hb hr (by first | rfl | decide) (fun t99 ht99 hW99 => ⟨⟨nI 1, (m34, k34), rfl, (⟨DG.fin hA hSV hD hD34 hR34 hkw34, by omega⟩), by show mw _ _ _ _ t99.heap; rw [ht99]; exact hP, by show t99.heap.size ≤ N9 + (5 + 23 * (k34 - k)); rw [ht99]; omega, by show tot t99.heap ≤ T9 + (30 + 7268 * (k34 - k)); rw [ht99]; omega⟩, hS.F ht99⟩) hS.2.2 dX3_act_54
  · replace ek9 : k9 = nI 2 := ek9.trans (by decide)
    subst ek9
    obtain ⟨na9, hna9, ena9⟩ := ok_nat (n := 6) (by decide) hp1
    subst ena9
    have hb22_13 := hD.b 22 (by omega)
    have hbj1_13 := hD.b j1 (by omega)
    refine lv_aload_n hx hb dX3_act_13 rfl (lv_at hl 0 rfl) ?_
    refine mw_get (C := RX3) (T := TX3) (N := 7) hx hb hts in_X3_act_X3 hown hK hP (hD.1) rfl 1 (by decide) (hts (.fieldLink RX3 29 "OctagonDesk" "made" "LOctagonDesk$Shape;") (by decide +kernel)) (fun _ h9 => h9) rfl dX3_act_14 ?_
    refine lv_aload_n hx hb dX3_act_17 rfl (lv_at hl 0 rfl) ?_
    refine mw_get (C := RX3) (T := TX3) (N := 7) hx hb hts in_X3_act_X3 hown hK hP (hD.1) rfl 0 (by decide) (hts (.fieldLink RX3 13 "OctagonDesk" "slots" "[LOctagonDesk$Shape;") (by decide +kernel)) (fun _ h9 => h9) rfl dX3_act_18 ?_
    refine lv_iload_n hx hb dX3_act_21 rfl (lv_at hl 1 rfl) ?_
    refine mw_aldq hx hb hK hP 3 (hD.2.1.1) rfl (by omega) (by omega) (hD.2.1.2.2.2.2.1 j1 (by omega)) dX3_act_22 ?_
    refine lv_iload_n hx hb dX3_act_23 rfl (lv_at hl 2 rfl) ?_
    refine lv_iload_n hx hb dX3_act_24 rfl (lv_at hl 3 rfl) ?_
    refine lv_iload hx hb dX3_act_25 (lv_at hl 4 rfl) ?_
    refine lv_iload hx hb dX3_act_27 (lv_at hl 5 rfl) ?_
    refine kc_v (va_runV (As := [.ref (sa j1), .int (nI 2), .int (nI na9), .int b9, .int c9]) (rest := []) ⟨hx, hb, hml, hown, hts⟩ (c_X1_makeFrom_2 l G B (μ) (sa 22) (na 22) (la 22) k (bE 22) (F 22) (sa j1) (na j1) (la j1) (bE j1) (F j1) na9 b9 c9 ((hD.2.2.2.2.1.1 22 (by omega)).1.1) ((hD.2.2.2.2.1.1 22 (by omega)).1.2.1) ((hD.2.2.2.2.1.1 22 (by omega)).1.2.2) ((hD.2.2.2.2.1.1 j1 (by omega)).1.1) ((hD.2.2.2.2.1.1 j1 (by omega)).1.2.1) ((hD.2.2.2.2.1.1 j1 (by omega)).1.2.2) (by omega) (by omega) (by omega) (((hD.2.2.2.2.1.2 22 j1 (by omega) (by omega) (by omega)).2.2)) (((hD.2.2.2.2.1.2 22 j1 (by omega) (by omega) (by omega)).1)) (by omega)) (cwV 5 hts gX3_act_X1_makeFrom rfl rfl rfl (by decide +kernel) ⟨Nat.le_of_ble_eq_true rfl, Nat.le_of_ble_eq_true rfl⟩) ⟨KW.blind, hP.recv hK rfl ((hD.2.2.2.2.1.1 22 (by omega)).1.1), fun U9 hU9 hW9 => ⟨rfl, KW.pre hBs hKK hS hP U9 hU9 hW9⟩⟩ rfl rfl hl.1 rfl (lv_room (Nat.le_of_ble_eq_true rfl)) dX3_act_29 ⟨(Nat.le_trans (m := 5 + 23 * (511 - k)) (by omega) (Nat.le_refl _)), (Nat.le_trans (m := 30 + 7268 * (511 - k)) (by omega) (Nat.le_refl _))⟩) hS (fun m29 H locs hq9 hP hz9 hS => ?_)
    obtain ⟨g29, b29, rfl, hb29, hg29⟩ := hq9
    have hP : mw G.1 vwCl B (mu (mu μ (sa 22) (.inr (1, [.ref (na 22), .int (nI b29)]))) (la 22) (.inl (G.2 0, 158 * k + 158, .inr (.inl g29)))) _ := mw_eq (congrArg (fun z => mu z (la 22) (.inl (G.2 0, 158 * k + 158, .inr (.inl g29)))) (rfl)) hP
    refine lv_aload_n hx hb dX3_act_32 rfl (lv_at hl 0 rfl) ?_
    refine lv_iload_n hx hb dX3_act_33 rfl (lv_at hl 1 rfl) ?_
    have hDx34 : DK G (mu (mu μ (sa 22) (.inr (1, [.ref (na 22), .int (nI b29)]))) (la 22) (.inl (G.2 0, 158 * k + 158, .inr (.inl g29)))) d aS aL aR aT aO k sc sa na la (va_up bE 22 b29) (va_up F 22 g29) fS fL fR fT sp fO := hD.sh (by omega) (by omega)
    have hRx34 : DQ μ (mu (mu μ (sa 22) (.inr (1, [.ref (na 22), .int (nI b29)]))) (la 22) (.inl (G.2 0, 158 * k + 158, .inr (.inl g29)))) d aO sa na la la := DQ.sh (by omega)
    obtain ⟨μ34, em34⟩ : ∃ x9 : mp, x9 = mu (mu μ (sa 22) (.inr (1, [.ref (na 22), .int (nI b29)]))) (la 22) (.inl (G.2 0, 158 * k + 158, .inr (.inl g29))) := ⟨_, rfl⟩
    rw [← em34] at hP hDx34 hRx34
    refine kg_v (va_runV (As := [.int (nI j1)]) (rest := []) ⟨hx, hb, hml, hown, hts⟩ (c_X3_putMadek l G B μ34 _ _ d aS aL aR aT aO k sc sa na la (va_up bE 22 b29) (va_up F 22 g29) fS fL fR fT sp fO j1 hDx34 (by omega) hkw) (cwV 1 hts gX3_act_X3_putMade rfl rfl rfl (by decide +kernel) ⟨Nat.le_of_ble_eq_true rfl, Nat.le_of_ble_eq_true rfl⟩) ⟨KN.blind, hP.recv hK rfl (hDx34.1), fun U9 hU9 hW9 => ⟨rfl, KW.pre hBs hKK hS hP U9 hU9 hW9, by rw [hU9], by rw [hU9]⟩⟩ rfl rfl hl.1 rfl (lv_room (Nat.le_of_ble_eq_true rfl)) dX3_act_34 ⟨(Nat.le_trans (m := 5 + 23 * (511 - k)) (by omega) (Nat.le_refl _)), (Nat.le_trans (m := 30 + 7268 * (511 - k)) (by omega) (Nat.le_refl _))⟩) hS (fun m34 k34 H locs hq9 hP hz9 hS => ?_)
    obtain ⟨la34, bE34, F34, hD34, hR34, hkq_34, hkw34⟩ := hq9
    have hk5_34 := hkw34.le
    have hR34 := hRx34.tr hR34
    refine lv_aload_n hx hb dX3_act_37 rfl (lv_at hl 0 rfl) ?_
    refine mw_get (C := RX3) (T := TX3) (N := 7) hx hb hts in_X3_act_X3 hown hK hP (hD34.1) rfl 0 (by decide) (hts (.fieldLink RX3 13 "OctagonDesk" "slots" "[LOctagonDesk$Shape;") (by decide +kernel)) (fun _ h9 => h9) rfl dX3_act_38 ?_
    refine lv_iload_n hx hb dX3_act_41 rfl (lv_at hl 1 rfl) ?_
    refine mw_aldq hx hb hK hP 3 (hD34.2.1.1) rfl (by omega) (by omega) (hD34.2.1.2.2.2.2.1 j1 (by omega)) dX3_act_42 ?_
    refine mw_get (C := RX1) (T := TX1) (N := 2) hx hb hts in_X3_act_X1 hown hK hP ((hD34.2.2.2.2.1.1 j1 (by omega)).1.1) rfl 1 (by decide) (hts (.fieldLink RX3 63 "OctagonDesk$Shape" "empty" "Z") (by decide +kernel)) (fun _ h9 => h9) rfl dX3_act_43 ?_
    refine lv_if_ne (tgt := 53) hx hb dX3_act_46 (by decide) (fun hc46 => ?_) (fun hc46 => ?_)
    · refine lv_iconst (v := nI 0) hx hb dX3_act_53 (by decide) ?_
      refine Wknow (fun hw1 hw2 => ?_)
      rw [hQ]
      refine vx_ret ?_
      refine W.widen (k := 5 + 23 * (511 - k)) (n := 30 + 7268 * (511 - k)) (by omega) (by omega) ?_
      exact W.zret (v := nI 0) (ty := .boolean) hx hb hr (by first | rfl | decide) (fun t99 ht99 hW99 => ⟨⟨nI 0, (m34, k34), rfl, (⟨DG.fin hA hSV hD hD34 hR34 hkw34, by omega⟩), by show mw _ _ _ _ t99.heap; rw [ht99]; exact hP, by show t99.heap.size ≤ N9 + (5 + 23 * (k34 - k)); rw [ht99]; omega, by show tot t99.heap ≤ T9 + (30 + 7268 * (k34 - k)); rw [ht99]; omega⟩, hS.F ht99⟩) hS.2.2 dX3_act_54
    · refine lv_iconst (v := nI 1) hx hb dX3_act_49 (by decide) ?_
      refine lv_goto (tgt := 54) hx hb dX3_act_50 (by decide) ?_
      refine Wknow (fun hw1 hw2 => ?_)
      rw [hQ]
      refine vx_ret ?_
      refine W.widen (k := 5 + 23 * (511 - k)) (n := 30 + 7268 * (511 - k)) (by omega) (by omega) ?_
      exact W.zret (v := nI 1) (ty := .boolean) hx hb hr (by first | rfl | decide) (fun t99 ht99 hW99 => ⟨⟨nI 1, (m34, k34), rfl, (⟨DG.fin hA hSV hD hD34 hR34 hkw34, by omega⟩), by show mw _ _ _ _ t99.heap; rw [ht99]; exact hP, by show t99.heap.size ≤ N9 + (5 + 23 * (k34 - k)); rw [ht99]; omega, by show tot t99.heap ≤ T9 + (30 + 7268 * (k34 - k)); rw [ht99]; omega⟩, hS.F ht99⟩) hS.2.2 dX3_act_54

abbrev rg_X3_requirePlace : Room := { frames := 6, cells := 1, slots := 6, locals := 100 }
set_option maxHeartbeats 4000000 in
set_option maxRecDepth 100000 in
theorem g_X3_requirePlace (l : Launch) (hlt : l.stackTraces = false) (G : GG) (B : Nat) (μ : mp) (d aS aL aR aT aO k sc : Nat) (sa na la bE : Nat → Nat) (F : Nat → Nat → Int64) (fS fL fR fT : Nat → Option Nat) (sp : Nat → Nat) (fO : Nat → Int64) (j9 : Nat) (hD : DK G μ d aS aL aR aT aO k sc sa na la bE F fS fL fR fT sp fO) (hj9 : j9 < 6) : vx_Met l yX3_requirePlace wsX3_requirePlace rg_X3_requirePlace (va_Pc [.ref d, .int (nI j9)] (KX G B μ)) (va_Qv (fun μ2 => μ2 = μ) (BB G B) (fun q => B ≤ q)) (XX G B μ (fun E => E = exS)) 1 6 (fun q => B ≤ q) := by
  refine vx_ofW (cc := cX3_requirePlace) (maxL := 2) (ret := none) (by decide) rfl ?_
  intro p e s m args below meth c s₁ B9 hml hout hv
  obtain ⟨hargs, ⟨hBs, hP, hKK⟩, hDc⟩ := hv
  have hx := B9.exec
  have hb := B9.bytes
  have hr := B9.returns
  have hts := atoms_spec (ws := wsX3_requirePlace) B9.pre
  have hown : s.vm.findClass RX3 = some m.cls := findClass_of_methodNamed B9.named
  have hlocks := B9.notSynchronized
  have hK := hKK.k
  have hS : va_S (fun q => B ≤ q) s.heap s.heap [] := va_S.rf
  obtain ⟨Q, hQ⟩ : ∃ Q, Q = vx_MQ below (va_Qv (fun μ2 => μ2 = μ) (BB G B) (fun q => B ≤ q)) (XX G B μ (fun E => E = exS)) args s 1 6 (fun q => B ≤ q) := ⟨_, rfl⟩
  rw [← hQ]
  have in_X3_requirePlace_X1 : ∀ w ∈ wsX10, w ∈ wsX3_requirePlace := by decide +kernel
  have in_X3_requirePlace_X3 : ∀ w ∈ wsX30, w ∈ wsX3_requirePlace := by decide +kernel
  have hl := lv_entry ([.ref d, .int (nI j9)]) (n := 2) (Nat.le_of_ble_eq_true rfl)
  have he9 : entryFrame m args 2 = entryFrame m ([.ref d, .int (nI j9)] : List Value).toArray 2 := by rw [hargs]
  rw [he9, lg_entry_eq]
  generalize (lg_sl ([.ref d, .int (nI j9)]) ++ List.replicate (2 - (lg_sl ([.ref d, .int (nI j9)])).length) Slot.unset).toArray = ls at hl ⊢
  have hl : lv_has ls 2 [(0, .ref d), (1, .int (nI j9))] := hl
  refine lv_aload_n hx hb dX3_requirePlace_0 rfl (lv_at hl 0 rfl) ?_
  refine mw_get (C := RX3) (T := TX3) (N := 7) hx hb hts in_X3_requirePlace_X3 hown hK hP (hD.1) rfl 0 (by decide) (hts (.fieldLink RX3 13 "OctagonDesk" "slots" "[LOctagonDesk$Shape;") (by decide +kernel)) (fun _ h9 => h9) rfl dX3_requirePlace_1 ?_
  refine lv_iload_n hx hb dX3_requirePlace_4 rfl (lv_at hl 1 rfl) ?_
  refine mw_aldq hx hb hK hP 3 (hD.2.1.1) rfl (by omega) (by omega) (hD.2.1.2.2.2.2.1 j9 (by omega)) dX3_requirePlace_5 ?_
  refine mw_get (C := RX1) (T := TX1) (N := 2) hx hb hts in_X3_requirePlace_X1 hown hK hP ((hD.2.2.2.2.1.1 j9 (by omega)).1.1) rfl 1 (by decide) (hts (.fieldLink RX3 63 "OctagonDesk$Shape" "empty" "Z") (by decide +kernel)) (fun _ h9 => h9) rfl dX3_requirePlace_6 ?_
  refine lv_if_eq (tgt := 22) hx hb dX3_requirePlace_9 (by decide) (fun hc9 => ?_) (fun hc9 => ?_)
  · rw [hQ]
    refine vx_ret ?_
    refine W.widen (k := 1) (n := 6) (by omega) (by omega) ?_
    exact W.vret hx hb hr (fun t99 ht99 hW99 => ⟨⟨μ, rfl, (rfl), by show mw _ _ _ _ t99.heap; rw [ht99]; exact hP⟩, hS.F ht99⟩) hS.2.2 dX3_requirePlace_22
  · rw [hQ]
    exact kx_throw (is := 176) hx hb hlt hown (by decide +kernel) (hts (.classLink RX3 133 exS) (by decide +kernel)) (hts (.initialized exS) (by decide +kernel)) (List.mem_of_getElem? (i := 10) rfl) hKK.2.2.2.2.1.2 hDc (fun w9 h9 => hts w9 (List.mem_cons_of_mem _ (List.mem_append_right _ h9))) (by decide +kernel) (by decide +kernel) hKK hP hS (hl.1.trans hml.symm) dX3_requirePlace_12 dX3_requirePlace_15 dX3_requirePlace_16 dX3_requirePlace_18 dX3_requirePlace_21 hout (Nat.le_of_ble_eq_true rfl) (Nat.le_of_ble_eq_true rfl) (Nat.le_of_ble_eq_true rfl) (Nat.le_of_ble_eq_true rfl) (Nat.le_of_ble_eq_true rfl) hlocks (rfl) (Nat.le_of_ble_eq_true rfl) (Nat.le_of_ble_eq_true rfl)

abbrev rg_X3_most : Room := { frames := 8, cells := 5, slots := 30, locals := 141 }
set_option maxHeartbeats 4000000 in
set_option maxRecDepth 100000 in
theorem g_X3_most (l : Launch) (hlt : l.stackTraces = false) (G : GG) (B : Nat) (μ : mp) (d k sc : Nat) (D : Nat → Prop) (x9 y9 z9 : Int32) (hG : DG G μ d k sc D) : vx_Met l yX3_most wsX3_most rg_X3_most (va_Pc [.ref d, .int x9, .int y9, .int z9] (KX G B μ)) (va_Ql (fun r μ2 => (DG G μ2 d k sc (DN2 D μ) ∧ FD D μ μ2)) (BB G B) (fun q => B ≤ q)) (XX G B μ (fun E => E = exA ∨ E = exS)) 5 30 (fun q => B ≤ q) := by
  obtain ⟨aS, aL, aR, aT, aO, sa, na, la, bE, F, fS, fL, fR, fT, sp, fO, hD, hSV, hkw, hA⟩ := hG
  refine vx_ofW (cc := cX3_most) (maxL := 4) (ret := (some .long)) (by decide) rfl ?_
  intro p e s m args below meth c s₁ B9 hml hout hv
  obtain ⟨hargs, ⟨hBs, hP, hKK⟩, hDc⟩ := hv
  have hx := B9.exec
  have hb := B9.bytes
  have hr := B9.returns
  have hts := atoms_spec (ws := wsX3_most) B9.pre
  have hown : s.vm.findClass RX3 = some m.cls := findClass_of_methodNamed B9.named
  have hlocks := B9.notSynchronized
  have hK := hKK.k
  have hS : va_S (fun q => B ≤ q) s.heap s.heap [] := va_S.rf
  obtain ⟨Q, hQ⟩ : ∃ Q, Q = vx_MQ below (va_Ql (fun r μ2 => (DG G μ2 d k sc (DN2 D μ) ∧ FD D μ μ2)) (BB G B) (fun q => B ≤ q)) (XX G B μ (fun E => E = exA ∨ E = exS)) args s 5 30 (fun q => B ≤ q) := ⟨_, rfl⟩
  rw [← hQ]
  have in_X3_most_X3 : ∀ w ∈ wsX30, w ∈ wsX3_most := by decide +kernel
  have hk5 := hkw.le
  have hl := lv_entry ([.ref d, .int x9, .int y9, .int z9]) (n := 4) (Nat.le_of_ble_eq_true rfl)
  have he9 : entryFrame m args 4 = entryFrame m ([.ref d, .int x9, .int y9, .int z9] : List Value).toArray 4 := by rw [hargs]
  rw [he9, lg_entry_eq]
  generalize (lg_sl ([.ref d, .int x9, .int y9, .int z9]) ++ List.replicate (4 - (lg_sl ([.ref d, .int x9, .int y9, .int z9])).length) Slot.unset).toArray = ls at hl ⊢
  have hl : lv_has ls 4 [(0, .ref d), (1, .int x9), (2, .int y9), (3, .int z9)] := hl
  refine lv_iload_n hx hb dX3_most_0 rfl (lv_at hl 1 rfl) ?_
  refine kx_v (vx_runS (As := [.int x9]) (rest := []) ⟨hx, hb, hml, hown, hts⟩ (c_X3_requireSlot l hlt G B (μ) x9) (va_cwS 1 hts gX3_most_X3_requireSlot rfl rfl rfl (by decide +kernel) ⟨Nat.le_of_ble_eq_true rfl, Nat.le_of_ble_eq_true rfl⟩) ⟨KX.blind, fun U9 hU9 hW9 => ⟨rfl, KW.pre hBs hKK hS hP U9 hU9 hW9, hDc.at hW9⟩⟩ rfl rfl hl.1 rfl (lv_room (Nat.le_of_ble_eq_true rfl)) dX3_most_1 ⟨(Nat.le_of_ble_eq_true rfl), (Nat.le_of_ble_eq_true rfl)⟩) hS (fun E ce q9 H locs hce hP hS h91 h92 h93 => ?_) (fun m1 H locs hq9 hP hz9 hS => ?_)
  · rw [hQ]
    exact kx_out hout hlocks h91 h92 h93 (Or.inl hce.1) hP hS (Nat.le_of_ble_eq_true rfl) (Nat.le_of_ble_eq_true rfl)
  obtain ⟨he9, hk1⟩ := hq9
  rw [he9] at hP
  have hx1 := hk1
  obtain ⟨j1, hj1, ej1⟩ := ok_nat (by decide) hk1
  subst ej1
  refine lv_iload_n hx hb dX3_most_4 rfl (lv_at hl 2 rfl) ?_
  refine lv_iload_n hx hb dX3_most_5 rfl (lv_at hl 3 rfl) ?_
  refine kx_v (vx_runS (As := [.int y9, .int z9]) (rest := []) ⟨hx, hb, hml, hown, hts⟩ (c_X3_requireTerms l hlt G B (μ) y9 z9) (va_cwS 2 hts gX3_most_X3_requireTerms rfl rfl rfl (by decide +kernel) ⟨Nat.le_of_ble_eq_true rfl, Nat.le_of_ble_eq_true rfl⟩) ⟨KX.blind, fun U9 hU9 hW9 => ⟨rfl, KW.pre hBs hKK hS hP U9 hU9 hW9, hDc.at hW9⟩⟩ rfl rfl hl.1 rfl (lv_room (Nat.le_of_ble_eq_true rfl)) dX3_most_6 ⟨(Nat.le_of_ble_eq_true rfl), (Nat.le_of_ble_eq_true rfl)⟩) hS (fun E ce q9 H locs hce hP hS h91 h92 h93 => ?_) (fun m6 H locs hq9 hP hz9 hS => ?_)
  · rw [hQ]
    exact kx_out hout hlocks h91 h92 h93 (Or.inl hce.1) hP hS (Nat.le_of_ble_eq_true rfl) (Nat.le_of_ble_eq_true rfl)
  obtain ⟨he9, hk6⟩ := hq9
  rw [he9] at hP
  obtain ⟨hp1, hp2, hp3⟩ := hk6
  obtain ⟨ny9, hny9, eny9⟩ := ok_nat (n := 12) (by decide) hp1
  subst eny9
  obtain ⟨nz9, hnz9, enz9⟩ := ok_nat (n := 12) (by decide) hp2
  subst enz9
  refine lv_aload_n hx hb dX3_most_9 rfl (lv_at hl 0 rfl) ?_
  refine lv_iload_n hx hb dX3_most_10 rfl (lv_at hl 1 rfl) ?_
  refine kx_v (vx_runV (As := [.int (nI j1)]) (rest := []) ⟨hx, hb, hml, hown, hts⟩ (g_X3_requirePlace l hlt G B μ d aS aL aR aT aO k sc sa na la bE F fS fL fR fT sp fO j1 hD (by omega)) (cwV 1 hts gX3_most_X3_requirePlace rfl rfl rfl (by decide +kernel) ⟨Nat.le_of_ble_eq_true rfl, Nat.le_of_ble_eq_true rfl⟩) ⟨KX.blind, hP.recv hK rfl (hD.1), fun U9 hU9 hW9 => ⟨rfl, KW.pre hBs hKK hS hP U9 hU9 hW9, hDc.at hW9⟩⟩ rfl rfl hl.1 rfl (lv_room (Nat.le_of_ble_eq_true rfl)) dX3_most_11 ⟨(Nat.le_of_ble_eq_true rfl), (Nat.le_of_ble_eq_true rfl)⟩) hS (fun E ce q9 H locs hce hP hS h91 h92 h93 => ?_) (fun m11 H locs hq9 hP hz9 hS => ?_)
  · rw [hQ]
    exact kx_out hout hlocks h91 h92 h93 (Or.inr hce) hP hS (Nat.le_of_ble_eq_true rfl) (Nat.le_of_ble_eq_true rfl)
  rw [hq9] at hP
  refine lv_aload_n hx hb dX3_most_14 rfl (lv_at hl 0 rfl) ?_
  refine mw_get (C := RX3) (T := TX3) (N := 7) hx hb hts in_X3_most_X3 hown hK hP (hD.1) rfl 0 (by decide) (hts (.fieldLink RX3 13 "OctagonDesk" "slots" "[LOctagonDesk$Shape;") (by decide +kernel)) (fun _ h9 => h9) rfl dX3_most_15 ?_
  refine lv_iload_n hx hb dX3_most_18 rfl (lv_at hl 1 rfl) ?_
  refine mw_aldq hx hb hK hP 3 (hD.2.1.1) rfl (by omega) (by omega) (hD.2.1.2.2.2.2.1 j1 (by omega)) dX3_most_19 ?_
  refine lv_iload_n hx hb dX3_most_20 rfl (lv_at hl 2 rfl) ?_
  refine lv_iload_n hx hb dX3_most_21 rfl (lv_at hl 3 rfl) ?_
  refine kc_l (va_runV (As := [.int (nI ny9), .int (nI nz9)]) (rest := []) ⟨hx, hb, hml, hown, hts⟩ (c_X1_mostOf l G B (μ) (sa j1) (na j1) (la j1) k (bE j1) (F j1) ny9 nz9 ((hD.2.2.2.2.1.1 j1 (by omega)).1.1) ((hD.2.2.2.2.1.1 j1 (by omega)).1.2.1) ((hD.2.2.2.2.1.1 j1 (by omega)).1.2.2) (by omega) (by omega) (by omega)) (cwV 2 hts gX3_most_X1_mostOf rfl rfl rfl (by decide +kernel) ⟨Nat.le_of_ble_eq_true rfl, Nat.le_of_ble_eq_true rfl⟩) ⟨KW.blind, hP.recv hK rfl ((hD.2.2.2.2.1.1 j1 (by omega)).1.1), fun U9 hU9 hW9 => ⟨rfl, KW.pre hBs hKK hS hP U9 hU9 hW9⟩⟩ rfl rfl hl.1 rfl (lv_room (Nat.le_of_ble_eq_true rfl)) dX3_most_22 ⟨(Nat.le_of_ble_eq_true rfl), (Nat.le_of_ble_eq_true rfl)⟩) hS (fun r22 m22 H locs hq9 hP hz9 hS => ?_)
  obtain ⟨g22, rfl, hg22⟩ := hq9
  have hP : mw G.1 vwCl B (mu μ (la j1) (.inl (G.2 0, 158 * k + 158, .inr (.inl g22)))) _ := hP
  rw [hQ]
  refine vx_ret ?_
  refine W.widen (k := 5) (n := 30) (by omega) (by omega) ?_
  have hDx25 : DK G (mu μ (la j1) (.inl (G.2 0, 158 * k + 158, .inr (.inl g22)))) d aS aL aR aT aO k sc sa na la bE (va_up F j1 g22) fS fL fR fT sp fO := hD.la (by omega)
  have hRx25 : DQ μ (mu μ (la j1) (.inl (G.2 0, 158 * k + 158, .inr (.inl g22)))) d aO sa na la la := DQ.la (by omega)
  obtain ⟨μ25, em25⟩ : ∃ x9 : mp, x9 = mu μ (la j1) (.inl (G.2 0, 158 * k + 158, .inr (.inl g22))) := ⟨_, rfl⟩
  rw [← em25] at hP hDx25 hRx25
  exact W.lret (v := r22) hx hb hr (fun t99 ht99 hW99 => ⟨⟨r22, μ25, rfl, (DG.fin hA hSV hD hDx25 hRx25 hkw), by show mw _ _ _ _ t99.heap; rw [ht99]; exact hP⟩, hS.F ht99⟩) hS.2.2 dX3_most_25

abbrev rg_X3_first (k : Nat) : Room := { frames := 7, cells := 5 + 23 * (511 - k), slots := 30 + 7268 * (511 - k), locals := 146 }
set_option maxHeartbeats 4000000 in
set_option maxRecDepth 100000 in
theorem g_X3_first (l : Launch) (hlt : l.stackTraces = false) (G : GG) (B : Nat) (μ : mp) (N9 T9 : Nat) (d k sc : Nat) (D : Nat → Prop) (x9 y9 : Int32) (hG : DG G μ d k sc D) : vx_Met l yX3_first wsX3_first (rg_X3_first k) (va_Pc [.ref d, .int x9, .int y9] (KXN G B N9 T9 μ)) (va_Ql (fun r9 (u9 : mp × Nat) => (fun r μ2 k2 => (DG G μ2 d k2 sc (DN2 D μ) ∧ FD D μ μ2) ∧ k ≤ k2) r9 u9.1 u9.2) (BG G B N9 T9 k 5 30) (fun q => B ≤ q)) (XN G B N9 T9 5 30 μ (fun E => E = exA ∨ E = exS)) (5 + 23 * (511 - k)) (30 + 7268 * (511 - k)) (fun q => B ≤ q) := by
  obtain ⟨aS, aL, aR, aT, aO, sa, na, la, bE, F, fS, fL, fR, fT, sp, fO, hD, hSV, hkw, hA⟩ := hG
  refine vx_ofW (cc := cX3_first) (maxL := 4) (ret := (some .long)) (by decide) rfl ?_
  intro p e s m args below meth c s₁ B9 hml hout hv
  obtain ⟨hargs, ⟨⟨hBs, hP, hKK⟩, hDc⟩, hN9, hT9⟩ := hv
  have hx := B9.exec
  have hb := B9.bytes
  have hr := B9.returns
  have hts := atoms_spec (ws := wsX3_first) B9.pre
  have hown : s.vm.findClass RX3 = some m.cls := findClass_of_methodNamed B9.named
  have hlocks := B9.notSynchronized
  have hK := hKK.k
  have hS : va_S (fun q => B ≤ q) s.heap s.heap [] := va_S.rf
  obtain ⟨Q, hQ⟩ : ∃ Q, Q = vx_MQ below (va_Ql (fun r9 (u9 : mp × Nat) => (fun r μ2 k2 => (DG G μ2 d k2 sc (DN2 D μ) ∧ FD D μ μ2) ∧ k ≤ k2) r9 u9.1 u9.2) (BG G B N9 T9 k 5 30) (fun q => B ≤ q)) (XN G B N9 T9 5 30 μ (fun E => E = exA ∨ E = exS)) args s (5 + 23 * (511 - k)) (30 + 7268 * (511 - k)) (fun q => B ≤ q) := ⟨_, rfl⟩
  rw [← hQ]
  have in_X3_first_X3 : ∀ w ∈ wsX30, w ∈ wsX3_first := by decide +kernel
  have hk5 := hkw.le
  have L28 : ∀ (N28 : Nat) (v1 : Nat) (j0 : Nat) (i0 : Nat) (μ1 : mp) (la1 : Nat → Nat) (bE1 : Nat → Nat) (k1 : Nat) (F1 : Nat → Nat → Int64) (hN28 : i0 + 1 - v1 < N28) (hv1 : v1 ≤ i0 + 1) (hi0 : i0 < 6) (hD1 : DK G μ1 d aS aL aR aT aO k1 sc sa na la1 bE1 F1 fS fL fR fT sp fO) (hR1 : DQ μ μ1 d aO sa na la la1) (hkw1 : kw k1) (hkk1 : k ≤ k1), ∀ (H : Heap) (locs : List Loc), mw G.1 vwCl B (μ1) H → va_S (fun q => B ≤ q) s.heap H locs → ∀ ls : Array Slot, lv_has ls 4 [(0, .ref d), (1, .int (nI j0)), (2, .int (nI i0)), (3, .int (nI v1))] → W p l e (rg_X3_first k) s m args below meth c H locs (3 + 23 * (k1 - k)) (18 + 7268 * (k1 - k)) Q (F0 m 28 ls []) := by
    intro N28
    induction N28 with
    | zero => intro v1 j0 i0 μ1 la1 bE1 k1 F1 hN28; exact absurd hN28 (Nat.not_lt_zero _)
    | succ N28 ih28 =>
      intro v1 j0 i0 μ1 la1 bE1 k1 F1 hN28 hv1 hi0 hD1 hR1 hkw1 hkk1 H locs hP hS ls hl
      have hk51 := hkw1.le
      have hb22_28 := hD1.b 22 (by omega)
      refine lv_iload_n hx hb dX3_first_28 rfl (lv_at hl 3 rfl) ?_
      refine lv_iload_n hx hb dX3_first_29 rfl (lv_at hl 2 rfl) ?_
      refine nv_icmp_gt (tgt := 55) hx hb (by omega) (by omega) dX3_first_30 (by decide) (fun hc30 => ?_) (fun hc30 => ?_)
      · refine lv_aload_n hx hb dX3_first_55 rfl (lv_at hl 0 rfl) ?_
        refine mw_get (C := RX3) (T := TX3) (N := 7) hx hb hts in_X3_first_X3 hown hK hP (hD1.1) rfl 1 (by decide) (hts (.fieldLink RX3 29 "OctagonDesk" "made" "LOctagonDesk$Shape;") (by decide +kernel)) (fun _ h9 => h9) rfl dX3_first_56 ?_
        refine lv_iconst (v := nI 2) hx hb dX3_first_59 (by decide) ?_
        refine lv_iload_n hx hb dX3_first_60 rfl (lv_at hl 2 rfl) ?_
        refine nv_imul hx hb dX3_first_61 ?_
        refine lv_iconst (v := nI 2) hx hb dX3_first_62 (by decide) ?_
        refine lv_iload_n hx hb dX3_first_63 rfl (lv_at hl 2 rfl) ?_
        refine nv_imul hx hb dX3_first_64 ?_
        refine kc_l (va_runV (As := [.int (nI (2 * i0)), .int (nI (2 * i0))]) (rest := []) ⟨hx, hb, hml, hown, hts⟩ (c_X1_mostOf l G B (μ1) (sa 22) (na 22) (la1 22) k1 (bE1 22) (F1 22) (2 * i0) (2 * i0) ((hD1.2.2.2.2.1.1 22 (by omega)).1.1) ((hD1.2.2.2.2.1.1 22 (by omega)).1.2.1) ((hD1.2.2.2.2.1.1 22 (by omega)).1.2.2) (by omega) (by omega) (by omega)) (cwV 2 hts gX3_first_X1_mostOf rfl rfl rfl (by decide +kernel) ⟨Nat.le_of_ble_eq_true rfl, Nat.le_of_ble_eq_true rfl⟩) ⟨KW.blind, hP.recv hK rfl ((hD1.2.2.2.2.1.1 22 (by omega)).1.1), fun U9 hU9 hW9 => ⟨rfl, KW.pre hBs hKK hS hP U9 hU9 hW9⟩⟩ rfl rfl hl.1 rfl (lv_room (Nat.le_of_ble_eq_true rfl)) dX3_first_65 ⟨(Nat.le_trans (m := 5 + 23 * (511 - k)) (by omega) (Nat.le_refl _)), (Nat.le_trans (m := 30 + 7268 * (511 - k)) (by omega) (Nat.le_refl _))⟩) hS (fun r65 m65 H locs hq9 hP hz9 hS => ?_)
        obtain ⟨g65, rfl, hg65⟩ := hq9
        have hP : mw G.1 vwCl B (mu μ1 (la1 22) (.inl (G.2 0, 158 * k1 + 158, .inr (.inl g65)))) _ := hP
        refine Wknow (fun hw1 hw2 => ?_)
        rw [hQ]
        refine vx_ret ?_
        refine W.widen (k := 5 + 23 * (511 - k)) (n := 30 + 7268 * (511 - k)) (by omega) (by omega) ?_
        have hDx68 : DK G (mu μ1 (la1 22) (.inl (G.2 0, 158 * k1 + 158, .inr (.inl g65)))) d aS aL aR aT aO k1 sc sa na la1 bE1 (va_up F1 22 g65) fS fL fR fT sp fO := hD1.la (by omega)
        have hRx68 : DQ μ (mu μ1 (la1 22) (.inl (G.2 0, 158 * k1 + 158, .inr (.inl g65)))) d aO sa na la la1 := hR1.tr (DQ.la (by omega))
        obtain ⟨μ68, em68⟩ : ∃ x9 : mp, x9 = mu μ1 (la1 22) (.inl (G.2 0, 158 * k1 + 158, .inr (.inl g65))) := ⟨_, rfl⟩
        rw [← em68] at hP hDx68 hRx68
        exact W.lret (v := r65) hx hb hr (fun t99 ht99 hW99 => ⟨⟨r65, (μ68, k1), rfl, (⟨DG.fin hA hSV hD hDx68 hRx68 hkw1, by omega⟩), by show mw _ _ _ _ t99.heap; rw [ht99]; exact hP, by show t99.heap.size ≤ N9 + (5 + 23 * (k1 - k)); rw [ht99]; omega, by show tot t99.heap ≤ T9 + (30 + 7268 * (k1 - k)); rw [ht99]; omega⟩, hS.F ht99⟩) hS.2.2 dX3_first_68
      · refine lv_aload_n hx hb dX3_first_33 rfl (lv_at hl 0 rfl) ?_
        refine mw_get (C := RX3) (T := TX3) (N := 7) hx hb hts in_X3_first_X3 hown hK hP (hD1.1) rfl 1 (by decide) (hts (.fieldLink RX3 29 "OctagonDesk" "made" "LOctagonDesk$Shape;") (by decide +kernel)) (fun _ h9 => h9) rfl dX3_first_34 ?_
        refine lv_iload_n hx hb dX3_first_37 rfl (lv_at hl 3 rfl) ?_
        refine kc_v (va_runV (As := [.int (nI v1)]) (rest := []) ⟨hx, hb, hml, hown, hts⟩ (c_X1_settle l G B (μ1) (sa 22) (na 22) (la1 22) k1 (bE1 22) (F1 22) v1 ((hD1.2.2.2.2.1.1 22 (by omega)).1.1) ((hD1.2.2.2.2.1.1 22 (by omega)).1.2.1) ((hD1.2.2.2.2.1.1 22 (by omega)).1.2.2) (by omega) (by omega) (by omega)) (cwV 1 hts gX3_first_X1_settle rfl rfl rfl (by decide +kernel) ⟨Nat.le_of_ble_eq_true rfl, Nat.le_of_ble_eq_true rfl⟩) ⟨KW.blind, hP.recv hK rfl ((hD1.2.2.2.2.1.1 22 (by omega)).1.1), fun U9 hU9 hW9 => ⟨rfl, KW.pre hBs hKK hS hP U9 hU9 hW9⟩⟩ rfl rfl hl.1 rfl (lv_room (Nat.le_of_ble_eq_true rfl)) dX3_first_38 ⟨(Nat.le_trans (m := 5 + 23 * (511 - k)) (by omega) (Nat.le_refl _)), (Nat.le_trans (m := 30 + 7268 * (511 - k)) (by omega) (Nat.le_refl _))⟩) hS (fun m38 H locs hq9 hP hz9 hS => ?_)
        obtain ⟨g38, b38, rfl, hb38, hg38⟩ := hq9
        have hP : mw G.1 vwCl B (mu (mu μ1 (sa 22) (.inr (1, [.ref (na 22), .int (nI b38)]))) (la1 22) (.inl (G.2 0, 158 * k1 + 158, .inr (.inl g38)))) _ := mw_eq (congrArg (fun z => mu z (la1 22) (.inl (G.2 0, 158 * k1 + 158, .inr (.inl g38)))) (rfl)) hP
        refine lv_aload_n hx hb dX3_first_41 rfl (lv_at hl 0 rfl) ?_
        refine lv_aload_n hx hb dX3_first_42 rfl (lv_at hl 0 rfl) ?_
        refine mw_get (C := RX3) (T := TX3) (N := 7) hx hb hts in_X3_first_X3 hown hK hP ((mu_n ((mp_ne hD1.1 ((hD1.2.2.2.2.1.1 22 (by omega)).1.2.2) (by simp)))).trans ((mu_n ((mp_ne hD1.1 ((hD1.2.2.2.2.1.1 22 (by omega)).1.1) (by simp)))).trans (hD1.1))) rfl 1 (by decide) (hts (.fieldLink RX3 29 "OctagonDesk" "made" "LOctagonDesk$Shape;") (by decide +kernel)) (fun _ h9 => h9) rfl dX3_first_43 ?_
        have hDx46 : DK G (mu (mu μ1 (sa 22) (.inr (1, [.ref (na 22), .int (nI b38)]))) (la1 22) (.inl (G.2 0, 158 * k1 + 158, .inr (.inl g38)))) d aS aL aR aT aO k1 sc sa na la1 (va_up bE1 22 b38) (va_up F1 22 g38) fS fL fR fT sp fO := hD1.sh (by omega) (by omega)
        have hRx46 : DQ μ (mu (mu μ1 (sa 22) (.inr (1, [.ref (na 22), .int (nI b38)]))) (la1 22) (.inl (G.2 0, 158 * k1 + 158, .inr (.inl g38)))) d aO sa na la la1 := hR1.tr (DQ.sh (by omega))
        obtain ⟨μ46, em46⟩ : ∃ x9 : mp, x9 = mu (mu μ1 (sa 22) (.inr (1, [.ref (na 22), .int (nI b38)]))) (la1 22) (.inl (G.2 0, 158 * k1 + 158, .inr (.inl g38))) := ⟨_, rfl⟩
        rw [← em46] at hP hDx46 hRx46
        refine kg_v (va_runV (As := [.ref (sa 22)]) (rest := []) ⟨hx, hb, hml, hown, hts⟩ (c_X3_makeRoomk l G B μ46 _ _ d aS aL aR aT aO k1 sc sa na la1 (va_up bE1 22 b38) (va_up F1 22 g38) fS fL fR fT sp fO 22 hDx46 (by omega) hkw1) (cwV 1 hts gX3_first_X3_makeRoom rfl rfl rfl (by decide +kernel) ⟨Nat.le_of_ble_eq_true rfl, Nat.le_of_ble_eq_true rfl⟩) ⟨KN.blind, hP.recv hK rfl (hDx46.1), fun U9 hU9 hW9 => ⟨rfl, KW.pre hBs hKK hS hP U9 hU9 hW9, by rw [hU9], by rw [hU9]⟩⟩ rfl rfl hl.1 rfl (lv_room (Nat.le_of_ble_eq_true rfl)) dX3_first_46 ⟨(Nat.le_trans (m := 5 + 23 * (511 - k)) (by omega) (Nat.le_refl _)), (Nat.le_trans (m := 30 + 7268 * (511 - k)) (by omega) (Nat.le_refl _))⟩) hS (fun m46 k46 H locs hq9 hP hz9 hS => ?_)
        obtain ⟨la46, F46, hD46, hR46, hkq46, hkw46⟩ := hq9
        have hk5_46 := hkw46.le
        have hkq_46 : k1 ≤ k46 := by omega
        have hR46 := hRx46.tr hR46
        refine lv_iinc (v := nI (v1 + 1)) (lv' := [(3, .int (nI (v1 + 1))), (0, .ref d), (1, .int (nI j0)), (2, .int (nI i0))]) hx hb dX3_first_49 hl (k := 3) rfl (nI_add _ _) (by decide) rfl (fun ls hl => ?_)
        refine lv_goto (tgt := 28) hx hb dX3_first_52 (by decide) ?_
        refine W.widen (k := 3 + 23 * (k46 - k)) (n := 18 + 7268 * (k46 - k)) (by omega) (by omega) ?_
        exact ih28 (v1 + 1) j0 i0 m46 la46 (va_up bE1 22 b38) k46 F46 (by omega) (by omega) (by omega) (hD46) (hR46) (hkw46) (by omega) _ _ hP hS ls (lv_sub hl [1, 2, 3, 0] rfl)
  have hl := lv_entry ([.ref d, .int x9, .int y9]) (n := 4) (Nat.le_of_ble_eq_true rfl)
  have he9 : entryFrame m args 4 = entryFrame m ([.ref d, .int x9, .int y9] : List Value).toArray 4 := by rw [hargs]
  rw [he9, lg_entry_eq]
  generalize (lg_sl ([.ref d, .int x9, .int y9]) ++ List.replicate (4 - (lg_sl ([.ref d, .int x9, .int y9])).length) Slot.unset).toArray = ls at hl ⊢
  have hl : lv_has ls 4 [(0, .ref d), (1, .int x9), (2, .int y9)] := hl
  refine lv_iload_n hx hb dX3_first_0 rfl (lv_at hl 1 rfl) ?_
  refine kx_v (vx_runS (As := [.int x9]) (rest := []) ⟨hx, hb, hml, hown, hts⟩ (c_X3_requireSlot l hlt G B (μ) x9) (va_cwS 1 hts gX3_first_X3_requireSlot rfl rfl rfl (by decide +kernel) ⟨Nat.le_of_ble_eq_true rfl, Nat.le_of_ble_eq_true rfl⟩) ⟨KX.blind, fun U9 hU9 hW9 => ⟨rfl, KW.pre hBs hKK hS hP U9 hU9 hW9, hDc.at hW9⟩⟩ rfl rfl hl.1 rfl (lv_room (Nat.le_of_ble_eq_true rfl)) dX3_first_1 ⟨(Nat.le_trans (m := 5 + 23 * (511 - k)) (by omega) (Nat.le_refl _)), (Nat.le_trans (m := 30 + 7268 * (511 - k)) (by omega) (Nat.le_refl _))⟩) hS (fun E ce q9 H locs hce hP hS h91 h92 h93 => ?_) (fun m1 H locs hq9 hP hz9 hS => ?_)
  · rw [hQ]
    exact kx_outN hN9 hT9 hout hlocks h91 h92 h93 (Or.inl hce.1) hP hS (by omega) (by omega) (Nat.le_trans (m := 5 + 23 * (511 - k)) (by omega) (Nat.le_refl _)) (Nat.le_trans (m := 30 + 7268 * (511 - k)) (by omega) (Nat.le_refl _))
  obtain ⟨he9, hk1⟩ := hq9
  rw [he9] at hP
  have hx1 := hk1
  obtain ⟨j1, hj1, ej1⟩ := ok_nat (by decide) hk1
  subst ej1
  refine lv_iload_n hx hb dX3_first_4 rfl (lv_at hl 2 rfl) ?_
  refine kx_v (vx_runS (As := [.int y9]) (rest := []) ⟨hx, hb, hml, hown, hts⟩ (c_X3_requireVariable l hlt G B (μ) y9) (va_cwS 1 hts gX3_first_X3_requireVariable rfl rfl rfl (by decide +kernel) ⟨Nat.le_of_ble_eq_true rfl, Nat.le_of_ble_eq_true rfl⟩) ⟨KX.blind, fun U9 hU9 hW9 => ⟨rfl, KW.pre hBs hKK hS hP U9 hU9 hW9, hDc.at hW9⟩⟩ rfl rfl hl.1 rfl (lv_room (Nat.le_of_ble_eq_true rfl)) dX3_first_5 ⟨(Nat.le_trans (m := 5 + 23 * (511 - k)) (by omega) (Nat.le_refl _)), (Nat.le_trans (m := 30 + 7268 * (511 - k)) (by omega) (Nat.le_refl _))⟩) hS (fun E ce q9 H locs hce hP hS h91 h92 h93 => ?_) (fun m5 H locs hq9 hP hz9 hS => ?_)
  · rw [hQ]
    exact kx_outN hN9 hT9 hout hlocks h91 h92 h93 (Or.inl hce.1) hP hS (by omega) (by omega) (Nat.le_trans (m := 5 + 23 * (511 - k)) (by omega) (Nat.le_refl _)) (Nat.le_trans (m := 30 + 7268 * (511 - k)) (by omega) (Nat.le_refl _))
  obtain ⟨he9, hk5⟩ := hq9
  rw [he9] at hP
  have hx5 := hk5
  obtain ⟨j5, hj5, ej5⟩ := ok_nat (by decide) hk5
  subst ej5
  refine lv_aload_n hx hb dX3_first_8 rfl (lv_at hl 0 rfl) ?_
  refine lv_iload_n hx hb dX3_first_9 rfl (lv_at hl 1 rfl) ?_
  refine kx_v (vx_runV (As := [.int (nI j1)]) (rest := []) ⟨hx, hb, hml, hown, hts⟩ (g_X3_requirePlace l hlt G B μ d aS aL aR aT aO k sc sa na la bE F fS fL fR fT sp fO j1 hD (by omega)) (cwV 1 hts gX3_first_X3_requirePlace rfl rfl rfl (by decide +kernel) ⟨Nat.le_of_ble_eq_true rfl, Nat.le_of_ble_eq_true rfl⟩) ⟨KX.blind, hP.recv hK rfl (hD.1), fun U9 hU9 hW9 => ⟨rfl, KW.pre hBs hKK hS hP U9 hU9 hW9, hDc.at hW9⟩⟩ rfl rfl hl.1 rfl (lv_room (Nat.le_of_ble_eq_true rfl)) dX3_first_10 ⟨(Nat.le_trans (m := 5 + 23 * (511 - k)) (by omega) (Nat.le_refl _)), (Nat.le_trans (m := 30 + 7268 * (511 - k)) (by omega) (Nat.le_refl _))⟩) hS (fun E ce q9 H locs hce hP hS h91 h92 h93 => ?_) (fun m10 H locs hq9 hP hz9 hS => ?_)
  · rw [hQ]
    exact kx_outN hN9 hT9 hout hlocks h91 h92 h93 (Or.inr hce) hP hS (by omega) (by omega) (Nat.le_trans (m := 5 + 23 * (511 - k)) (by omega) (Nat.le_refl _)) (Nat.le_trans (m := 30 + 7268 * (511 - k)) (by omega) (Nat.le_refl _))
  rw [hq9] at hP
  have hbj1_13 := hD.b j1 (by omega)
  have hb22_13 := hD.b 22 (by omega)
  refine lv_aload_n hx hb dX3_first_13 rfl (lv_at hl 0 rfl) ?_
  refine mw_get (C := RX3) (T := TX3) (N := 7) hx hb hts in_X3_first_X3 hown hK hP (hD.1) rfl 1 (by decide) (hts (.fieldLink RX3 29 "OctagonDesk" "made" "LOctagonDesk$Shape;") (by decide +kernel)) (fun _ h9 => h9) rfl dX3_first_14 ?_
  refine lv_aload_n hx hb dX3_first_17 rfl (lv_at hl 0 rfl) ?_
  refine mw_get (C := RX3) (T := TX3) (N := 7) hx hb hts in_X3_first_X3 hown hK hP (hD.1) rfl 0 (by decide) (hts (.fieldLink RX3 13 "OctagonDesk" "slots" "[LOctagonDesk$Shape;") (by decide +kernel)) (fun _ h9 => h9) rfl dX3_first_18 ?_
  refine lv_iload_n hx hb dX3_first_21 rfl (lv_at hl 1 rfl) ?_
  refine mw_aldq hx hb hK hP 3 (hD.2.1.1) rfl (by omega) (by omega) (hD.2.1.2.2.2.2.1 j1 (by omega)) dX3_first_22 ?_
  refine kc_v (va_runV (As := [.ref (sa j1)]) (rest := []) ⟨hx, hb, hml, hown, hts⟩ (c_X1_takeOver l G B (μ) (sa 22) (na 22) (la 22) k (bE 22) (F 22) (sa j1) (na j1) (la j1) (bE j1) (F j1)  ((hD.2.2.2.2.1.1 22 (by omega)).1.1) ((hD.2.2.2.2.1.1 22 (by omega)).1.2.1) ((hD.2.2.2.2.1.1 22 (by omega)).1.2.2) ((hD.2.2.2.2.1.1 j1 (by omega)).1.1) ((hD.2.2.2.2.1.1 j1 (by omega)).1.2.1) ((hD.2.2.2.2.1.1 j1 (by omega)).1.2.2) (by omega) (by omega)) (cwV 1 hts gX3_first_X1_takeOver rfl rfl rfl (by decide +kernel) ⟨Nat.le_of_ble_eq_true rfl, Nat.le_of_ble_eq_true rfl⟩) ⟨KW.blind, hP.recv hK rfl ((hD.2.2.2.2.1.1 22 (by omega)).1.1), fun U9 hU9 hW9 => ⟨rfl, KW.pre hBs hKK hS hP U9 hU9 hW9⟩⟩ rfl rfl hl.1 rfl (lv_room (Nat.le_of_ble_eq_true rfl)) dX3_first_23 ⟨(Nat.le_trans (m := 5 + 23 * (511 - k)) (by omega) (Nat.le_refl _)), (Nat.le_trans (m := 30 + 7268 * (511 - k)) (by omega) (Nat.le_refl _))⟩) hS (fun m23 H locs hq9 hP hz9 hS => ?_)
  obtain ⟨g23, rfl, hg23⟩ := hq9
  have hP : mw G.1 vwCl B (mu (mu μ (la 22) (.inl (G.2 0, 158 * k + 158, .inr (.inl g23)))) (sa 22) (.inr (1, [.ref (na 22), .int (nI (bE j1))]))) _ := mw_eq (congrArg (fun z => mu z (sa 22) (.inr (1, [.ref (na 22), .int (nI (bE j1))]))) (rfl)) hP
  refine lv_iconst (v := nI 0) hx hb dX3_first_26 (by decide) ?_
  refine lv_istore_n (lv' := [(3, .int (nI 0)), (0, .ref d), (1, .int (nI j1)), (2, .int (nI j5))]) hx hb dX3_first_27 rfl hl (by decide) rfl (fun ls hl => ?_)
  have hDx28 : DK G (mu (mu μ (la 22) (.inl (G.2 0, 158 * k + 158, .inr (.inl g23)))) (sa 22) (.inr (1, [.ref (na 22), .int (nI (bE j1))]))) d aS aL aR aT aO k sc sa na la (va_up bE 22 (bE j1)) (va_up F 22 g23) fS fL fR fT sp fO := hD.sh2 (by omega) (by omega)
  have hRx28 : DQ μ (mu (mu μ (la 22) (.inl (G.2 0, 158 * k + 158, .inr (.inl g23)))) (sa 22) (.inr (1, [.ref (na 22), .int (nI (bE j1))]))) d aO sa na la la := DQ.sh2 (by omega)
  obtain ⟨μ28, em28⟩ : ∃ x9 : mp, x9 = mu (mu μ (la 22) (.inl (G.2 0, 158 * k + 158, .inr (.inl g23)))) (sa 22) (.inr (1, [.ref (na 22), .int (nI (bE j1))])) := ⟨_, rfl⟩
  rw [← em28] at hP hDx28 hRx28
  refine W.widen (k := 3 + 23 * (k - k)) (n := 18 + 7268 * (k - k)) (by omega) (by omega) ?_
  exact L28 _ 0 j1 j5 μ28 la (va_up bE 22 (bE j1)) k (va_up F 22 g23) (Nat.lt_succ_self _) (by omega) (by omega) (hDx28) (hRx28) (hkw) (by omega) _ _ hP hS ls (lv_sub hl [1, 2, 3, 0] rfl)

abbrev rg_X3_step : Room := { frames := 9, cells := 5, slots := 30, locals := 164 }
set_option maxHeartbeats 4000000 in
set_option maxRecDepth 100000 in
theorem g_X3_step (l : Launch) (hlt : l.stackTraces = false) (G : GG) (B : Nat) (μ : mp) (d k sc : Nat) (D : Nat → Prop) (x9 k9 a9 b9 c9 : Int32) (hG : DG G μ d k sc D) : vx_Met l yX3_step wsX3_step rg_X3_step (va_Pc [.ref d, .int x9, .int k9, .int a9, .int b9, .int c9] (KX G B μ)) (va_Qi (fun r μ2 => (okW x9 ∧ okA k9 a9 b9 c9) ∧ sc < 20 ∧ r = nI sc ∧ (DG G μ2 d k (sc + 1) (DN2 D μ) ∧ FD D μ μ2)) (BB G B) (fun q => B ≤ q)) (XX G B μ (fun E => (E = exA ∧ ¬ (okW x9 ∧ okA k9 a9 b9 c9)) ∨ (E = exS ∧ (okW x9 ∧ okA k9 a9 b9 c9) ∧ sc = 20))) 5 30 (fun q => B ≤ q) := by
  obtain ⟨aS, aL, aR, aT, aO, sa, na, la, bE, F, fS, fL, fR, fT, sp, fO, hD, hSV, hkw, hA⟩ := hG
  refine vx_ofW (cc := cX3_step) (maxL := 6) (ret := (some .int)) (by decide) rfl ?_
  intro p e s m args below meth c s₁ B9 hml hout hv
  obtain ⟨hargs, ⟨hBs, hP, hKK⟩, hDc⟩ := hv
  have hx := B9.exec
  have hb := B9.bytes
  have hr := B9.returns
  have hts := atoms_spec (ws := wsX3_step) B9.pre
  have hown : s.vm.findClass RX3 = some m.cls := findClass_of_methodNamed B9.named
  have hlocks := B9.notSynchronized
  have hK := hKK.k
  have hS : va_S (fun q => B ≤ q) s.heap s.heap [] := va_S.rf
  obtain ⟨Q, hQ⟩ : ∃ Q, Q = vx_MQ below (va_Qi (fun r μ2 => (okW x9 ∧ okA k9 a9 b9 c9) ∧ sc < 20 ∧ r = nI sc ∧ (DG G μ2 d k (sc + 1) (DN2 D μ) ∧ FD D μ μ2)) (BB G B) (fun q => B ≤ q)) (XX G B μ (fun E => (E = exA ∧ ¬ (okW x9 ∧ okA k9 a9 b9 c9)) ∨ (E = exS ∧ (okW x9 ∧ okA k9 a9 b9 c9) ∧ sc = 20))) args s 5 30 (fun q => B ≤ q) := ⟨_, rfl⟩
  rw [← hQ]
  have in_X3_step_X3 : ∀ w ∈ wsX30, w ∈ wsX3_step := by decide +kernel
  have hk5 := hkw.le
  have hl := lv_entry ([.ref d, .int x9, .int k9, .int a9, .int b9, .int c9]) (n := 6) (Nat.le_of_ble_eq_true rfl)
  have he9 : entryFrame m args 6 = entryFrame m ([.ref d, .int x9, .int k9, .int a9, .int b9, .int c9] : List Value).toArray 6 := by rw [hargs]
  rw [he9, lg_entry_eq]
  generalize (lg_sl ([.ref d, .int x9, .int k9, .int a9, .int b9, .int c9]) ++ List.replicate (6 - (lg_sl ([.ref d, .int x9, .int k9, .int a9, .int b9, .int c9])).length) Slot.unset).toArray = ls at hl ⊢
  have hl : lv_has ls 6 [(0, .ref d), (1, .int x9), (2, .int k9), (3, .int a9), (4, .int b9), (5, .int c9)] := hl
  refine lv_iload_n hx hb dX3_step_0 rfl (lv_at hl 1 rfl) ?_
  refine lv_if_lt (tgt := 10) hx hb dX3_step_1 (by decide) (fun hc1 => ?_) (fun hc1 => ?_)
  · rw [hQ]
    exact kx_throw (is := 128) hx hb hlt hown (by decide +kernel) (hts (.classLink RX3 126 exA) (by decide +kernel)) (hts (.initialized exA) (by decide +kernel)) (List.mem_of_getElem? (i := 0) rfl) hKK.2.2.2.2.1.1 hDc (fun w9 h9 => hts w9 (List.mem_cons_of_mem _ (List.mem_append_left _ (List.mem_append_right _ h9)))) (by decide +kernel) (by decide +kernel) hKK hP hS (hl.1.trans hml.symm) dX3_step_10 dX3_step_13 dX3_step_14 dX3_step_16 dX3_step_19 hout (Nat.le_of_ble_eq_true rfl) (Nat.le_of_ble_eq_true rfl) (Nat.le_of_ble_eq_true rfl) (Nat.le_of_ble_eq_true rfl) (Nat.le_of_ble_eq_true rfl) hlocks (Or.inl ⟨rfl, fun h9 => by first | exact h9.1.1 hc1 | exact hc7 h9.1.2⟩) (Nat.le_of_ble_eq_true rfl) (Nat.le_of_ble_eq_true rfl)
  · refine lv_iload_n hx hb dX3_step_4 rfl (lv_at hl 1 rfl) ?_
    refine lv_bipush (v := nI 64) hx hb dX3_step_5 (by decide) ?_
    refine lv_icmp_lt (tgt := 20) hx hb dX3_step_7 (by decide) (fun hc7 => ?_) (fun hc7 => ?_)
    · have hw9 : okW x9 := ⟨hc1, hc7⟩
      obtain ⟨nx9, hnx9, enx9⟩ := ok_nat (n := 64) (by decide) hw9
      subst enx9
      have hw9 : okW (nI nx9) := ⟨hc1, hc7⟩
      have hsc := hD.2.2.2.2.2
      refine lv_iload_n hx hb dX3_step_20 rfl (lv_at hl 2 rfl) ?_
      refine lv_iload_n hx hb dX3_step_21 rfl (lv_at hl 3 rfl) ?_
      refine lv_iload hx hb dX3_step_22 (lv_at hl 4 rfl) ?_
      refine lv_iload hx hb dX3_step_24 (lv_at hl 5 rfl) ?_
      refine kx_v (vx_runS (As := [.int k9, .int a9, .int b9, .int c9]) (rest := []) ⟨hx, hb, hml, hown, hts⟩ (c_X3_requireAction l hlt G B (μ) k9 a9 b9 c9) (va_cwS 4 hts gX3_step_X3_requireAction rfl rfl rfl (by decide +kernel) ⟨Nat.le_of_ble_eq_true rfl, Nat.le_of_ble_eq_true rfl⟩) ⟨KX.blind, fun U9 hU9 hW9 => ⟨rfl, KW.pre hBs hKK hS hP U9 hU9 hW9, hDc.at hW9⟩⟩ rfl rfl hl.1 rfl (lv_room (Nat.le_of_ble_eq_true rfl)) dX3_step_26 ⟨(Nat.le_of_ble_eq_true rfl), (Nat.le_of_ble_eq_true rfl)⟩) hS (fun E ce q9 H locs hce hP hS h91 h92 h93 => ?_) (fun m26 H locs hq9 hP hz9 hS => ?_)
      · rw [hQ]
        exact kx_out hout hlocks h91 h92 h93 (Or.inl ⟨hce.1, fun h9 => hce.2 h9.2⟩) hP hS (Nat.le_of_ble_eq_true rfl) (Nat.le_of_ble_eq_true rfl)
      obtain ⟨he9, hk26⟩ := hq9
      rw [he9] at hP
      refine lv_aload_n hx hb dX3_step_29 rfl (lv_at hl 0 rfl) ?_
      refine mw_get (C := RX3) (T := TX3) (N := 7) hx hb hts in_X3_step_X3 hown hK hP (hD.1) rfl 4 (by decide) (hts (.fieldLink RX3 37 "OctagonDesk" "stepCount" "I") (by decide +kernel)) (fun _ h9 => h9) rfl dX3_step_30 ?_
      refine lv_bipush (v := nI 20) hx hb dX3_step_33 (by decide) ?_
      refine nv_icmp_lt (tgt := 48) hx hb (by omega) (by omega) dX3_step_35 (by decide) (fun hc35 => ?_) (fun hc35 => ?_)
      · refine lv_aload_n hx hb dX3_step_48 rfl (lv_at hl 0 rfl) ?_
        obtain ⟨hs9, x1, x2, x3, x4, x5, x6, hsp⟩ := hD.2.2.2.1 sc (by omega)
        refine mw_get (C := RX3) (T := TX3) (N := 7) hx hb hts in_X3_step_X3 hown hK hP (hD.1) rfl 2 (by decide) (hts (.fieldLink RX3 43 "OctagonDesk" "steps" "[LOctagonDesk$Step;") (by decide +kernel)) (fun _ h9 => h9) rfl dX3_step_49 ?_
        refine lv_aload_n hx hb dX3_step_52 rfl (lv_at hl 0 rfl) ?_
        refine mw_get (C := RX3) (T := TX3) (N := 7) hx hb hts in_X3_step_X3 hown hK hP (hD.1) rfl 4 (by decide) (hts (.fieldLink RX3 37 "OctagonDesk" "stepCount" "I") (by decide +kernel)) (fun _ h9 => h9) rfl dX3_step_53 ?_
        refine mw_aldq hx hb hK hP 4 (hD.2.2.1) rfl (by omega) (by omega) hs9 dX3_step_56 ?_
        refine lv_iload_n hx hb dX3_step_57 rfl (lv_at hl 1 rfl) ?_
        refine lv_iload_n hx hb dX3_step_58 rfl (lv_at hl 2 rfl) ?_
        refine lv_iload_n hx hb dX3_step_59 rfl (lv_at hl 3 rfl) ?_
        refine lv_iload hx hb dX3_step_60 (lv_at hl 4 rfl) ?_
        refine lv_iload hx hb dX3_step_62 (lv_at hl 5 rfl) ?_
        refine kc_v (va_runV (As := [.int (nI nx9), .int k9, .int a9, .int b9, .int c9]) (rest := []) ⟨hx, hb, hml, hown, hts⟩ (c_X2_write l G B (μ) (sp sc) nx9 x1 x2 x3 x4 x5 x6 k9 a9 b9 c9 (hsp) (by omega)) (cwV 5 hts gX3_step_X2_write rfl rfl rfl (by decide +kernel) ⟨Nat.le_of_ble_eq_true rfl, Nat.le_of_ble_eq_true rfl⟩) ⟨KW.blind, hP.recv hK rfl (hsp), fun U9 hU9 hW9 => ⟨rfl, KW.pre hBs hKK hS hP U9 hU9 hW9⟩⟩ rfl rfl hl.1 rfl (lv_room (Nat.le_of_ble_eq_true rfl)) dX3_step_64 ⟨(Nat.le_of_ble_eq_true rfl), (Nat.le_of_ble_eq_true rfl)⟩) hS (fun m64 H locs hq9 hP hz9 hS => ?_)
        rw [hq9] at hP
        have hP : mw G.1 vwCl B (mu μ (sp sc) (.inr (2, [.int (nI (nx9 / 8)), .int (nI (nx9 % 8)), .int k9, .int a9, .int b9, .int c9]))) _ := hP
        refine lv_aload_n hx hb dX3_step_67 rfl (lv_at hl 0 rfl) ?_
        refine lv_dup hx hb dX3_step_68 rfl ?_
        refine mw_get (C := RX3) (T := TX3) (N := 7) hx hb hts in_X3_step_X3 hown hK hP ((mu_n ((mp_ne hD.1 hsp (by simp)))).trans (hD.1)) rfl 4 (by decide) (hts (.fieldLink RX3 37 "OctagonDesk" "stepCount" "I") (by decide +kernel)) (fun _ h9 => h9) rfl dX3_step_69 ?_
        refine lv_iconst (v := nI 1) hx hb dX3_step_72 (by decide) ?_
        refine nv_iadd hx hb dX3_step_73 ?_
        refine mw_put (ty := .int) (v := .int (nI (sc + 1))) (C := RX3) (T := TX3) (N := 7) hx hb hts in_X3_step_X3 tyX3 tyX3_ok nmX3 hown hK hP hS ((mu_n ((mp_ne hD.1 hsp (by simp)))).trans (hD.1)) rfl 4 (by decide) (hts (.fieldLink RX3 37 "OctagonDesk" "stepCount" "I") (by decide +kernel)) (fun _ h9 => h9) rfl (by decide +kernel) (by first | rfl | decide +kernel) (by first | rfl | decide +kernel) (Nat.le_of_ble_eq_true rfl) dX3_step_74 (fun H locs hP hS => ?_)
        have hP : mw G.1 vwCl B (mu (mu μ (sp sc) (.inr (2, [.int (nI (nx9 / 8)), .int (nI (nx9 % 8)), .int k9, .int a9, .int b9, .int c9]))) d (.inr (3, [.ref aS, .ref (sa 22), .ref aT, .ref aO, .int (nI (sc + 1)), .ref aL, .ref aR]))) _ := hP
        refine lv_aload_n hx hb dX3_step_77 rfl (lv_at hl 0 rfl) ?_
        refine mw_get (C := RX3) (T := TX3) (N := 7) hx hb hts in_X3_step_X3 hown hK hP (mu_s _ _ _) rfl 4 (by decide) (hts (.fieldLink RX3 37 "OctagonDesk" "stepCount" "I") (by decide +kernel)) (fun _ h9 => h9) rfl dX3_step_78 ?_
        refine lv_iconst (v := nI 1) hx hb dX3_step_81 (by decide) ?_
        refine nv_isub hx hb (by omega) dX3_step_82 ?_
        rw [hQ]
        refine vx_ret ?_
        refine W.widen (k := 5) (n := 30) (by omega) (by omega) ?_
        exact W.iret (v := nI ((sc + 1) - 1)) hx hb hr (fun t99 ht99 hW99 => ⟨⟨nI ((sc + 1) - 1), mu (mu μ (sp sc) (.inr (2, [.int (nI (nx9 / 8)), .int (nI (nx9 % 8)), .int k9, .int a9, .int b9, .int c9]))) d (.inr (3, [.ref aS, .ref (sa 22), .ref aT, .ref aO, .int (nI (sc + 1)), .ref aL, .ref aR])), rfl, (⟨⟨hw9, hk26⟩, by omega, congrArg nI (by omega), DG.step hA hSV hD hkw (by omega) (by omega) (by omega) hk26⟩), by show mw _ _ _ _ t99.heap; rw [ht99]; exact hP⟩, hS.F ht99⟩) hS.2.2 dX3_step_83
      · rw [hQ]
        exact kx_throw (is := 135) hx hb hlt hown (by decide +kernel) (hts (.classLink RX3 133 exS) (by decide +kernel)) (hts (.initialized exS) (by decide +kernel)) (List.mem_of_getElem? (i := 1) rfl) hKK.2.2.2.2.1.2 hDc (fun w9 h9 => hts w9 (List.mem_cons_of_mem _ (List.mem_append_right _ h9))) (by decide +kernel) (by decide +kernel) hKK hP hS (hl.1.trans hml.symm) dX3_step_38 dX3_step_41 dX3_step_42 dX3_step_44 dX3_step_47 hout (Nat.le_of_ble_eq_true rfl) (Nat.le_of_ble_eq_true rfl) (Nat.le_of_ble_eq_true rfl) (Nat.le_of_ble_eq_true rfl) (Nat.le_of_ble_eq_true rfl) hlocks (Or.inr ⟨rfl, ⟨hw9, hk26⟩, by omega⟩) (Nat.le_of_ble_eq_true rfl) (Nat.le_of_ble_eq_true rfl)
    · rw [hQ]
      exact kx_throw (is := 128) hx hb hlt hown (by decide +kernel) (hts (.classLink RX3 126 exA) (by decide +kernel)) (hts (.initialized exA) (by decide +kernel)) (List.mem_of_getElem? (i := 0) rfl) hKK.2.2.2.2.1.1 hDc (fun w9 h9 => hts w9 (List.mem_cons_of_mem _ (List.mem_append_left _ (List.mem_append_right _ h9)))) (by decide +kernel) (by decide +kernel) hKK hP hS (hl.1.trans hml.symm) dX3_step_10 dX3_step_13 dX3_step_14 dX3_step_16 dX3_step_19 hout (Nat.le_of_ble_eq_true rfl) (Nat.le_of_ble_eq_true rfl) (Nat.le_of_ble_eq_true rfl) (Nat.le_of_ble_eq_true rfl) (Nat.le_of_ble_eq_true rfl) hlocks (Or.inl ⟨rfl, fun h9 => by first | exact h9.1.1 hc1 | exact hc7 h9.1.2⟩) (Nat.le_of_ble_eq_true rfl) (Nat.le_of_ble_eq_true rfl)

abbrev rg_X3_erase : Room := { frames := 0, cells := 0, slots := 0, locals := 0 }
set_option maxHeartbeats 4000000 in
set_option maxRecDepth 100000 in
theorem g_X3_erase (l : Launch) (G : GG) (B : Nat) (μ : mp) (d k sc : Nat) (D : Nat → Prop) (hG : DG G μ d k sc D) : Met l yX3_erase wsX3_erase rg_X3_erase (va_Pc [.ref d] (KW G B μ)) (va_Qi (fun r μ2 => r = nI sc ∧ (DG G μ2 d k 0 (DN2 D μ) ∧ FD D μ μ2)) (BB G B) (fun q => B ≤ q)) 0 0 (fun q => B ≤ q) := by
  obtain ⟨aS, aL, aR, aT, aO, sa, na, la, bE, F, fS, fL, fR, fT, sp, fO, hD, hSV, hkw, hA⟩ := hG
  refine Met.ofW (cc := cX3_erase) (maxL := 2) (ret := (some .int)) (by decide) rfl ?_
  intro p e s m args below meth c s₁ B9 hml hv
  obtain ⟨hargs, hBs, hP, hKK⟩ := hv
  have hx := B9.exec
  have hb := B9.bytes
  have hr := B9.returns
  have hts := atoms_spec (ws := wsX3_erase) B9.pre
  have hown : s.vm.findClass RX3 = some m.cls := findClass_of_methodNamed B9.named
  have hlocks := B9.notSynchronized
  have hK := hKK.k
  have hS : va_S (fun q => B ≤ q) s.heap s.heap [] := va_S.rf
  obtain ⟨Q, hQ⟩ : ∃ Q, Q = MQ below (va_Qi (fun r μ2 => r = nI sc ∧ (DG G μ2 d k 0 (DN2 D μ) ∧ FD D μ μ2)) (BB G B) (fun q => B ≤ q)) args s 0 0 (fun q => B ≤ q) := ⟨_, rfl⟩
  rw [← hQ]
  have in_X3_erase_X3 : ∀ w ∈ wsX30, w ∈ wsX3_erase := by decide +kernel
  have hk5 := hkw.le
  have hl := lv_entry ([.ref d]) (n := 2) (Nat.le_of_ble_eq_true rfl)
  have he9 : entryFrame m args 2 = entryFrame m ([.ref d] : List Value).toArray 2 := by rw [hargs]
  rw [he9, lg_entry_eq]
  generalize (lg_sl ([.ref d]) ++ List.replicate (2 - (lg_sl ([.ref d])).length) Slot.unset).toArray = ls at hl ⊢
  have hl : lv_has ls 2 [(0, .ref d)] := hl
  refine lv_aload_n hx hb dX3_erase_0 rfl (lv_at hl 0 rfl) ?_
  refine mw_get (C := RX3) (T := TX3) (N := 7) hx hb hts in_X3_erase_X3 hown hK hP (hD.1) rfl 4 (by decide) (hts (.fieldLink RX3 37 "OctagonDesk" "stepCount" "I") (by decide +kernel)) (fun _ h9 => h9) rfl dX3_erase_1 ?_
  refine lv_istore_n (lv' := [(1, .int (nI sc)), (0, .ref d)]) hx hb dX3_erase_4 rfl hl (by decide) rfl (fun ls hl => ?_)
  refine lv_aload_n hx hb dX3_erase_5 rfl (lv_at hl 1 rfl) ?_
  refine lv_iconst (v := nI 0) hx hb dX3_erase_6 (by decide) ?_
  refine mw_put (ty := .int) (v := .int (nI 0)) (C := RX3) (T := TX3) (N := 7) hx hb hts in_X3_erase_X3 tyX3 tyX3_ok nmX3 hown hK hP hS (hD.1) rfl 4 (by decide) (hts (.fieldLink RX3 37 "OctagonDesk" "stepCount" "I") (by decide +kernel)) (fun _ h9 => h9) rfl (by decide +kernel) (by first | rfl | decide +kernel) (by first | rfl | decide +kernel) (Nat.le_of_ble_eq_true rfl) dX3_erase_7 (fun H locs hP hS => ?_)
  have hP : mw G.1 vwCl B (mu μ d (.inr (3, [.ref aS, .ref (sa 22), .ref aT, .ref aO, .int (nI 0), .ref aL, .ref aR]))) _ := hP
  refine lv_iload_n hx hb dX3_erase_10 rfl (lv_at hl 0 rfl) ?_
  rw [hQ]
  exact W.iret (v := nI sc) hx hb hr (fun t99 ht99 hW99 => ⟨⟨nI sc, mu μ d (.inr (3, [.ref aS, .ref (sa 22), .ref aT, .ref aO, .int (nI 0), .ref aL, .ref aR])), rfl, (⟨rfl, DG.erase hA hSV hD hkw⟩), by show mw _ _ _ _ t99.heap; rw [ht99]; exact hP⟩, hS.F ht99⟩) hS.2.2 dX3_erase_11

abbrev rg_X3_keepReached : Room := { frames := 0, cells := 0, slots := 0, locals := 0 }
set_option maxHeartbeats 4000000 in
set_option maxRecDepth 100000 in
theorem g_X3_keepReached (l : Launch) (G : GG) (B : Nat) (μ : mp) (d aS aL aR aT aO k sc : Nat) (sa na la bE : Nat → Nat) (F : Nat → Nat → Int64) (fS fL fR fT : Nat → Option Nat) (sp : Nat → Nat) (fO : Nat → Int64) (hD : DK G μ d aS aL aR aT aO k sc sa na la bE F fS fL fR fT sp fO) : Met l yX3_keepReached wsX3_keepReached rg_X3_keepReached (va_Pc [.ref d] (KW G B μ)) (va_Qv (fun μ2 => μ2 = mu μ d (.inr (3, [.ref aS, .ref (sa 22), .ref aT, .ref aO, .int (nI sc), .ref aR, .ref aL]))) (BB G B) (fun q => B ≤ q)) 0 0 (fun q => B ≤ q) := by
  refine Met.ofW (cc := cX3_keepReached) (maxL := 2) (ret := none) (by decide) rfl ?_
  intro p e s m args below meth c s₁ B9 hml hv
  obtain ⟨hargs, hBs, hP, hKK⟩ := hv
  have hx := B9.exec
  have hb := B9.bytes
  have hr := B9.returns
  have hts := atoms_spec (ws := wsX3_keepReached) B9.pre
  have hown : s.vm.findClass RX3 = some m.cls := findClass_of_methodNamed B9.named
  have hlocks := B9.notSynchronized
  have hK := hKK.k
  have hS : va_S (fun q => B ≤ q) s.heap s.heap [] := va_S.rf
  obtain ⟨Q, hQ⟩ : ∃ Q, Q = MQ below (va_Qv (fun μ2 => μ2 = mu μ d (.inr (3, [.ref aS, .ref (sa 22), .ref aT, .ref aO, .int (nI sc), .ref aR, .ref aL]))) (BB G B) (fun q => B ≤ q)) args s 0 0 (fun q => B ≤ q) := ⟨_, rfl⟩
  rw [← hQ]
  have in_X3_keepReached_X3 : ∀ w ∈ wsX30, w ∈ wsX3_keepReached := by decide +kernel
  have hl := lv_entry ([.ref d]) (n := 2) (Nat.le_of_ble_eq_true rfl)
  have he9 : entryFrame m args 2 = entryFrame m ([.ref d] : List Value).toArray 2 := by rw [hargs]
  rw [he9, lg_entry_eq]
  generalize (lg_sl ([.ref d]) ++ List.replicate (2 - (lg_sl ([.ref d])).length) Slot.unset).toArray = ls at hl ⊢
  have hl : lv_has ls 2 [(0, .ref d)] := hl
  refine lv_aload_n hx hb dX3_keepReached_0 rfl (lv_at hl 0 rfl) ?_
  refine mw_get (C := RX3) (T := TX3) (N := 7) hx hb hts in_X3_keepReached_X3 hown hK hP (hD.1) rfl 5 (by decide) (hts (.fieldLink RX3 22 "OctagonDesk" "left" "[LOctagonDesk$Shape;") (by decide +kernel)) (fun _ h9 => h9) rfl dX3_keepReached_1 ?_
  refine lv_astore_n (lv' := [(1, .ref aL), (0, .ref d)]) hx hb dX3_keepReached_4 rfl hl (by decide) rfl (fun ls hl => ?_)
  refine lv_aload_n hx hb dX3_keepReached_5 rfl (lv_at hl 1 rfl) ?_
  refine lv_aload_n hx hb dX3_keepReached_6 rfl (lv_at hl 1 rfl) ?_
  refine mw_get (C := RX3) (T := TX3) (N := 7) hx hb hts in_X3_keepReached_X3 hown hK hP (hD.1) rfl 6 (by decide) (hts (.fieldLink RX3 25 "OctagonDesk" "reached" "[LOctagonDesk$Shape;") (by decide +kernel)) (fun _ h9 => h9) rfl dX3_keepReached_7 ?_
  refine mw_put (ty := .array (.object "OctagonDesk$Shape")) (v := .ref aR) (C := RX3) (T := TX3) (N := 7) hx hb hts in_X3_keepReached_X3 tyX3 tyX3_ok nmX3 hown hK hP hS (hD.1) rfl 5 (by decide) (hts (.fieldLink RX3 22 "OctagonDesk" "left" "[LOctagonDesk$Shape;") (by decide +kernel)) (fun _ h9 => h9) rfl (by decide +kernel) (by first | rfl | decide +kernel) (by first | rfl | decide +kernel) (Nat.le_of_ble_eq_true rfl) dX3_keepReached_10 (fun H locs hP hS => ?_)
  have hP : mw G.1 vwCl B (mu μ d (.inr (3, [.ref aS, .ref (sa 22), .ref aT, .ref aO, .int (nI sc), .ref aR, .ref aR]))) _ := hP
  refine lv_aload_n hx hb dX3_keepReached_13 rfl (lv_at hl 1 rfl) ?_
  refine lv_aload_n hx hb dX3_keepReached_14 rfl (lv_at hl 0 rfl) ?_
  refine mw_put (ty := .array (.object "OctagonDesk$Shape")) (v := .ref aL) (C := RX3) (T := TX3) (N := 7) hx hb hts in_X3_keepReached_X3 tyX3 tyX3_ok nmX3 hown hK hP hS (mu_s _ _ _) rfl 6 (by decide) (hts (.fieldLink RX3 25 "OctagonDesk" "reached" "[LOctagonDesk$Shape;") (by decide +kernel)) (fun _ h9 => h9) rfl (by decide +kernel) (by first | rfl | decide +kernel) (by first | rfl | decide +kernel) (Nat.le_of_ble_eq_true rfl) dX3_keepReached_15 (fun H locs hP hS => ?_)
  have hP : mw G.1 vwCl B (mu μ d (.inr (3, [.ref aS, .ref (sa 22), .ref aT, .ref aO, .int (nI sc), .ref aR, .ref aL]))) _ := mw_eq (mu_u _ _ _ _) hP
  rw [hQ]
  exact W.vret hx hb hr (fun t99 ht99 hW99 => ⟨⟨mu μ d (.inr (3, [.ref aS, .ref (sa 22), .ref aT, .ref aO, .int (nI sc), .ref aR, .ref aL])), rfl, (rfl), by show mw _ _ _ _ t99.heap; rw [ht99]; exact hP⟩, hS.F ht99⟩) hS.2.2 dX3_keepReached_18

abbrev rg_X3_follow (k : Nat) : Room := { frames := 5, cells := 23 * (511 - k), slots := 7268 * (511 - k), locals := 146 }
set_option maxHeartbeats 4000000 in
set_option maxRecDepth 100000 in
theorem g_X3_follow (l : Launch) (G : GG) (B : Nat) (μ : mp) (N9 T9 : Nat) (d aS aL aR aT aO k sc : Nat) (sa na la bE : Nat → Nat) (F : Nat → Nat → Int64) (fS fL fR fT : Nat → Option Nat) (sp : Nat → Nat) (fO : Nat → Int64) (j9 p9 q9 rn : Nat) (kd a9 b9 c9 : Int32) (hD : DK G μ d aS aL aR aT aO k sc sa na la bE F fS fL fR fT sp fO) (hj9 : j9 < 20) (hp9 : p9 < 8) (hq9 : q9 < 8) (hok : okA kd a9 b9 c9) (hsp : μ (sp j9) = some (.inr (2, [.int (nI p9), .int (nI q9), .int kd, .int a9, .int b9, .int c9]))) (hkw : kw k) (hrn : rn ≤ 30) : Met l yX3_follow wsX3_follow (rg_X3_follow k) (va_Pc [.ref d, .ref (sp j9), .int (nI rn)] (KN G B N9 T9 μ)) (va_Qi (fun r9 (u9 : mp × Nat) => (fun r μ2 k2 => (r = 0 ∨ r = 1) ∧ ∃ (la2 bE2 : Nat → Nat) (F2 : Nat → Nat → Int64), DK G μ2 d aS aL aR aT aO k2 sc sa na la2 bE2 F2 fS fL fR fT sp fO ∧ DQ μ μ2 d aO sa na la la2 ∧ k ≤ k2 ∧ kw k2) r9 u9.1 u9.2) (BG G B N9 T9 k 0 0) (fun q => B ≤ q)) (23 * (511 - k)) (7268 * (511 - k)) (fun q => B ≤ q) := by
  refine Met.ofW (cc := cX3_follow) (maxL := 4) (ret := (some .boolean)) (by decide) rfl ?_
  intro p e s m args below meth c s₁ B9 hml hv
  obtain ⟨hargs, ⟨hBs, hP, hKK⟩, hN9, hT9⟩ := hv
  have hx := B9.exec
  have hb := B9.bytes
  have hr := B9.returns
  have hts := atoms_spec (ws := wsX3_follow) B9.pre
  have hown : s.vm.findClass RX3 = some m.cls := findClass_of_methodNamed B9.named
  have hlocks := B9.notSynchronized
  have hK := hKK.k
  have hS : va_S (fun q => B ≤ q) s.heap s.heap [] := va_S.rf
  obtain ⟨Q, hQ⟩ : ∃ Q, Q = MQ below (va_Qi (fun r9 (u9 : mp × Nat) => (fun r μ2 k2 => (r = 0 ∨ r = 1) ∧ ∃ (la2 bE2 : Nat → Nat) (F2 : Nat → Nat → Int64), DK G μ2 d aS aL aR aT aO k2 sc sa na la2 bE2 F2 fS fL fR fT sp fO ∧ DQ μ μ2 d aO sa na la la2 ∧ k ≤ k2 ∧ kw k2) r9 u9.1 u9.2) (BG G B N9 T9 k 0 0) (fun q => B ≤ q)) args s (23 * (511 - k)) (7268 * (511 - k)) (fun q => B ≤ q) := ⟨_, rfl⟩
  rw [← hQ]
  have in_X3_follow_X2 : ∀ w ∈ wsX20, w ∈ wsX3_follow := by decide +kernel
  have in_X3_follow_X3 : ∀ w ∈ wsX30, w ∈ wsX3_follow := by decide +kernel
  have hk5 := hkw.le
  have hl := lv_entry ([.ref d, .ref (sp j9), .int (nI rn)]) (n := 4) (Nat.le_of_ble_eq_true rfl)
  have he9 : entryFrame m args 4 = entryFrame m ([.ref d, .ref (sp j9), .int (nI rn)] : List Value).toArray 4 := by rw [hargs]
  rw [he9, lg_entry_eq]
  generalize (lg_sl ([.ref d, .ref (sp j9), .int (nI rn)]) ++ List.replicate (4 - (lg_sl ([.ref d, .ref (sp j9), .int (nI rn)])).length) Slot.unset).toArray = ls at hl ⊢
  have hl : lv_has ls 4 [(0, .ref d), (1, .ref (sp j9)), (2, .int (nI rn))] := hl
  obtain ⟨hkN, hok⟩ := hok
  rcases hok with ⟨ek9, hp1, hp2, hp3⟩ | ⟨ek9, hp1, hp2⟩ | ⟨ek9, hp1, hp2, hp3⟩
  · replace ek9 : kd = nI 0 := ek9.trans (by decide)
    subst ek9
    obtain ⟨na9, hna9, ena9⟩ := ok_nat (n := 12) (by decide) hp1
    subst ena9
    obtain ⟨nb9, hnb9, enb9⟩ := ok_nat (n := 12) (by decide) hp2
    subst enb9
    have hb22_0 := hD.b 22 (by omega)
    have hb_14___p9__0 := hD.b (14 + p9) (by omega)
    have hb_14___q9__0 := hD.b (14 + q9) (by omega)
    refine lv_aload_n hx hb dX3_follow_0 rfl (lv_at hl 0 rfl) ?_
    refine mw_get (C := RX3) (T := TX3) (N := 7) hx hb hts in_X3_follow_X3 hown hK hP (hD.1) rfl 6 (by decide) (hts (.fieldLink RX3 25 "OctagonDesk" "reached" "[LOctagonDesk$Shape;") (by decide +kernel)) (fun _ h9 => h9) rfl dX3_follow_1 ?_
    refine lv_aload_n hx hb dX3_follow_4 rfl (lv_at hl 1 rfl) ?_
    refine mw_get (C := RX2) (T := TX2) (N := 6) hx hb hts in_X3_follow_X2 hown hK hP (hsp) rfl 1 (by decide) (hts (.fieldLink RX3 194 "OctagonDesk$Step" "to" "I") (by decide +kernel)) (fun _ h9 => h9) rfl dX3_follow_5 ?_
    refine mw_aldq hx hb hK hP 3 (hD.2.1.2.2.1) rfl (by omega) (by omega) (hD.2.1.2.2.2.2.2.2 q9 (by omega)) dX3_follow_8 ?_
    refine lv_astore_n (lv' := [(3, .ref (sa (14 + q9))), (0, .ref d), (1, .ref (sp j9)), (2, .int (nI rn))]) hx hb dX3_follow_9 rfl hl (by decide) rfl (fun ls hl => ?_)
    refine lv_aload_n hx hb dX3_follow_10 rfl (lv_at hl 1 rfl) ?_
    refine mw_get (C := RX3) (T := TX3) (N := 7) hx hb hts in_X3_follow_X3 hown hK hP (hD.1) rfl 1 (by decide) (hts (.fieldLink RX3 29 "OctagonDesk" "made" "LOctagonDesk$Shape;") (by decide +kernel)) (fun _ h9 => h9) rfl dX3_follow_11 ?_
    refine lv_aload_n hx hb dX3_follow_14 rfl (lv_at hl 1 rfl) ?_
    refine mw_get (C := RX3) (T := TX3) (N := 7) hx hb hts in_X3_follow_X3 hown hK hP (hD.1) rfl 6 (by decide) (hts (.fieldLink RX3 25 "OctagonDesk" "reached" "[LOctagonDesk$Shape;") (by decide +kernel)) (fun _ h9 => h9) rfl dX3_follow_15 ?_
    refine lv_aload_n hx hb dX3_follow_18 rfl (lv_at hl 2 rfl) ?_
    refine mw_get (C := RX2) (T := TX2) (N := 6) hx hb hts in_X3_follow_X2 hown hK hP (hsp) rfl 0 (by decide) (hts (.fieldLink RX3 197 "OctagonDesk$Step" "from" "I") (by decide +kernel)) (fun _ h9 => h9) rfl dX3_follow_19 ?_
    refine mw_aldq hx hb hK hP 3 (hD.2.1.2.2.1) rfl (by omega) (by omega) (hD.2.1.2.2.2.2.2.2 p9 (by omega)) dX3_follow_22 ?_
    refine lv_aload_n hx hb dX3_follow_23 rfl (lv_at hl 2 rfl) ?_
    refine mw_get (C := RX2) (T := TX2) (N := 6) hx hb hts in_X3_follow_X2 hown hK hP (hsp) rfl 2 (by decide) (hts (.fieldLink RX3 200 "OctagonDesk$Step" "kind" "I") (by decide +kernel)) (fun _ h9 => h9) rfl dX3_follow_24 ?_
    refine lv_aload_n hx hb dX3_follow_27 rfl (lv_at hl 2 rfl) ?_
    refine mw_get (C := RX2) (T := TX2) (N := 6) hx hb hts in_X3_follow_X2 hown hK hP (hsp) rfl 3 (by decide) (hts (.fieldLink RX3 203 "OctagonDesk$Step" "a" "I") (by decide +kernel)) (fun _ h9 => h9) rfl dX3_follow_28 ?_
    refine lv_aload_n hx hb dX3_follow_31 rfl (lv_at hl 2 rfl) ?_
    refine mw_get (C := RX2) (T := TX2) (N := 6) hx hb hts in_X3_follow_X2 hown hK hP (hsp) rfl 4 (by decide) (hts (.fieldLink RX3 206 "OctagonDesk$Step" "b" "I") (by decide +kernel)) (fun _ h9 => h9) rfl dX3_follow_32 ?_
    refine lv_aload_n hx hb dX3_follow_35 rfl (lv_at hl 2 rfl) ?_
    refine mw_get (C := RX2) (T := TX2) (N := 6) hx hb hts in_X3_follow_X2 hown hK hP (hsp) rfl 5 (by decide) (hts (.fieldLink RX3 209 "OctagonDesk$Step" "c" "I") (by decide +kernel)) (fun _ h9 => h9) rfl dX3_follow_36 ?_
    refine kc_v (va_runV (As := [.ref (sa (14 + p9)), .int (nI 0), .int (nI na9), .int (nI nb9), .int c9]) (rest := []) ⟨hx, hb, hml, hown, hts⟩ (c_X1_makeFrom_0 l G B (μ) (sa 22) (na 22) (la 22) k (bE 22) (F 22) (sa (14 + p9)) (na (14 + p9)) (la (14 + p9)) (bE (14 + p9)) (F (14 + p9)) na9 nb9 c9 ((hD.2.2.2.2.1.1 22 (by omega)).1.1) ((hD.2.2.2.2.1.1 22 (by omega)).1.2.1) ((hD.2.2.2.2.1.1 22 (by omega)).1.2.2) ((hD.2.2.2.2.1.1 (14 + p9) (by omega)).1.1) ((hD.2.2.2.2.1.1 (14 + p9) (by omega)).1.2.1) ((hD.2.2.2.2.1.1 (14 + p9) (by omega)).1.2.2) (by omega) (by omega) (by omega) (((hD.2.2.2.2.1.2 22 (14 + p9) (by omega) (by omega) (by omega)).2.2)) (((hD.2.2.2.2.1.2 22 (14 + p9) (by omega) (by omega) (by omega)).1)) (by omega) (by omega)) (cwV 5 hts gX3_follow_X1_makeFrom rfl rfl rfl (by decide +kernel) ⟨Nat.le_of_ble_eq_true rfl, Nat.le_of_ble_eq_true rfl⟩) ⟨KW.blind, hP.recv hK rfl ((hD.2.2.2.2.1.1 22 (by omega)).1.1), fun U9 hU9 hW9 => ⟨rfl, KW.pre hBs hKK hS hP U9 hU9 hW9⟩⟩ rfl rfl hl.1 rfl (lv_room (Nat.le_of_ble_eq_true rfl)) dX3_follow_39 ⟨(Nat.le_trans (m := 23 * (511 - k)) (by omega) (Nat.le_refl _)), (Nat.le_trans (m := 7268 * (511 - k)) (by omega) (Nat.le_refl _))⟩) hS (fun m39 H locs hq9 hP hz9 hS => ?_)
    obtain ⟨g39, b39, rfl, hb39, hg39⟩ := hq9
    have hP : mw G.1 vwCl B (mu (mu μ (sa 22) (.inr (1, [.ref (na 22), .int (nI b39)]))) (la 22) (.inl (G.2 0, 158 * k + 158, .inr (.inl g39)))) _ := mw_eq (congrArg (fun z => mu z (la 22) (.inl (G.2 0, 158 * k + 158, .inr (.inl g39)))) (rfl)) hP
    refine lv_aload_n hx hb dX3_follow_42 rfl (lv_at hl 1 rfl) ?_
    refine lv_aload_n hx hb dX3_follow_43 rfl (lv_at hl 1 rfl) ?_
    refine mw_get (C := RX3) (T := TX3) (N := 7) hx hb hts in_X3_follow_X3 hown hK hP ((mu_n ((mp_ne hD.1 ((hD.2.2.2.2.1.1 22 (by omega)).1.2.2) (by simp)))).trans ((mu_n ((mp_ne hD.1 ((hD.2.2.2.2.1.1 22 (by omega)).1.1) (by simp)))).trans (hD.1))) rfl 1 (by decide) (hts (.fieldLink RX3 29 "OctagonDesk" "made" "LOctagonDesk$Shape;") (by decide +kernel)) (fun _ h9 => h9) rfl dX3_follow_44 ?_
    have hDx47 : DK G (mu (mu μ (sa 22) (.inr (1, [.ref (na 22), .int (nI b39)]))) (la 22) (.inl (G.2 0, 158 * k + 158, .inr (.inl g39)))) d aS aL aR aT aO k sc sa na la (va_up bE 22 b39) (va_up F 22 g39) fS fL fR fT sp fO := hD.sh (by omega) (by omega)
    have hRx47 : DQ μ (mu (mu μ (sa 22) (.inr (1, [.ref (na 22), .int (nI b39)]))) (la 22) (.inl (G.2 0, 158 * k + 158, .inr (.inl g39)))) d aO sa na la la := DQ.sh (by omega)
    obtain ⟨μ47, em47⟩ : ∃ x9 : mp, x9 = mu (mu μ (sa 22) (.inr (1, [.ref (na 22), .int (nI b39)]))) (la 22) (.inl (G.2 0, 158 * k + 158, .inr (.inl g39))) := ⟨_, rfl⟩
    rw [← em47] at hP hDx47 hRx47
    refine kg_v (va_runV (As := [.ref (sa 22)]) (rest := []) ⟨hx, hb, hml, hown, hts⟩ (c_X3_makeRoomk l G B μ47 _ _ d aS aL aR aT aO k sc sa na la (va_up bE 22 b39) (va_up F 22 g39) fS fL fR fT sp fO 22 hDx47 (by omega) hkw) (cwV 1 hts gX3_follow_X3_makeRoom rfl rfl rfl (by decide +kernel) ⟨Nat.le_of_ble_eq_true rfl, Nat.le_of_ble_eq_true rfl⟩) ⟨KN.blind, hP.recv hK rfl (hDx47.1), fun U9 hU9 hW9 => ⟨rfl, KW.pre hBs hKK hS hP U9 hU9 hW9, by rw [hU9], by rw [hU9]⟩⟩ rfl rfl hl.1 rfl (lv_room (Nat.le_of_ble_eq_true rfl)) dX3_follow_47 ⟨(Nat.le_trans (m := 23 * (511 - k)) (by omega) (Nat.le_refl _)), (Nat.le_trans (m := 7268 * (511 - k)) (by omega) (Nat.le_refl _))⟩) hS (fun m47 k47 H locs hq9 hP hz9 hS => ?_)
    obtain ⟨la47, F47, hD47, hR47, hkq47, hkw47⟩ := hq9
    have hk5_47 := hkw47.le
    have hkq_47 : k ≤ k47 := by omega
    have hR47 := hRx47.tr hR47
    have hb22_50 := hD47.b 22 (by omega)
    have hb_14___q9__50 := hD47.b (14 + q9) (by omega)
    refine lv_aload_n hx hb dX3_follow_50 rfl (lv_at hl 1 rfl) ?_
    refine mw_get (C := RX3) (T := TX3) (N := 7) hx hb hts in_X3_follow_X3 hown hK hP (hD47.1) rfl 1 (by decide) (hts (.fieldLink RX3 29 "OctagonDesk" "made" "LOctagonDesk$Shape;") (by decide +kernel)) (fun _ h9 => h9) rfl dX3_follow_51 ?_
    refine lv_aload_n hx hb dX3_follow_54 rfl (lv_at hl 0 rfl) ?_
    refine kc_i (va_runV (As := [.ref (sa (14 + q9))]) (rest := []) ⟨hx, hb, hml, hown, hts⟩ (c_X1_isWithin l G B (m47) (sa 22) (na 22) (la47 22) k47 ((va_up bE 22 b39) 22) (F47 22) (sa (14 + q9)) (na (14 + q9)) (la47 (14 + q9)) ((va_up bE 22 b39) (14 + q9)) (F47 (14 + q9))  ((hD47.2.2.2.2.1.1 22 (by omega)).1.1) ((hD47.2.2.2.2.1.1 22 (by omega)).1.2.1) ((hD47.2.2.2.2.1.1 22 (by omega)).1.2.2) ((hD47.2.2.2.2.1.1 (14 + q9) (by omega)).1.1) ((hD47.2.2.2.2.1.1 (14 + q9) (by omega)).1.2.1) ((hD47.2.2.2.2.1.1 (14 + q9) (by omega)).1.2.2) (by omega) (by omega) (by omega)) (cwV 1 hts gX3_follow_X1_isWithin rfl rfl rfl (by decide +kernel) ⟨Nat.le_of_ble_eq_true rfl, Nat.le_of_ble_eq_true rfl⟩) ⟨KW.blind, hP.recv hK rfl ((hD47.2.2.2.2.1.1 22 (by omega)).1.1), fun U9 hU9 hW9 => ⟨rfl, KW.pre hBs hKK hS hP U9 hU9 hW9⟩⟩ rfl rfl hl.1 rfl (lv_room (Nat.le_of_ble_eq_true rfl)) dX3_follow_55 ⟨(Nat.le_trans (m := 23 * (511 - k)) (by omega) (Nat.le_refl _)), (Nat.le_trans (m := 7268 * (511 - k)) (by omega) (Nat.le_refl _))⟩) hS (fun r55 m55 H locs hq9 hP hz9 hS => ?_)
    obtain ⟨he9, hbr55, hr55⟩ := hq9
    rw [he9] at hP
    refine lv_if_eq (tgt := 63) hx hb dX3_follow_58 (by decide) (fun hc58 => ?_) (fun hc58 => ?_)
    · refine lv_iload_n hx hb dX3_follow_63 rfl (lv_at hl 3 rfl) ?_
      refine lv_iconst (v := nI 4) hx hb dX3_follow_64 (by decide) ?_
      refine nv_icmp_lt (tgt := 95) hx hb (by omega) (by omega) dX3_follow_65 (by decide) (fun hc65 => ?_) (fun hc65 => ?_)
      · refine lv_aload_n hx hb dX3_follow_95 rfl (lv_at hl 0 rfl) ?_
        refine lv_aload_n hx hb dX3_follow_96 rfl (lv_at hl 1 rfl) ?_
        refine mw_get (C := RX3) (T := TX3) (N := 7) hx hb hts in_X3_follow_X3 hown hK hP (hD47.1) rfl 1 (by decide) (hts (.fieldLink RX3 29 "OctagonDesk" "made" "LOctagonDesk$Shape;") (by decide +kernel)) (fun _ h9 => h9) rfl dX3_follow_97 ?_
        refine kc_v (va_runV (As := [.ref (sa 22)]) (rest := []) ⟨hx, hb, hml, hown, hts⟩ (c_X1_stretchOver l G B (m47) (sa (14 + q9)) (na (14 + q9)) (la47 (14 + q9)) k47 ((va_up bE 22 b39) (14 + q9)) (F47 (14 + q9)) (sa 22) (na 22) (la47 22) ((va_up bE 22 b39) 22) (F47 22)  ((hD47.2.2.2.2.1.1 (14 + q9) (by omega)).1.1) ((hD47.2.2.2.2.1.1 (14 + q9) (by omega)).1.2.1) ((hD47.2.2.2.2.1.1 (14 + q9) (by omega)).1.2.2) ((hD47.2.2.2.2.1.1 22 (by omega)).1.1) ((hD47.2.2.2.2.1.1 22 (by omega)).1.2.1) ((hD47.2.2.2.2.1.1 22 (by omega)).1.2.2) (by omega) (by omega) (by omega) (((hD47.2.2.2.2.1.2 (14 + q9) 22 (by omega) (by omega) (by omega)).2.2)) (((hD47.2.2.2.2.1.2 (14 + q9) 22 (by omega) (by omega) (by omega)).1))) (cwV 1 hts gX3_follow_X1_stretchOver rfl rfl rfl (by decide +kernel) ⟨Nat.le_of_ble_eq_true rfl, Nat.le_of_ble_eq_true rfl⟩) ⟨KW.blind, hP.recv hK rfl ((hD47.2.2.2.2.1.1 (14 + q9) (by omega)).1.1), fun U9 hU9 hW9 => ⟨rfl, KW.pre hBs hKK hS hP U9 hU9 hW9⟩⟩ rfl rfl hl.1 rfl (lv_room (Nat.le_of_ble_eq_true rfl)) dX3_follow_100 ⟨(Nat.le_trans (m := 23 * (511 - k)) (by omega) (Nat.le_refl _)), (Nat.le_trans (m := 7268 * (511 - k)) (by omega) (Nat.le_refl _))⟩) hS (fun m100 H locs hq9 hP hz9 hS => ?_)
        obtain ⟨g100, b100, rfl, hb100⟩ := hq9
        have hP : mw G.1 vwCl B (mu (mu m47 (sa (14 + q9)) (.inr (1, [.ref (na (14 + q9)), .int (nI b100)]))) (la47 (14 + q9)) (.inl (G.2 0, 158 * k47 + 158, .inr (.inl g100)))) _ := mw_eq (congrArg (fun z => mu z (la47 (14 + q9)) (.inl (G.2 0, 158 * k47 + 158, .inr (.inl g100)))) (rfl)) hP
        refine lv_iconst (v := nI 1) hx hb dX3_follow_103 (by decide) ?_
        refine Wknow (fun hw1 hw2 => ?_)
        rw [hQ]
        refine W.widen (k := 23 * (511 - k)) (n := 7268 * (511 - k)) (by omega) (by omega) ?_
        have hDx104 : DK G (mu (mu m47 (sa (14 + q9)) (.inr (1, [.ref (na (14 + q9)), .int (nI b100)]))) (la47 (14 + q9)) (.inl (G.2 0, 158 * k47 + 158, .inr (.inl g100)))) d aS aL aR aT aO k47 sc sa na la47 (va_up (va_up bE 22 b39) (14 + q9) b100) (va_up F47 (14 + q9) g100) fS fL fR fT sp fO := hD47.sh (by omega) (by omega)
        have hRx104 : DQ μ (mu (mu m47 (sa (14 + q9)) (.inr (1, [.ref (na (14 + q9)), .int (nI b100)]))) (la47 (14 + q9)) (.inl (G.2 0, 158 * k47 + 158, .inr (.inl g100)))) d aO sa na la la47 := hR47.tr (DQ.sh (by omega))
        obtain ⟨μ104, em104⟩ : ∃ x9 : mp, x9 = mu (mu m47 (sa (14 + q9)) (.inr (1, [.ref (na (14 + q9)), .int (nI b100)]))) (la47 (14 + q9)) (.inl (G.2 0, 158 * k47 + 158, .inr (.inl g100))) := ⟨_, rfl⟩
        rw [← em104] at hP hDx104 hRx104
        exact W.zret (v := nI 1) (ty := .boolean) hx hb hr (by first | rfl | decide) (fun t99 ht99 hW99 => ⟨⟨nI 1, (μ104, k47), rfl, (⟨Or.inr rfl, _, _, _, hDx104, hRx104, by omega, hkw47⟩), by show mw _ _ _ _ t99.heap; rw [ht99]; exact hP, by show t99.heap.size ≤ N9 + (0 + 23 * (k47 - k)); rw [ht99]; omega, by show tot t99.heap ≤ T9 + (0 + 7268 * (k47 - k)); rw [ht99]; omega⟩, hS.F ht99⟩) hS.2.2 dX3_follow_104
      · refine lv_aload_n hx hb dX3_follow_68 rfl (lv_at hl 2 rfl) ?_
        refine mw_get (C := RX2) (T := TX2) (N := 6) hx hb hts in_X3_follow_X2 hown hK hP ((hR47.spc hD hsp)) rfl 1 (by decide) (hts (.fieldLink RX3 194 "OctagonDesk$Step" "to" "I") (by decide +kernel)) (fun _ h9 => h9) rfl dX3_follow_69 ?_
        refine lv_aload_n hx hb dX3_follow_72 rfl (lv_at hl 2 rfl) ?_
        refine mw_get (C := RX2) (T := TX2) (N := 6) hx hb hts in_X3_follow_X2 hown hK hP ((hR47.spc hD hsp)) rfl 0 (by decide) (hts (.fieldLink RX3 197 "OctagonDesk$Step" "from" "I") (by decide +kernel)) (fun _ h9 => h9) rfl dX3_follow_73 ?_
        refine nv_icmp_gt (tgt := 95) hx hb (by omega) (by omega) dX3_follow_76 (by decide) (fun hc76 => ?_) (fun hc76 => ?_)
        · refine lv_aload_n hx hb dX3_follow_95 rfl (lv_at hl 0 rfl) ?_
          refine lv_aload_n hx hb dX3_follow_96 rfl (lv_at hl 1 rfl) ?_
          refine mw_get (C := RX3) (T := TX3) (N := 7) hx hb hts in_X3_follow_X3 hown hK hP (hD47.1) rfl 1 (by decide) (hts (.fieldLink RX3 29 "OctagonDesk" "made" "LOctagonDesk$Shape;") (by decide +kernel)) (fun _ h9 => h9) rfl dX3_follow_97 ?_
          refine kc_v (va_runV (As := [.ref (sa 22)]) (rest := []) ⟨hx, hb, hml, hown, hts⟩ (c_X1_stretchOver l G B (m47) (sa (14 + q9)) (na (14 + q9)) (la47 (14 + q9)) k47 ((va_up bE 22 b39) (14 + q9)) (F47 (14 + q9)) (sa 22) (na 22) (la47 22) ((va_up bE 22 b39) 22) (F47 22)  ((hD47.2.2.2.2.1.1 (14 + q9) (by omega)).1.1) ((hD47.2.2.2.2.1.1 (14 + q9) (by omega)).1.2.1) ((hD47.2.2.2.2.1.1 (14 + q9) (by omega)).1.2.2) ((hD47.2.2.2.2.1.1 22 (by omega)).1.1) ((hD47.2.2.2.2.1.1 22 (by omega)).1.2.1) ((hD47.2.2.2.2.1.1 22 (by omega)).1.2.2) (by omega) (by omega) (by omega) (((hD47.2.2.2.2.1.2 (14 + q9) 22 (by omega) (by omega) (by omega)).2.2)) (((hD47.2.2.2.2.1.2 (14 + q9) 22 (by omega) (by omega) (by omega)).1))) (cwV 1 hts gX3_follow_X1_stretchOver rfl rfl rfl (by decide +kernel) ⟨Nat.le_of_ble_eq_true rfl, Nat.le_of_ble_eq_true rfl⟩) ⟨KW.blind, hP.recv hK rfl ((hD47.2.2.2.2.1.1 (14 + q9) (by omega)).1.1), fun U9 hU9 hW9 => ⟨rfl, KW.pre hBs hKK hS hP U9 hU9 hW9⟩⟩ rfl rfl hl.1 rfl (lv_room (Nat.le_of_ble_eq_true rfl)) dX3_follow_100 ⟨(Nat.le_trans (m := 23 * (511 - k)) (by omega) (Nat.le_refl _)), (Nat.le_trans (m := 7268 * (511 - k)) (by omega) (Nat.le_refl _))⟩) hS (fun m100 H locs hq9 hP hz9 hS => ?_)
          obtain ⟨g100, b100, rfl, hb100⟩ := hq9
          have hP : mw G.1 vwCl B (mu (mu m47 (sa (14 + q9)) (.inr (1, [.ref (na (14 + q9)), .int (nI b100)]))) (la47 (14 + q9)) (.inl (G.2 0, 158 * k47 + 158, .inr (.inl g100)))) _ := mw_eq (congrArg (fun z => mu z (la47 (14 + q9)) (.inl (G.2 0, 158 * k47 + 158, .inr (.inl g100)))) (rfl)) hP
          refine lv_iconst (v := nI 1) hx hb dX3_follow_103 (by decide) ?_
          refine Wknow (fun hw1 hw2 => ?_)
          rw [hQ]
          refine W.widen (k := 23 * (511 - k)) (n := 7268 * (511 - k)) (by omega) (by omega) ?_
          have hDx104 : DK G (mu (mu m47 (sa (14 + q9)) (.inr (1, [.ref (na (14 + q9)), .int (nI b100)]))) (la47 (14 + q9)) (.inl (G.2 0, 158 * k47 + 158, .inr (.inl g100)))) d aS aL aR aT aO k47 sc sa na la47 (va_up (va_up bE 22 b39) (14 + q9) b100) (va_up F47 (14 + q9) g100) fS fL fR fT sp fO := hD47.sh (by omega) (by omega)
          have hRx104 : DQ μ (mu (mu m47 (sa (14 + q9)) (.inr (1, [.ref (na (14 + q9)), .int (nI b100)]))) (la47 (14 + q9)) (.inl (G.2 0, 158 * k47 + 158, .inr (.inl g100)))) d aO sa na la la47 := hR47.tr (DQ.sh (by omega))
          obtain ⟨μ104, em104⟩ : ∃ x9 : mp, x9 = mu (mu m47 (sa (14 + q9)) (.inr (1, [.ref (na (14 + q9)), .int (nI b100)]))) (la47 (14 + q9)) (.inl (G.2 0, 158 * k47 + 158, .inr (.inl g100))) := ⟨_, rfl⟩
          rw [← em104] at hP hDx104 hRx104
          exact W.zret (v := nI 1) (ty := .boolean) hx hb hr (by first | rfl | decide) (fun t99 ht99 hW99 => ⟨⟨nI 1, (μ104, k47), rfl, (⟨Or.inr rfl, _, _, _, hDx104, hRx104, by omega, hkw47⟩), by show mw _ _ _ _ t99.heap; rw [ht99]; exact hP, by show t99.heap.size ≤ N9 + (0 + 23 * (k47 - k)); rw [ht99]; omega, by show tot t99.heap ≤ T9 + (0 + 7268 * (k47 - k)); rw [ht99]; omega⟩, hS.F ht99⟩) hS.2.2 dX3_follow_104
        · refine lv_aload_n hx hb dX3_follow_79 rfl (lv_at hl 0 rfl) ?_
          refine lv_aload_n hx hb dX3_follow_80 rfl (lv_at hl 1 rfl) ?_
          refine mw_get (C := RX3) (T := TX3) (N := 7) hx hb hts in_X3_follow_X3 hown hK hP (hD47.1) rfl 1 (by decide) (hts (.fieldLink RX3 29 "OctagonDesk" "made" "LOctagonDesk$Shape;") (by decide +kernel)) (fun _ h9 => h9) rfl dX3_follow_81 ?_
          refine kc_v (va_runV (As := [.ref (sa 22)]) (rest := []) ⟨hx, hb, hml, hown, hts⟩ (c_X1_loosenBy l G B (m47) (sa (14 + q9)) (na (14 + q9)) (la47 (14 + q9)) k47 ((va_up bE 22 b39) (14 + q9)) (F47 (14 + q9)) (sa 22) (na 22) (la47 22) ((va_up bE 22 b39) 22) (F47 22)  ((hD47.2.2.2.2.1.1 (14 + q9) (by omega)).1.1) ((hD47.2.2.2.2.1.1 (14 + q9) (by omega)).1.2.1) ((hD47.2.2.2.2.1.1 (14 + q9) (by omega)).1.2.2) ((hD47.2.2.2.2.1.1 22 (by omega)).1.1) ((hD47.2.2.2.2.1.1 22 (by omega)).1.2.1) ((hD47.2.2.2.2.1.1 22 (by omega)).1.2.2) (by omega) (by omega) (by omega) (((hD47.2.2.2.2.1.2 (14 + q9) 22 (by omega) (by omega) (by omega)).2.2)) (((hD47.2.2.2.2.1.2 (14 + q9) 22 (by omega) (by omega) (by omega)).1))) (cwV 1 hts gX3_follow_X1_loosenBy rfl rfl rfl (by decide +kernel) ⟨Nat.le_of_ble_eq_true rfl, Nat.le_of_ble_eq_true rfl⟩) ⟨KW.blind, hP.recv hK rfl ((hD47.2.2.2.2.1.1 (14 + q9) (by omega)).1.1), fun U9 hU9 hW9 => ⟨rfl, KW.pre hBs hKK hS hP U9 hU9 hW9⟩⟩ rfl rfl hl.1 rfl (lv_room (Nat.le_of_ble_eq_true rfl)) dX3_follow_84 ⟨(Nat.le_trans (m := 23 * (511 - k)) (by omega) (Nat.le_refl _)), (Nat.le_trans (m := 7268 * (511 - k)) (by omega) (Nat.le_refl _))⟩) hS (fun m84 H locs hq9 hP hz9 hS => ?_)
          obtain ⟨g84, b84, rfl, hb84⟩ := hq9
          have hP : mw G.1 vwCl B (mu (mu m47 (sa (14 + q9)) (.inr (1, [.ref (na (14 + q9)), .int (nI b84)]))) (la47 (14 + q9)) (.inl (G.2 0, 158 * k47 + 158, .inr (.inl g84)))) _ := mw_eq (congrArg (fun z => mu z (la47 (14 + q9)) (.inl (G.2 0, 158 * k47 + 158, .inr (.inl g84)))) (rfl)) hP
          refine lv_aload_n hx hb dX3_follow_87 rfl (lv_at hl 1 rfl) ?_
          refine lv_aload_n hx hb dX3_follow_88 rfl (lv_at hl 0 rfl) ?_
          have hDx89 : DK G (mu (mu m47 (sa (14 + q9)) (.inr (1, [.ref (na (14 + q9)), .int (nI b84)]))) (la47 (14 + q9)) (.inl (G.2 0, 158 * k47 + 158, .inr (.inl g84)))) d aS aL aR aT aO k47 sc sa na la47 (va_up (va_up bE 22 b39) (14 + q9) b84) (va_up F47 (14 + q9) g84) fS fL fR fT sp fO := hD47.sh (by omega) (by omega)
          have hRx89 : DQ μ (mu (mu m47 (sa (14 + q9)) (.inr (1, [.ref (na (14 + q9)), .int (nI b84)]))) (la47 (14 + q9)) (.inl (G.2 0, 158 * k47 + 158, .inr (.inl g84)))) d aO sa na la la47 := hR47.tr (DQ.sh (by omega))
          obtain ⟨μ89, em89⟩ : ∃ x9 : mp, x9 = mu (mu m47 (sa (14 + q9)) (.inr (1, [.ref (na (14 + q9)), .int (nI b84)]))) (la47 (14 + q9)) (.inl (G.2 0, 158 * k47 + 158, .inr (.inl g84))) := ⟨_, rfl⟩
          rw [← em89] at hP hDx89 hRx89
          refine kg_v (va_runV (As := [.ref (sa (14 + q9))]) (rest := []) ⟨hx, hb, hml, hown, hts⟩ (c_X3_makeRoomk l G B μ89 _ _ d aS aL aR aT aO k47 sc sa na la47 (va_up (va_up bE 22 b39) (14 + q9) b84) (va_up F47 (14 + q9) g84) fS fL fR fT sp fO (14 + q9) hDx89 (by omega) hkw47) (cwV 1 hts gX3_follow_X3_makeRoom rfl rfl rfl (by decide +kernel) ⟨Nat.le_of_ble_eq_true rfl, Nat.le_of_ble_eq_true rfl⟩) ⟨KN.blind, hP.recv hK rfl (hDx89.1), fun U9 hU9 hW9 => ⟨rfl, KW.pre hBs hKK hS hP U9 hU9 hW9, by rw [hU9], by rw [hU9]⟩⟩ rfl rfl hl.1 rfl (lv_room (Nat.le_of_ble_eq_true rfl)) dX3_follow_89 ⟨(Nat.le_trans (m := 23 * (511 - k)) (by omega) (Nat.le_refl _)), (Nat.le_trans (m := 7268 * (511 - k)) (by omega) (Nat.le_refl _))⟩) hS (fun m89 k89 H locs hq9 hP hz9 hS => ?_)
          obtain ⟨la89, F89, hD89, hR89, hkq89, hkw89⟩ := hq9
          have hk5_89 := hkw89.le
          have hkq_89 : k47 ≤ k89 := by omega
          have hR89 := hRx89.tr hR89
          refine lv_goto (tgt := 103) hx hb dX3_follow_92 (by decide) ?_
          refine lv_iconst (v := nI 1) hx hb dX3_follow_103 (by decide) ?_
          refine Wknow (fun hw1 hw2 => ?_)
          rw [hQ]
          refine W.widen (k := 23 * (511 - k)) (n := 7268 * (511 - k)) (by omega) (by omega) ?_
          exact W.zret (v := nI 1) (ty := .boolean) hx hb hr (by first | rfl | decide) (fun t99 ht99 hW99 => ⟨⟨nI 1, (m89, k89), rfl, (⟨Or.inr rfl, _, _, _, hD89, hR89, by omega, hkw89⟩), by show mw _ _ _ _ t99.heap; rw [ht99]; exact hP, by show t99.heap.size ≤ N9 + (0 + 23 * (k89 - k)); rw [ht99]; omega, by show tot t99.heap ≤ T9 + (0 + 7268 * (k89 - k)); rw [ht99]; omega⟩, hS.F ht99⟩) hS.2.2 dX3_follow_104
    · refine lv_iconst (v := nI 0) hx hb dX3_follow_61 (by decide) ?_
      refine Wknow (fun hw1 hw2 => ?_)
      rw [hQ]
      refine W.widen (k := 23 * (511 - k)) (n := 7268 * (511 - k)) (by omega) (by omega) ?_
      exact W.zret (v := nI 0) (ty := .boolean) hx hb hr (by first | rfl | decide) (fun t99 ht99 hW99 => ⟨⟨nI 0, (m47, k47), rfl, (⟨Or.inl rfl, _, _, _, hD47, hR47, by omega, hkw47⟩), by show mw _ _ _ _ t99.heap; rw [ht99]; exact hP, by show t99.heap.size ≤ N9 + (0 + 23 * (k47 - k)); rw [ht99]; omega, by show tot t99.heap ≤ T9 + (0 + 7268 * (k47 - k)); rw [ht99]; omega⟩, hS.F ht99⟩) hS.2.2 dX3_follow_62
  · replace ek9 : kd = nI 1 := ek9.trans (by decide)
    subst ek9
    obtain ⟨na9, hna9, ena9⟩ := ok_nat (n := 6) (by decide) hp1
    subst ena9
    obtain ⟨nb9, hnb9, enb9⟩ := ok_nat (n := 12) (by decide) hp2
    subst enb9
    have hb22_0 := hD.b 22 (by omega)
    have hb_14___p9__0 := hD.b (14 + p9) (by omega)
    have hb_14___q9__0 := hD.b (14 + q9) (by omega)
    refine lv_aload_n hx hb dX3_follow_0 rfl (lv_at hl 0 rfl) ?_
    refine mw_get (C := RX3) (T := TX3) (N := 7) hx hb hts in_X3_follow_X3 hown hK hP (hD.1) rfl 6 (by decide) (hts (.fieldLink RX3 25 "OctagonDesk" "reached" "[LOctagonDesk$Shape;") (by decide +kernel)) (fun _ h9 => h9) rfl dX3_follow_1 ?_
    refine lv_aload_n hx hb dX3_follow_4 rfl (lv_at hl 1 rfl) ?_
    refine mw_get (C := RX2) (T := TX2) (N := 6) hx hb hts in_X3_follow_X2 hown hK hP (hsp) rfl 1 (by decide) (hts (.fieldLink RX3 194 "OctagonDesk$Step" "to" "I") (by decide +kernel)) (fun _ h9 => h9) rfl dX3_follow_5 ?_
    refine mw_aldq hx hb hK hP 3 (hD.2.1.2.2.1) rfl (by omega) (by omega) (hD.2.1.2.2.2.2.2.2 q9 (by omega)) dX3_follow_8 ?_
    refine lv_astore_n (lv' := [(3, .ref (sa (14 + q9))), (0, .ref d), (1, .ref (sp j9)), (2, .int (nI rn))]) hx hb dX3_follow_9 rfl hl (by decide) rfl (fun ls hl => ?_)
    refine lv_aload_n hx hb dX3_follow_10 rfl (lv_at hl 1 rfl) ?_
    refine mw_get (C := RX3) (T := TX3) (N := 7) hx hb hts in_X3_follow_X3 hown hK hP (hD.1) rfl 1 (by decide) (hts (.fieldLink RX3 29 "OctagonDesk" "made" "LOctagonDesk$Shape;") (by decide +kernel)) (fun _ h9 => h9) rfl dX3_follow_11 ?_
    refine lv_aload_n hx hb dX3_follow_14 rfl (lv_at hl 1 rfl) ?_
    refine mw_get (C := RX3) (T := TX3) (N := 7) hx hb hts in_X3_follow_X3 hown hK hP (hD.1) rfl 6 (by decide) (hts (.fieldLink RX3 25 "OctagonDesk" "reached" "[LOctagonDesk$Shape;") (by decide +kernel)) (fun _ h9 => h9) rfl dX3_follow_15 ?_
    refine lv_aload_n hx hb dX3_follow_18 rfl (lv_at hl 2 rfl) ?_
    refine mw_get (C := RX2) (T := TX2) (N := 6) hx hb hts in_X3_follow_X2 hown hK hP (hsp) rfl 0 (by decide) (hts (.fieldLink RX3 197 "OctagonDesk$Step" "from" "I") (by decide +kernel)) (fun _ h9 => h9) rfl dX3_follow_19 ?_
    refine mw_aldq hx hb hK hP 3 (hD.2.1.2.2.1) rfl (by omega) (by omega) (hD.2.1.2.2.2.2.2.2 p9 (by omega)) dX3_follow_22 ?_
    refine lv_aload_n hx hb dX3_follow_23 rfl (lv_at hl 2 rfl) ?_
    refine mw_get (C := RX2) (T := TX2) (N := 6) hx hb hts in_X3_follow_X2 hown hK hP (hsp) rfl 2 (by decide) (hts (.fieldLink RX3 200 "OctagonDesk$Step" "kind" "I") (by decide +kernel)) (fun _ h9 => h9) rfl dX3_follow_24 ?_
    refine lv_aload_n hx hb dX3_follow_27 rfl (lv_at hl 2 rfl) ?_
    refine mw_get (C := RX2) (T := TX2) (N := 6) hx hb hts in_X3_follow_X2 hown hK hP (hsp) rfl 3 (by decide) (hts (.fieldLink RX3 203 "OctagonDesk$Step" "a" "I") (by decide +kernel)) (fun _ h9 => h9) rfl dX3_follow_28 ?_
    refine lv_aload_n hx hb dX3_follow_31 rfl (lv_at hl 2 rfl) ?_
    refine mw_get (C := RX2) (T := TX2) (N := 6) hx hb hts in_X3_follow_X2 hown hK hP (hsp) rfl 4 (by decide) (hts (.fieldLink RX3 206 "OctagonDesk$Step" "b" "I") (by decide +kernel)) (fun _ h9 => h9) rfl dX3_follow_32 ?_
    refine lv_aload_n hx hb dX3_follow_35 rfl (lv_at hl 2 rfl) ?_
    refine mw_get (C := RX2) (T := TX2) (N := 6) hx hb hts in_X3_follow_X2 hown hK hP (hsp) rfl 5 (by decide) (hts (.fieldLink RX3 209 "OctagonDesk$Step" "c" "I") (by decide +kernel)) (fun _ h9 => h9) rfl dX3_follow_36 ?_
    refine kc_v (va_runV (As := [.ref (sa (14 + p9)), .int (nI 1), .int (nI na9), .int (nI nb9), .int c9]) (rest := []) ⟨hx, hb, hml, hown, hts⟩ (c_X1_makeFrom_1 l G B (μ) (sa 22) (na 22) (la 22) k (bE 22) (F 22) (sa (14 + p9)) (na (14 + p9)) (la (14 + p9)) (bE (14 + p9)) (F (14 + p9)) na9 nb9 c9 ((hD.2.2.2.2.1.1 22 (by omega)).1.1) ((hD.2.2.2.2.1.1 22 (by omega)).1.2.1) ((hD.2.2.2.2.1.1 22 (by omega)).1.2.2) ((hD.2.2.2.2.1.1 (14 + p9) (by omega)).1.1) ((hD.2.2.2.2.1.1 (14 + p9) (by omega)).1.2.1) ((hD.2.2.2.2.1.1 (14 + p9) (by omega)).1.2.2) (by omega) (by omega) (by omega) (((hD.2.2.2.2.1.2 22 (14 + p9) (by omega) (by omega) (by omega)).2.2)) (((hD.2.2.2.2.1.2 22 (14 + p9) (by omega) (by omega) (by omega)).1)) (by omega) (by omega)) (cwV 5 hts gX3_follow_X1_makeFrom rfl rfl rfl (by decide +kernel) ⟨Nat.le_of_ble_eq_true rfl, Nat.le_of_ble_eq_true rfl⟩) ⟨KW.blind, hP.recv hK rfl ((hD.2.2.2.2.1.1 22 (by omega)).1.1), fun U9 hU9 hW9 => ⟨rfl, KW.pre hBs hKK hS hP U9 hU9 hW9⟩⟩ rfl rfl hl.1 rfl (lv_room (Nat.le_of_ble_eq_true rfl)) dX3_follow_39 ⟨(Nat.le_trans (m := 23 * (511 - k)) (by omega) (Nat.le_refl _)), (Nat.le_trans (m := 7268 * (511 - k)) (by omega) (Nat.le_refl _))⟩) hS (fun m39 H locs hq9 hP hz9 hS => ?_)
    obtain ⟨g39, b39, rfl, hb39, hg39⟩ := hq9
    have hP : mw G.1 vwCl B (mu (mu μ (sa 22) (.inr (1, [.ref (na 22), .int (nI b39)]))) (la 22) (.inl (G.2 0, 158 * k + 158, .inr (.inl g39)))) _ := mw_eq (congrArg (fun z => mu z (la 22) (.inl (G.2 0, 158 * k + 158, .inr (.inl g39)))) (rfl)) hP
    refine lv_aload_n hx hb dX3_follow_42 rfl (lv_at hl 1 rfl) ?_
    refine lv_aload_n hx hb dX3_follow_43 rfl (lv_at hl 1 rfl) ?_
    refine mw_get (C := RX3) (T := TX3) (N := 7) hx hb hts in_X3_follow_X3 hown hK hP ((mu_n ((mp_ne hD.1 ((hD.2.2.2.2.1.1 22 (by omega)).1.2.2) (by simp)))).trans ((mu_n ((mp_ne hD.1 ((hD.2.2.2.2.1.1 22 (by omega)).1.1) (by simp)))).trans (hD.1))) rfl 1 (by decide) (hts (.fieldLink RX3 29 "OctagonDesk" "made" "LOctagonDesk$Shape;") (by decide +kernel)) (fun _ h9 => h9) rfl dX3_follow_44 ?_
    have hDx47 : DK G (mu (mu μ (sa 22) (.inr (1, [.ref (na 22), .int (nI b39)]))) (la 22) (.inl (G.2 0, 158 * k + 158, .inr (.inl g39)))) d aS aL aR aT aO k sc sa na la (va_up bE 22 b39) (va_up F 22 g39) fS fL fR fT sp fO := hD.sh (by omega) (by omega)
    have hRx47 : DQ μ (mu (mu μ (sa 22) (.inr (1, [.ref (na 22), .int (nI b39)]))) (la 22) (.inl (G.2 0, 158 * k + 158, .inr (.inl g39)))) d aO sa na la la := DQ.sh (by omega)
    obtain ⟨μ47, em47⟩ : ∃ x9 : mp, x9 = mu (mu μ (sa 22) (.inr (1, [.ref (na 22), .int (nI b39)]))) (la 22) (.inl (G.2 0, 158 * k + 158, .inr (.inl g39))) := ⟨_, rfl⟩
    rw [← em47] at hP hDx47 hRx47
    refine kg_v (va_runV (As := [.ref (sa 22)]) (rest := []) ⟨hx, hb, hml, hown, hts⟩ (c_X3_makeRoomk l G B μ47 _ _ d aS aL aR aT aO k sc sa na la (va_up bE 22 b39) (va_up F 22 g39) fS fL fR fT sp fO 22 hDx47 (by omega) hkw) (cwV 1 hts gX3_follow_X3_makeRoom rfl rfl rfl (by decide +kernel) ⟨Nat.le_of_ble_eq_true rfl, Nat.le_of_ble_eq_true rfl⟩) ⟨KN.blind, hP.recv hK rfl (hDx47.1), fun U9 hU9 hW9 => ⟨rfl, KW.pre hBs hKK hS hP U9 hU9 hW9, by rw [hU9], by rw [hU9]⟩⟩ rfl rfl hl.1 rfl (lv_room (Nat.le_of_ble_eq_true rfl)) dX3_follow_47 ⟨(Nat.le_trans (m := 23 * (511 - k)) (by omega) (Nat.le_refl _)), (Nat.le_trans (m := 7268 * (511 - k)) (by omega) (Nat.le_refl _))⟩) hS (fun m47 k47 H locs hq9 hP hz9 hS => ?_)
    obtain ⟨la47, F47, hD47, hR47, hkq47, hkw47⟩ := hq9
    have hk5_47 := hkw47.le
    have hkq_47 : k ≤ k47 := by omega
    have hR47 := hRx47.tr hR47
    have hb22_50 := hD47.b 22 (by omega)
    have hb_14___q9__50 := hD47.b (14 + q9) (by omega)
    refine lv_aload_n hx hb dX3_follow_50 rfl (lv_at hl 1 rfl) ?_
    refine mw_get (C := RX3) (T := TX3) (N := 7) hx hb hts in_X3_follow_X3 hown hK hP (hD47.1) rfl 1 (by decide) (hts (.fieldLink RX3 29 "OctagonDesk" "made" "LOctagonDesk$Shape;") (by decide +kernel)) (fun _ h9 => h9) rfl dX3_follow_51 ?_
    refine lv_aload_n hx hb dX3_follow_54 rfl (lv_at hl 0 rfl) ?_
    refine kc_i (va_runV (As := [.ref (sa (14 + q9))]) (rest := []) ⟨hx, hb, hml, hown, hts⟩ (c_X1_isWithin l G B (m47) (sa 22) (na 22) (la47 22) k47 ((va_up bE 22 b39) 22) (F47 22) (sa (14 + q9)) (na (14 + q9)) (la47 (14 + q9)) ((va_up bE 22 b39) (14 + q9)) (F47 (14 + q9))  ((hD47.2.2.2.2.1.1 22 (by omega)).1.1) ((hD47.2.2.2.2.1.1 22 (by omega)).1.2.1) ((hD47.2.2.2.2.1.1 22 (by omega)).1.2.2) ((hD47.2.2.2.2.1.1 (14 + q9) (by omega)).1.1) ((hD47.2.2.2.2.1.1 (14 + q9) (by omega)).1.2.1) ((hD47.2.2.2.2.1.1 (14 + q9) (by omega)).1.2.2) (by omega) (by omega) (by omega)) (cwV 1 hts gX3_follow_X1_isWithin rfl rfl rfl (by decide +kernel) ⟨Nat.le_of_ble_eq_true rfl, Nat.le_of_ble_eq_true rfl⟩) ⟨KW.blind, hP.recv hK rfl ((hD47.2.2.2.2.1.1 22 (by omega)).1.1), fun U9 hU9 hW9 => ⟨rfl, KW.pre hBs hKK hS hP U9 hU9 hW9⟩⟩ rfl rfl hl.1 rfl (lv_room (Nat.le_of_ble_eq_true rfl)) dX3_follow_55 ⟨(Nat.le_trans (m := 23 * (511 - k)) (by omega) (Nat.le_refl _)), (Nat.le_trans (m := 7268 * (511 - k)) (by omega) (Nat.le_refl _))⟩) hS (fun r55 m55 H locs hq9 hP hz9 hS => ?_)
    obtain ⟨he9, hbr55, hr55⟩ := hq9
    rw [he9] at hP
    refine lv_if_eq (tgt := 63) hx hb dX3_follow_58 (by decide) (fun hc58 => ?_) (fun hc58 => ?_)
    · refine lv_iload_n hx hb dX3_follow_63 rfl (lv_at hl 3 rfl) ?_
      refine lv_iconst (v := nI 4) hx hb dX3_follow_64 (by decide) ?_
      refine nv_icmp_lt (tgt := 95) hx hb (by omega) (by omega) dX3_follow_65 (by decide) (fun hc65 => ?_) (fun hc65 => ?_)
      · refine lv_aload_n hx hb dX3_follow_95 rfl (lv_at hl 0 rfl) ?_
        refine lv_aload_n hx hb dX3_follow_96 rfl (lv_at hl 1 rfl) ?_
        refine mw_get (C := RX3) (T := TX3) (N := 7) hx hb hts in_X3_follow_X3 hown hK hP (hD47.1) rfl 1 (by decide) (hts (.fieldLink RX3 29 "OctagonDesk" "made" "LOctagonDesk$Shape;") (by decide +kernel)) (fun _ h9 => h9) rfl dX3_follow_97 ?_
        refine kc_v (va_runV (As := [.ref (sa 22)]) (rest := []) ⟨hx, hb, hml, hown, hts⟩ (c_X1_stretchOver l G B (m47) (sa (14 + q9)) (na (14 + q9)) (la47 (14 + q9)) k47 ((va_up bE 22 b39) (14 + q9)) (F47 (14 + q9)) (sa 22) (na 22) (la47 22) ((va_up bE 22 b39) 22) (F47 22)  ((hD47.2.2.2.2.1.1 (14 + q9) (by omega)).1.1) ((hD47.2.2.2.2.1.1 (14 + q9) (by omega)).1.2.1) ((hD47.2.2.2.2.1.1 (14 + q9) (by omega)).1.2.2) ((hD47.2.2.2.2.1.1 22 (by omega)).1.1) ((hD47.2.2.2.2.1.1 22 (by omega)).1.2.1) ((hD47.2.2.2.2.1.1 22 (by omega)).1.2.2) (by omega) (by omega) (by omega) (((hD47.2.2.2.2.1.2 (14 + q9) 22 (by omega) (by omega) (by omega)).2.2)) (((hD47.2.2.2.2.1.2 (14 + q9) 22 (by omega) (by omega) (by omega)).1))) (cwV 1 hts gX3_follow_X1_stretchOver rfl rfl rfl (by decide +kernel) ⟨Nat.le_of_ble_eq_true rfl, Nat.le_of_ble_eq_true rfl⟩) ⟨KW.blind, hP.recv hK rfl ((hD47.2.2.2.2.1.1 (14 + q9) (by omega)).1.1), fun U9 hU9 hW9 => ⟨rfl, KW.pre hBs hKK hS hP U9 hU9 hW9⟩⟩ rfl rfl hl.1 rfl (lv_room (Nat.le_of_ble_eq_true rfl)) dX3_follow_100 ⟨(Nat.le_trans (m := 23 * (511 - k)) (by omega) (Nat.le_refl _)), (Nat.le_trans (m := 7268 * (511 - k)) (by omega) (Nat.le_refl _))⟩) hS (fun m100 H locs hq9 hP hz9 hS => ?_)
        obtain ⟨g100, b100, rfl, hb100⟩ := hq9
        have hP : mw G.1 vwCl B (mu (mu m47 (sa (14 + q9)) (.inr (1, [.ref (na (14 + q9)), .int (nI b100)]))) (la47 (14 + q9)) (.inl (G.2 0, 158 * k47 + 158, .inr (.inl g100)))) _ := mw_eq (congrArg (fun z => mu z (la47 (14 + q9)) (.inl (G.2 0, 158 * k47 + 158, .inr (.inl g100)))) (rfl)) hP
        refine lv_iconst (v := nI 1) hx hb dX3_follow_103 (by decide) ?_
        refine Wknow (fun hw1 hw2 => ?_)
        rw [hQ]
        refine W.widen (k := 23 * (511 - k)) (n := 7268 * (511 - k)) (by omega) (by omega) ?_
        have hDx104 : DK G (mu (mu m47 (sa (14 + q9)) (.inr (1, [.ref (na (14 + q9)), .int (nI b100)]))) (la47 (14 + q9)) (.inl (G.2 0, 158 * k47 + 158, .inr (.inl g100)))) d aS aL aR aT aO k47 sc sa na la47 (va_up (va_up bE 22 b39) (14 + q9) b100) (va_up F47 (14 + q9) g100) fS fL fR fT sp fO := hD47.sh (by omega) (by omega)
        have hRx104 : DQ μ (mu (mu m47 (sa (14 + q9)) (.inr (1, [.ref (na (14 + q9)), .int (nI b100)]))) (la47 (14 + q9)) (.inl (G.2 0, 158 * k47 + 158, .inr (.inl g100)))) d aO sa na la la47 := hR47.tr (DQ.sh (by omega))
        obtain ⟨μ104, em104⟩ : ∃ x9 : mp, x9 = mu (mu m47 (sa (14 + q9)) (.inr (1, [.ref (na (14 + q9)), .int (nI b100)]))) (la47 (14 + q9)) (.inl (G.2 0, 158 * k47 + 158, .inr (.inl g100))) := ⟨_, rfl⟩
        rw [← em104] at hP hDx104 hRx104
        exact W.zret (v := nI 1) (ty := .boolean) hx hb hr (by first | rfl | decide) (fun t99 ht99 hW99 => ⟨⟨nI 1, (μ104, k47), rfl, (⟨Or.inr rfl, _, _, _, hDx104, hRx104, by omega, hkw47⟩), by show mw _ _ _ _ t99.heap; rw [ht99]; exact hP, by show t99.heap.size ≤ N9 + (0 + 23 * (k47 - k)); rw [ht99]; omega, by show tot t99.heap ≤ T9 + (0 + 7268 * (k47 - k)); rw [ht99]; omega⟩, hS.F ht99⟩) hS.2.2 dX3_follow_104
      · refine lv_aload_n hx hb dX3_follow_68 rfl (lv_at hl 2 rfl) ?_
        refine mw_get (C := RX2) (T := TX2) (N := 6) hx hb hts in_X3_follow_X2 hown hK hP ((hR47.spc hD hsp)) rfl 1 (by decide) (hts (.fieldLink RX3 194 "OctagonDesk$Step" "to" "I") (by decide +kernel)) (fun _ h9 => h9) rfl dX3_follow_69 ?_
        refine lv_aload_n hx hb dX3_follow_72 rfl (lv_at hl 2 rfl) ?_
        refine mw_get (C := RX2) (T := TX2) (N := 6) hx hb hts in_X3_follow_X2 hown hK hP ((hR47.spc hD hsp)) rfl 0 (by decide) (hts (.fieldLink RX3 197 "OctagonDesk$Step" "from" "I") (by decide +kernel)) (fun _ h9 => h9) rfl dX3_follow_73 ?_
        refine nv_icmp_gt (tgt := 95) hx hb (by omega) (by omega) dX3_follow_76 (by decide) (fun hc76 => ?_) (fun hc76 => ?_)
        · refine lv_aload_n hx hb dX3_follow_95 rfl (lv_at hl 0 rfl) ?_
          refine lv_aload_n hx hb dX3_follow_96 rfl (lv_at hl 1 rfl) ?_
          refine mw_get (C := RX3) (T := TX3) (N := 7) hx hb hts in_X3_follow_X3 hown hK hP (hD47.1) rfl 1 (by decide) (hts (.fieldLink RX3 29 "OctagonDesk" "made" "LOctagonDesk$Shape;") (by decide +kernel)) (fun _ h9 => h9) rfl dX3_follow_97 ?_
          refine kc_v (va_runV (As := [.ref (sa 22)]) (rest := []) ⟨hx, hb, hml, hown, hts⟩ (c_X1_stretchOver l G B (m47) (sa (14 + q9)) (na (14 + q9)) (la47 (14 + q9)) k47 ((va_up bE 22 b39) (14 + q9)) (F47 (14 + q9)) (sa 22) (na 22) (la47 22) ((va_up bE 22 b39) 22) (F47 22)  ((hD47.2.2.2.2.1.1 (14 + q9) (by omega)).1.1) ((hD47.2.2.2.2.1.1 (14 + q9) (by omega)).1.2.1) ((hD47.2.2.2.2.1.1 (14 + q9) (by omega)).1.2.2) ((hD47.2.2.2.2.1.1 22 (by omega)).1.1) ((hD47.2.2.2.2.1.1 22 (by omega)).1.2.1) ((hD47.2.2.2.2.1.1 22 (by omega)).1.2.2) (by omega) (by omega) (by omega) (((hD47.2.2.2.2.1.2 (14 + q9) 22 (by omega) (by omega) (by omega)).2.2)) (((hD47.2.2.2.2.1.2 (14 + q9) 22 (by omega) (by omega) (by omega)).1))) (cwV 1 hts gX3_follow_X1_stretchOver rfl rfl rfl (by decide +kernel) ⟨Nat.le_of_ble_eq_true rfl, Nat.le_of_ble_eq_true rfl⟩) ⟨KW.blind, hP.recv hK rfl ((hD47.2.2.2.2.1.1 (14 + q9) (by omega)).1.1), fun U9 hU9 hW9 => ⟨rfl, KW.pre hBs hKK hS hP U9 hU9 hW9⟩⟩ rfl rfl hl.1 rfl (lv_room (Nat.le_of_ble_eq_true rfl)) dX3_follow_100 ⟨(Nat.le_trans (m := 23 * (511 - k)) (by omega) (Nat.le_refl _)), (Nat.le_trans (m := 7268 * (511 - k)) (by omega) (Nat.le_refl _))⟩) hS (fun m100 H locs hq9 hP hz9 hS => ?_)
          obtain ⟨g100, b100, rfl, hb100⟩ := hq9
          have hP : mw G.1 vwCl B (mu (mu m47 (sa (14 + q9)) (.inr (1, [.ref (na (14 + q9)), .int (nI b100)]))) (la47 (14 + q9)) (.inl (G.2 0, 158 * k47 + 158, .inr (.inl g100)))) _ := mw_eq (congrArg (fun z => mu z (la47 (14 + q9)) (.inl (G.2 0, 158 * k47 + 158, .inr (.inl g100)))) (rfl)) hP
          refine lv_iconst (v := nI 1) hx hb dX3_follow_103 (by decide) ?_
          refine Wknow (fun hw1 hw2 => ?_)
          rw [hQ]
          refine W.widen (k := 23 * (511 - k)) (n := 7268 * (511 - k)) (by omega) (by omega) ?_
          have hDx104 : DK G (mu (mu m47 (sa (14 + q9)) (.inr (1, [.ref (na (14 + q9)), .int (nI b100)]))) (la47 (14 + q9)) (.inl (G.2 0, 158 * k47 + 158, .inr (.inl g100)))) d aS aL aR aT aO k47 sc sa na la47 (va_up (va_up bE 22 b39) (14 + q9) b100) (va_up F47 (14 + q9) g100) fS fL fR fT sp fO := hD47.sh (by omega) (by omega)
          have hRx104 : DQ μ (mu (mu m47 (sa (14 + q9)) (.inr (1, [.ref (na (14 + q9)), .int (nI b100)]))) (la47 (14 + q9)) (.inl (G.2 0, 158 * k47 + 158, .inr (.inl g100)))) d aO sa na la la47 := hR47.tr (DQ.sh (by omega))
          obtain ⟨μ104, em104⟩ : ∃ x9 : mp, x9 = mu (mu m47 (sa (14 + q9)) (.inr (1, [.ref (na (14 + q9)), .int (nI b100)]))) (la47 (14 + q9)) (.inl (G.2 0, 158 * k47 + 158, .inr (.inl g100))) := ⟨_, rfl⟩
          rw [← em104] at hP hDx104 hRx104
          exact W.zret (v := nI 1) (ty := .boolean) hx hb hr (by first | rfl | decide) (fun t99 ht99 hW99 => ⟨⟨nI 1, (μ104, k47), rfl, (⟨Or.inr rfl, _, _, _, hDx104, hRx104, by omega, hkw47⟩), by show mw _ _ _ _ t99.heap; rw [ht99]; exact hP, by show t99.heap.size ≤ N9 + (0 + 23 * (k47 - k)); rw [ht99]; omega, by show tot t99.heap ≤ T9 + (0 + 7268 * (k47 - k)); rw [ht99]; omega⟩, hS.F ht99⟩) hS.2.2 dX3_follow_104
        · refine lv_aload_n hx hb dX3_follow_79 rfl (lv_at hl 0 rfl) ?_
          refine lv_aload_n hx hb dX3_follow_80 rfl (lv_at hl 1 rfl) ?_
          refine mw_get (C := RX3) (T := TX3) (N := 7) hx hb hts in_X3_follow_X3 hown hK hP (hD47.1) rfl 1 (by decide) (hts (.fieldLink RX3 29 "OctagonDesk" "made" "LOctagonDesk$Shape;") (by decide +kernel)) (fun _ h9 => h9) rfl dX3_follow_81 ?_
          refine kc_v (va_runV (As := [.ref (sa 22)]) (rest := []) ⟨hx, hb, hml, hown, hts⟩ (c_X1_loosenBy l G B (m47) (sa (14 + q9)) (na (14 + q9)) (la47 (14 + q9)) k47 ((va_up bE 22 b39) (14 + q9)) (F47 (14 + q9)) (sa 22) (na 22) (la47 22) ((va_up bE 22 b39) 22) (F47 22)  ((hD47.2.2.2.2.1.1 (14 + q9) (by omega)).1.1) ((hD47.2.2.2.2.1.1 (14 + q9) (by omega)).1.2.1) ((hD47.2.2.2.2.1.1 (14 + q9) (by omega)).1.2.2) ((hD47.2.2.2.2.1.1 22 (by omega)).1.1) ((hD47.2.2.2.2.1.1 22 (by omega)).1.2.1) ((hD47.2.2.2.2.1.1 22 (by omega)).1.2.2) (by omega) (by omega) (by omega) (((hD47.2.2.2.2.1.2 (14 + q9) 22 (by omega) (by omega) (by omega)).2.2)) (((hD47.2.2.2.2.1.2 (14 + q9) 22 (by omega) (by omega) (by omega)).1))) (cwV 1 hts gX3_follow_X1_loosenBy rfl rfl rfl (by decide +kernel) ⟨Nat.le_of_ble_eq_true rfl, Nat.le_of_ble_eq_true rfl⟩) ⟨KW.blind, hP.recv hK rfl ((hD47.2.2.2.2.1.1 (14 + q9) (by omega)).1.1), fun U9 hU9 hW9 => ⟨rfl, KW.pre hBs hKK hS hP U9 hU9 hW9⟩⟩ rfl rfl hl.1 rfl (lv_room (Nat.le_of_ble_eq_true rfl)) dX3_follow_84 ⟨(Nat.le_trans (m := 23 * (511 - k)) (by omega) (Nat.le_refl _)), (Nat.le_trans (m := 7268 * (511 - k)) (by omega) (Nat.le_refl _))⟩) hS (fun m84 H locs hq9 hP hz9 hS => ?_)
          obtain ⟨g84, b84, rfl, hb84⟩ := hq9
          have hP : mw G.1 vwCl B (mu (mu m47 (sa (14 + q9)) (.inr (1, [.ref (na (14 + q9)), .int (nI b84)]))) (la47 (14 + q9)) (.inl (G.2 0, 158 * k47 + 158, .inr (.inl g84)))) _ := mw_eq (congrArg (fun z => mu z (la47 (14 + q9)) (.inl (G.2 0, 158 * k47 + 158, .inr (.inl g84)))) (rfl)) hP
          refine lv_aload_n hx hb dX3_follow_87 rfl (lv_at hl 1 rfl) ?_
          refine lv_aload_n hx hb dX3_follow_88 rfl (lv_at hl 0 rfl) ?_
          have hDx89 : DK G (mu (mu m47 (sa (14 + q9)) (.inr (1, [.ref (na (14 + q9)), .int (nI b84)]))) (la47 (14 + q9)) (.inl (G.2 0, 158 * k47 + 158, .inr (.inl g84)))) d aS aL aR aT aO k47 sc sa na la47 (va_up (va_up bE 22 b39) (14 + q9) b84) (va_up F47 (14 + q9) g84) fS fL fR fT sp fO := hD47.sh (by omega) (by omega)
          have hRx89 : DQ μ (mu (mu m47 (sa (14 + q9)) (.inr (1, [.ref (na (14 + q9)), .int (nI b84)]))) (la47 (14 + q9)) (.inl (G.2 0, 158 * k47 + 158, .inr (.inl g84)))) d aO sa na la la47 := hR47.tr (DQ.sh (by omega))
          obtain ⟨μ89, em89⟩ : ∃ x9 : mp, x9 = mu (mu m47 (sa (14 + q9)) (.inr (1, [.ref (na (14 + q9)), .int (nI b84)]))) (la47 (14 + q9)) (.inl (G.2 0, 158 * k47 + 158, .inr (.inl g84))) := ⟨_, rfl⟩
          rw [← em89] at hP hDx89 hRx89
          refine kg_v (va_runV (As := [.ref (sa (14 + q9))]) (rest := []) ⟨hx, hb, hml, hown, hts⟩ (c_X3_makeRoomk l G B μ89 _ _ d aS aL aR aT aO k47 sc sa na la47 (va_up (va_up bE 22 b39) (14 + q9) b84) (va_up F47 (14 + q9) g84) fS fL fR fT sp fO (14 + q9) hDx89 (by omega) hkw47) (cwV 1 hts gX3_follow_X3_makeRoom rfl rfl rfl (by decide +kernel) ⟨Nat.le_of_ble_eq_true rfl, Nat.le_of_ble_eq_true rfl⟩) ⟨KN.blind, hP.recv hK rfl (hDx89.1), fun U9 hU9 hW9 => ⟨rfl, KW.pre hBs hKK hS hP U9 hU9 hW9, by rw [hU9], by rw [hU9]⟩⟩ rfl rfl hl.1 rfl (lv_room (Nat.le_of_ble_eq_true rfl)) dX3_follow_89 ⟨(Nat.le_trans (m := 23 * (511 - k)) (by omega) (Nat.le_refl _)), (Nat.le_trans (m := 7268 * (511 - k)) (by omega) (Nat.le_refl _))⟩) hS (fun m89 k89 H locs hq9 hP hz9 hS => ?_)
          obtain ⟨la89, F89, hD89, hR89, hkq89, hkw89⟩ := hq9
          have hk5_89 := hkw89.le
          have hkq_89 : k47 ≤ k89 := by omega
          have hR89 := hRx89.tr hR89
          refine lv_goto (tgt := 103) hx hb dX3_follow_92 (by decide) ?_
          refine lv_iconst (v := nI 1) hx hb dX3_follow_103 (by decide) ?_
          refine Wknow (fun hw1 hw2 => ?_)
          rw [hQ]
          refine W.widen (k := 23 * (511 - k)) (n := 7268 * (511 - k)) (by omega) (by omega) ?_
          exact W.zret (v := nI 1) (ty := .boolean) hx hb hr (by first | rfl | decide) (fun t99 ht99 hW99 => ⟨⟨nI 1, (m89, k89), rfl, (⟨Or.inr rfl, _, _, _, hD89, hR89, by omega, hkw89⟩), by show mw _ _ _ _ t99.heap; rw [ht99]; exact hP, by show t99.heap.size ≤ N9 + (0 + 23 * (k89 - k)); rw [ht99]; omega, by show tot t99.heap ≤ T9 + (0 + 7268 * (k89 - k)); rw [ht99]; omega⟩, hS.F ht99⟩) hS.2.2 dX3_follow_104
    · refine lv_iconst (v := nI 0) hx hb dX3_follow_61 (by decide) ?_
      refine Wknow (fun hw1 hw2 => ?_)
      rw [hQ]
      refine W.widen (k := 23 * (511 - k)) (n := 7268 * (511 - k)) (by omega) (by omega) ?_
      exact W.zret (v := nI 0) (ty := .boolean) hx hb hr (by first | rfl | decide) (fun t99 ht99 hW99 => ⟨⟨nI 0, (m47, k47), rfl, (⟨Or.inl rfl, _, _, _, hD47, hR47, by omega, hkw47⟩), by show mw _ _ _ _ t99.heap; rw [ht99]; exact hP, by show t99.heap.size ≤ N9 + (0 + 23 * (k47 - k)); rw [ht99]; omega, by show tot t99.heap ≤ T9 + (0 + 7268 * (k47 - k)); rw [ht99]; omega⟩, hS.F ht99⟩) hS.2.2 dX3_follow_62
  · replace ek9 : kd = nI 2 := ek9.trans (by decide)
    subst ek9
    obtain ⟨na9, hna9, ena9⟩ := ok_nat (n := 6) (by decide) hp1
    subst ena9
    have hb22_0 := hD.b 22 (by omega)
    have hb_14___p9__0 := hD.b (14 + p9) (by omega)
    have hb_14___q9__0 := hD.b (14 + q9) (by omega)
    refine lv_aload_n hx hb dX3_follow_0 rfl (lv_at hl 0 rfl) ?_
    refine mw_get (C := RX3) (T := TX3) (N := 7) hx hb hts in_X3_follow_X3 hown hK hP (hD.1) rfl 6 (by decide) (hts (.fieldLink RX3 25 "OctagonDesk" "reached" "[LOctagonDesk$Shape;") (by decide +kernel)) (fun _ h9 => h9) rfl dX3_follow_1 ?_
    refine lv_aload_n hx hb dX3_follow_4 rfl (lv_at hl 1 rfl) ?_
    refine mw_get (C := RX2) (T := TX2) (N := 6) hx hb hts in_X3_follow_X2 hown hK hP (hsp) rfl 1 (by decide) (hts (.fieldLink RX3 194 "OctagonDesk$Step" "to" "I") (by decide +kernel)) (fun _ h9 => h9) rfl dX3_follow_5 ?_
    refine mw_aldq hx hb hK hP 3 (hD.2.1.2.2.1) rfl (by omega) (by omega) (hD.2.1.2.2.2.2.2.2 q9 (by omega)) dX3_follow_8 ?_
    refine lv_astore_n (lv' := [(3, .ref (sa (14 + q9))), (0, .ref d), (1, .ref (sp j9)), (2, .int (nI rn))]) hx hb dX3_follow_9 rfl hl (by decide) rfl (fun ls hl => ?_)
    refine lv_aload_n hx hb dX3_follow_10 rfl (lv_at hl 1 rfl) ?_
    refine mw_get (C := RX3) (T := TX3) (N := 7) hx hb hts in_X3_follow_X3 hown hK hP (hD.1) rfl 1 (by decide) (hts (.fieldLink RX3 29 "OctagonDesk" "made" "LOctagonDesk$Shape;") (by decide +kernel)) (fun _ h9 => h9) rfl dX3_follow_11 ?_
    refine lv_aload_n hx hb dX3_follow_14 rfl (lv_at hl 1 rfl) ?_
    refine mw_get (C := RX3) (T := TX3) (N := 7) hx hb hts in_X3_follow_X3 hown hK hP (hD.1) rfl 6 (by decide) (hts (.fieldLink RX3 25 "OctagonDesk" "reached" "[LOctagonDesk$Shape;") (by decide +kernel)) (fun _ h9 => h9) rfl dX3_follow_15 ?_
    refine lv_aload_n hx hb dX3_follow_18 rfl (lv_at hl 2 rfl) ?_
    refine mw_get (C := RX2) (T := TX2) (N := 6) hx hb hts in_X3_follow_X2 hown hK hP (hsp) rfl 0 (by decide) (hts (.fieldLink RX3 197 "OctagonDesk$Step" "from" "I") (by decide +kernel)) (fun _ h9 => h9) rfl dX3_follow_19 ?_
    refine mw_aldq hx hb hK hP 3 (hD.2.1.2.2.1) rfl (by omega) (by omega) (hD.2.1.2.2.2.2.2.2 p9 (by omega)) dX3_follow_22 ?_
    refine lv_aload_n hx hb dX3_follow_23 rfl (lv_at hl 2 rfl) ?_
    refine mw_get (C := RX2) (T := TX2) (N := 6) hx hb hts in_X3_follow_X2 hown hK hP (hsp) rfl 2 (by decide) (hts (.fieldLink RX3 200 "OctagonDesk$Step" "kind" "I") (by decide +kernel)) (fun _ h9 => h9) rfl dX3_follow_24 ?_
    refine lv_aload_n hx hb dX3_follow_27 rfl (lv_at hl 2 rfl) ?_
    refine mw_get (C := RX2) (T := TX2) (N := 6) hx hb hts in_X3_follow_X2 hown hK hP (hsp) rfl 3 (by decide) (hts (.fieldLink RX3 203 "OctagonDesk$Step" "a" "I") (by decide +kernel)) (fun _ h9 => h9) rfl dX3_follow_28 ?_
    refine lv_aload_n hx hb dX3_follow_31 rfl (lv_at hl 2 rfl) ?_
    refine mw_get (C := RX2) (T := TX2) (N := 6) hx hb hts in_X3_follow_X2 hown hK hP (hsp) rfl 4 (by decide) (hts (.fieldLink RX3 206 "OctagonDesk$Step" "b" "I") (by decide +kernel)) (fun _ h9 => h9) rfl dX3_follow_32 ?_
    refine lv_aload_n hx hb dX3_follow_35 rfl (lv_at hl 2 rfl) ?_
    refine mw_get (C := RX2) (T := TX2) (N := 6) hx hb hts in_X3_follow_X2 hown hK hP (hsp) rfl 5 (by decide) (hts (.fieldLink RX3 209 "OctagonDesk$Step" "c" "I") (by decide +kernel)) (fun _ h9 => h9) rfl dX3_follow_36 ?_
    refine kc_v (va_runV (As := [.ref (sa (14 + p9)), .int (nI 2), .int (nI na9), .int b9, .int c9]) (rest := []) ⟨hx, hb, hml, hown, hts⟩ (c_X1_makeFrom_2 l G B (μ) (sa 22) (na 22) (la 22) k (bE 22) (F 22) (sa (14 + p9)) (na (14 + p9)) (la (14 + p9)) (bE (14 + p9)) (F (14 + p9)) na9 b9 c9 ((hD.2.2.2.2.1.1 22 (by omega)).1.1) ((hD.2.2.2.2.1.1 22 (by omega)).1.2.1) ((hD.2.2.2.2.1.1 22 (by omega)).1.2.2) ((hD.2.2.2.2.1.1 (14 + p9) (by omega)).1.1) ((hD.2.2.2.2.1.1 (14 + p9) (by omega)).1.2.1) ((hD.2.2.2.2.1.1 (14 + p9) (by omega)).1.2.2) (by omega) (by omega) (by omega) (((hD.2.2.2.2.1.2 22 (14 + p9) (by omega) (by omega) (by omega)).2.2)) (((hD.2.2.2.2.1.2 22 (14 + p9) (by omega) (by omega) (by omega)).1)) (by omega)) (cwV 5 hts gX3_follow_X1_makeFrom rfl rfl rfl (by decide +kernel) ⟨Nat.le_of_ble_eq_true rfl, Nat.le_of_ble_eq_true rfl⟩) ⟨KW.blind, hP.recv hK rfl ((hD.2.2.2.2.1.1 22 (by omega)).1.1), fun U9 hU9 hW9 => ⟨rfl, KW.pre hBs hKK hS hP U9 hU9 hW9⟩⟩ rfl rfl hl.1 rfl (lv_room (Nat.le_of_ble_eq_true rfl)) dX3_follow_39 ⟨(Nat.le_trans (m := 23 * (511 - k)) (by omega) (Nat.le_refl _)), (Nat.le_trans (m := 7268 * (511 - k)) (by omega) (Nat.le_refl _))⟩) hS (fun m39 H locs hq9 hP hz9 hS => ?_)
    obtain ⟨g39, b39, rfl, hb39, hg39⟩ := hq9
    have hP : mw G.1 vwCl B (mu (mu μ (sa 22) (.inr (1, [.ref (na 22), .int (nI b39)]))) (la 22) (.inl (G.2 0, 158 * k + 158, .inr (.inl g39)))) _ := mw_eq (congrArg (fun z => mu z (la 22) (.inl (G.2 0, 158 * k + 158, .inr (.inl g39)))) (rfl)) hP
    refine lv_aload_n hx hb dX3_follow_42 rfl (lv_at hl 1 rfl) ?_
    refine lv_aload_n hx hb dX3_follow_43 rfl (lv_at hl 1 rfl) ?_
    refine mw_get (C := RX3) (T := TX3) (N := 7) hx hb hts in_X3_follow_X3 hown hK hP ((mu_n ((mp_ne hD.1 ((hD.2.2.2.2.1.1 22 (by omega)).1.2.2) (by simp)))).trans ((mu_n ((mp_ne hD.1 ((hD.2.2.2.2.1.1 22 (by omega)).1.1) (by simp)))).trans (hD.1))) rfl 1 (by decide) (hts (.fieldLink RX3 29 "OctagonDesk" "made" "LOctagonDesk$Shape;") (by decide +kernel)) (fun _ h9 => h9) rfl dX3_follow_44 ?_
    have hDx47 : DK G (mu (mu μ (sa 22) (.inr (1, [.ref (na 22), .int (nI b39)]))) (la 22) (.inl (G.2 0, 158 * k + 158, .inr (.inl g39)))) d aS aL aR aT aO k sc sa na la (va_up bE 22 b39) (va_up F 22 g39) fS fL fR fT sp fO := hD.sh (by omega) (by omega)
    have hRx47 : DQ μ (mu (mu μ (sa 22) (.inr (1, [.ref (na 22), .int (nI b39)]))) (la 22) (.inl (G.2 0, 158 * k + 158, .inr (.inl g39)))) d aO sa na la la := DQ.sh (by omega)
    obtain ⟨μ47, em47⟩ : ∃ x9 : mp, x9 = mu (mu μ (sa 22) (.inr (1, [.ref (na 22), .int (nI b39)]))) (la 22) (.inl (G.2 0, 158 * k + 158, .inr (.inl g39))) := ⟨_, rfl⟩
    rw [← em47] at hP hDx47 hRx47
    refine kg_v (va_runV (As := [.ref (sa 22)]) (rest := []) ⟨hx, hb, hml, hown, hts⟩ (c_X3_makeRoomk l G B μ47 _ _ d aS aL aR aT aO k sc sa na la (va_up bE 22 b39) (va_up F 22 g39) fS fL fR fT sp fO 22 hDx47 (by omega) hkw) (cwV 1 hts gX3_follow_X3_makeRoom rfl rfl rfl (by decide +kernel) ⟨Nat.le_of_ble_eq_true rfl, Nat.le_of_ble_eq_true rfl⟩) ⟨KN.blind, hP.recv hK rfl (hDx47.1), fun U9 hU9 hW9 => ⟨rfl, KW.pre hBs hKK hS hP U9 hU9 hW9, by rw [hU9], by rw [hU9]⟩⟩ rfl rfl hl.1 rfl (lv_room (Nat.le_of_ble_eq_true rfl)) dX3_follow_47 ⟨(Nat.le_trans (m := 23 * (511 - k)) (by omega) (Nat.le_refl _)), (Nat.le_trans (m := 7268 * (511 - k)) (by omega) (Nat.le_refl _))⟩) hS (fun m47 k47 H locs hq9 hP hz9 hS => ?_)
    obtain ⟨la47, F47, hD47, hR47, hkq47, hkw47⟩ := hq9
    have hk5_47 := hkw47.le
    have hkq_47 : k ≤ k47 := by omega
    have hR47 := hRx47.tr hR47
    have hb22_50 := hD47.b 22 (by omega)
    have hb_14___q9__50 := hD47.b (14 + q9) (by omega)
    refine lv_aload_n hx hb dX3_follow_50 rfl (lv_at hl 1 rfl) ?_
    refine mw_get (C := RX3) (T := TX3) (N := 7) hx hb hts in_X3_follow_X3 hown hK hP (hD47.1) rfl 1 (by decide) (hts (.fieldLink RX3 29 "OctagonDesk" "made" "LOctagonDesk$Shape;") (by decide +kernel)) (fun _ h9 => h9) rfl dX3_follow_51 ?_
    refine lv_aload_n hx hb dX3_follow_54 rfl (lv_at hl 0 rfl) ?_
    refine kc_i (va_runV (As := [.ref (sa (14 + q9))]) (rest := []) ⟨hx, hb, hml, hown, hts⟩ (c_X1_isWithin l G B (m47) (sa 22) (na 22) (la47 22) k47 ((va_up bE 22 b39) 22) (F47 22) (sa (14 + q9)) (na (14 + q9)) (la47 (14 + q9)) ((va_up bE 22 b39) (14 + q9)) (F47 (14 + q9))  ((hD47.2.2.2.2.1.1 22 (by omega)).1.1) ((hD47.2.2.2.2.1.1 22 (by omega)).1.2.1) ((hD47.2.2.2.2.1.1 22 (by omega)).1.2.2) ((hD47.2.2.2.2.1.1 (14 + q9) (by omega)).1.1) ((hD47.2.2.2.2.1.1 (14 + q9) (by omega)).1.2.1) ((hD47.2.2.2.2.1.1 (14 + q9) (by omega)).1.2.2) (by omega) (by omega) (by omega)) (cwV 1 hts gX3_follow_X1_isWithin rfl rfl rfl (by decide +kernel) ⟨Nat.le_of_ble_eq_true rfl, Nat.le_of_ble_eq_true rfl⟩) ⟨KW.blind, hP.recv hK rfl ((hD47.2.2.2.2.1.1 22 (by omega)).1.1), fun U9 hU9 hW9 => ⟨rfl, KW.pre hBs hKK hS hP U9 hU9 hW9⟩⟩ rfl rfl hl.1 rfl (lv_room (Nat.le_of_ble_eq_true rfl)) dX3_follow_55 ⟨(Nat.le_trans (m := 23 * (511 - k)) (by omega) (Nat.le_refl _)), (Nat.le_trans (m := 7268 * (511 - k)) (by omega) (Nat.le_refl _))⟩) hS (fun r55 m55 H locs hq9 hP hz9 hS => ?_)
    obtain ⟨he9, hbr55, hr55⟩ := hq9
    rw [he9] at hP
    refine lv_if_eq (tgt := 63) hx hb dX3_follow_58 (by decide) (fun hc58 => ?_) (fun hc58 => ?_)
    · refine lv_iload_n hx hb dX3_follow_63 rfl (lv_at hl 3 rfl) ?_
      refine lv_iconst (v := nI 4) hx hb dX3_follow_64 (by decide) ?_
      refine nv_icmp_lt (tgt := 95) hx hb (by omega) (by omega) dX3_follow_65 (by decide) (fun hc65 => ?_) (fun hc65 => ?_)
      · refine lv_aload_n hx hb dX3_follow_95 rfl (lv_at hl 0 rfl) ?_
        refine lv_aload_n hx hb dX3_follow_96 rfl (lv_at hl 1 rfl) ?_
        refine mw_get (C := RX3) (T := TX3) (N := 7) hx hb hts in_X3_follow_X3 hown hK hP (hD47.1) rfl 1 (by decide) (hts (.fieldLink RX3 29 "OctagonDesk" "made" "LOctagonDesk$Shape;") (by decide +kernel)) (fun _ h9 => h9) rfl dX3_follow_97 ?_
        refine kc_v (va_runV (As := [.ref (sa 22)]) (rest := []) ⟨hx, hb, hml, hown, hts⟩ (c_X1_stretchOver l G B (m47) (sa (14 + q9)) (na (14 + q9)) (la47 (14 + q9)) k47 ((va_up bE 22 b39) (14 + q9)) (F47 (14 + q9)) (sa 22) (na 22) (la47 22) ((va_up bE 22 b39) 22) (F47 22)  ((hD47.2.2.2.2.1.1 (14 + q9) (by omega)).1.1) ((hD47.2.2.2.2.1.1 (14 + q9) (by omega)).1.2.1) ((hD47.2.2.2.2.1.1 (14 + q9) (by omega)).1.2.2) ((hD47.2.2.2.2.1.1 22 (by omega)).1.1) ((hD47.2.2.2.2.1.1 22 (by omega)).1.2.1) ((hD47.2.2.2.2.1.1 22 (by omega)).1.2.2) (by omega) (by omega) (by omega) (((hD47.2.2.2.2.1.2 (14 + q9) 22 (by omega) (by omega) (by omega)).2.2)) (((hD47.2.2.2.2.1.2 (14 + q9) 22 (by omega) (by omega) (by omega)).1))) (cwV 1 hts gX3_follow_X1_stretchOver rfl rfl rfl (by decide +kernel) ⟨Nat.le_of_ble_eq_true rfl, Nat.le_of_ble_eq_true rfl⟩) ⟨KW.blind, hP.recv hK rfl ((hD47.2.2.2.2.1.1 (14 + q9) (by omega)).1.1), fun U9 hU9 hW9 => ⟨rfl, KW.pre hBs hKK hS hP U9 hU9 hW9⟩⟩ rfl rfl hl.1 rfl (lv_room (Nat.le_of_ble_eq_true rfl)) dX3_follow_100 ⟨(Nat.le_trans (m := 23 * (511 - k)) (by omega) (Nat.le_refl _)), (Nat.le_trans (m := 7268 * (511 - k)) (by omega) (Nat.le_refl _))⟩) hS (fun m100 H locs hq9 hP hz9 hS => ?_)
        obtain ⟨g100, b100, rfl, hb100⟩ := hq9
        have hP : mw G.1 vwCl B (mu (mu m47 (sa (14 + q9)) (.inr (1, [.ref (na (14 + q9)), .int (nI b100)]))) (la47 (14 + q9)) (.inl (G.2 0, 158 * k47 + 158, .inr (.inl g100)))) _ := mw_eq (congrArg (fun z => mu z (la47 (14 + q9)) (.inl (G.2 0, 158 * k47 + 158, .inr (.inl g100)))) (rfl)) hP
        refine lv_iconst (v := nI 1) hx hb dX3_follow_103 (by decide) ?_
        refine Wknow (fun hw1 hw2 => ?_)
        rw [hQ]
        refine W.widen (k := 23 * (511 - k)) (n := 7268 * (511 - k)) (by omega) (by omega) ?_
        have hDx104 : DK G (mu (mu m47 (sa (14 + q9)) (.inr (1, [.ref (na (14 + q9)), .int (nI b100)]))) (la47 (14 + q9)) (.inl (G.2 0, 158 * k47 + 158, .inr (.inl g100)))) d aS aL aR aT aO k47 sc sa na la47 (va_up (va_up bE 22 b39) (14 + q9) b100) (va_up F47 (14 + q9) g100) fS fL fR fT sp fO := hD47.sh (by omega) (by omega)
        have hRx104 : DQ μ (mu (mu m47 (sa (14 + q9)) (.inr (1, [.ref (na (14 + q9)), .int (nI b100)]))) (la47 (14 + q9)) (.inl (G.2 0, 158 * k47 + 158, .inr (.inl g100)))) d aO sa na la la47 := hR47.tr (DQ.sh (by omega))
        obtain ⟨μ104, em104⟩ : ∃ x9 : mp, x9 = mu (mu m47 (sa (14 + q9)) (.inr (1, [.ref (na (14 + q9)), .int (nI b100)]))) (la47 (14 + q9)) (.inl (G.2 0, 158 * k47 + 158, .inr (.inl g100))) := ⟨_, rfl⟩
        rw [← em104] at hP hDx104 hRx104
        exact W.zret (v := nI 1) (ty := .boolean) hx hb hr (by first | rfl | decide) (fun t99 ht99 hW99 => ⟨⟨nI 1, (μ104, k47), rfl, (⟨Or.inr rfl, _, _, _, hDx104, hRx104, by omega, hkw47⟩), by show mw _ _ _ _ t99.heap; rw [ht99]; exact hP, by show t99.heap.size ≤ N9 + (0 + 23 * (k47 - k)); rw [ht99]; omega, by show tot t99.heap ≤ T9 + (0 + 7268 * (k47 - k)); rw [ht99]; omega⟩, hS.F ht99⟩) hS.2.2 dX3_follow_104
      · refine lv_aload_n hx hb dX3_follow_68 rfl (lv_at hl 2 rfl) ?_
        refine mw_get (C := RX2) (T := TX2) (N := 6) hx hb hts in_X3_follow_X2 hown hK hP ((hR47.spc hD hsp)) rfl 1 (by decide) (hts (.fieldLink RX3 194 "OctagonDesk$Step" "to" "I") (by decide +kernel)) (fun _ h9 => h9) rfl dX3_follow_69 ?_
        refine lv_aload_n hx hb dX3_follow_72 rfl (lv_at hl 2 rfl) ?_
        refine mw_get (C := RX2) (T := TX2) (N := 6) hx hb hts in_X3_follow_X2 hown hK hP ((hR47.spc hD hsp)) rfl 0 (by decide) (hts (.fieldLink RX3 197 "OctagonDesk$Step" "from" "I") (by decide +kernel)) (fun _ h9 => h9) rfl dX3_follow_73 ?_
        refine nv_icmp_gt (tgt := 95) hx hb (by omega) (by omega) dX3_follow_76 (by decide) (fun hc76 => ?_) (fun hc76 => ?_)
        · refine lv_aload_n hx hb dX3_follow_95 rfl (lv_at hl 0 rfl) ?_
          refine lv_aload_n hx hb dX3_follow_96 rfl (lv_at hl 1 rfl) ?_
          refine mw_get (C := RX3) (T := TX3) (N := 7) hx hb hts in_X3_follow_X3 hown hK hP (hD47.1) rfl 1 (by decide) (hts (.fieldLink RX3 29 "OctagonDesk" "made" "LOctagonDesk$Shape;") (by decide +kernel)) (fun _ h9 => h9) rfl dX3_follow_97 ?_
          refine kc_v (va_runV (As := [.ref (sa 22)]) (rest := []) ⟨hx, hb, hml, hown, hts⟩ (c_X1_stretchOver l G B (m47) (sa (14 + q9)) (na (14 + q9)) (la47 (14 + q9)) k47 ((va_up bE 22 b39) (14 + q9)) (F47 (14 + q9)) (sa 22) (na 22) (la47 22) ((va_up bE 22 b39) 22) (F47 22)  ((hD47.2.2.2.2.1.1 (14 + q9) (by omega)).1.1) ((hD47.2.2.2.2.1.1 (14 + q9) (by omega)).1.2.1) ((hD47.2.2.2.2.1.1 (14 + q9) (by omega)).1.2.2) ((hD47.2.2.2.2.1.1 22 (by omega)).1.1) ((hD47.2.2.2.2.1.1 22 (by omega)).1.2.1) ((hD47.2.2.2.2.1.1 22 (by omega)).1.2.2) (by omega) (by omega) (by omega) (((hD47.2.2.2.2.1.2 (14 + q9) 22 (by omega) (by omega) (by omega)).2.2)) (((hD47.2.2.2.2.1.2 (14 + q9) 22 (by omega) (by omega) (by omega)).1))) (cwV 1 hts gX3_follow_X1_stretchOver rfl rfl rfl (by decide +kernel) ⟨Nat.le_of_ble_eq_true rfl, Nat.le_of_ble_eq_true rfl⟩) ⟨KW.blind, hP.recv hK rfl ((hD47.2.2.2.2.1.1 (14 + q9) (by omega)).1.1), fun U9 hU9 hW9 => ⟨rfl, KW.pre hBs hKK hS hP U9 hU9 hW9⟩⟩ rfl rfl hl.1 rfl (lv_room (Nat.le_of_ble_eq_true rfl)) dX3_follow_100 ⟨(Nat.le_trans (m := 23 * (511 - k)) (by omega) (Nat.le_refl _)), (Nat.le_trans (m := 7268 * (511 - k)) (by omega) (Nat.le_refl _))⟩) hS (fun m100 H locs hq9 hP hz9 hS => ?_)
          obtain ⟨g100, b100, rfl, hb100⟩ := hq9
          have hP : mw G.1 vwCl B (mu (mu m47 (sa (14 + q9)) (.inr (1, [.ref (na (14 + q9)), .int (nI b100)]))) (la47 (14 + q9)) (.inl (G.2 0, 158 * k47 + 158, .inr (.inl g100)))) _ := mw_eq (congrArg (fun z => mu z (la47 (14 + q9)) (.inl (G.2 0, 158 * k47 + 158, .inr (.inl g100)))) (rfl)) hP
          refine lv_iconst (v := nI 1) hx hb dX3_follow_103 (by decide) ?_
          refine Wknow (fun hw1 hw2 => ?_)
          rw [hQ]
          refine W.widen (k := 23 * (511 - k)) (n := 7268 * (511 - k)) (by omega) (by omega) ?_
          have hDx104 : DK G (mu (mu m47 (sa (14 + q9)) (.inr (1, [.ref (na (14 + q9)), .int (nI b100)]))) (la47 (14 + q9)) (.inl (G.2 0, 158 * k47 + 158, .inr (.inl g100)))) d aS aL aR aT aO k47 sc sa na la47 (va_up (va_up bE 22 b39) (14 + q9) b100) (va_up F47 (14 + q9) g100) fS fL fR fT sp fO := hD47.sh (by omega) (by omega)
          have hRx104 : DQ μ (mu (mu m47 (sa (14 + q9)) (.inr (1, [.ref (na (14 + q9)), .int (nI b100)]))) (la47 (14 + q9)) (.inl (G.2 0, 158 * k47 + 158, .inr (.inl g100)))) d aO sa na la la47 := hR47.tr (DQ.sh (by omega))
          obtain ⟨μ104, em104⟩ : ∃ x9 : mp, x9 = mu (mu m47 (sa (14 + q9)) (.inr (1, [.ref (na (14 + q9)), .int (nI b100)]))) (la47 (14 + q9)) (.inl (G.2 0, 158 * k47 + 158, .inr (.inl g100))) := ⟨_, rfl⟩
          rw [← em104] at hP hDx104 hRx104
          exact W.zret (v := nI 1) (ty := .boolean) hx hb hr (by first | rfl | decide) (fun t99 ht99 hW99 => ⟨⟨nI 1, (μ104, k47), rfl, (⟨Or.inr rfl, _, _, _, hDx104, hRx104, by omega, hkw47⟩), by show mw _ _ _ _ t99.heap; rw [ht99]; exact hP, by show t99.heap.size ≤ N9 + (0 + 23 * (k47 - k)); rw [ht99]; omega, by show tot t99.heap ≤ T9 + (0 + 7268 * (k47 - k)); rw [ht99]; omega⟩, hS.F ht99⟩) hS.2.2 dX3_follow_104
        · refine lv_aload_n hx hb dX3_follow_79 rfl (lv_at hl 0 rfl) ?_
          refine lv_aload_n hx hb dX3_follow_80 rfl (lv_at hl 1 rfl) ?_
          refine mw_get (C := RX3) (T := TX3) (N := 7) hx hb hts in_X3_follow_X3 hown hK hP (hD47.1) rfl 1 (by decide) (hts (.fieldLink RX3 29 "OctagonDesk" "made" "LOctagonDesk$Shape;") (by decide +kernel)) (fun _ h9 => h9) rfl dX3_follow_81 ?_
          refine kc_v (va_runV (As := [.ref (sa 22)]) (rest := []) ⟨hx, hb, hml, hown, hts⟩ (c_X1_loosenBy l G B (m47) (sa (14 + q9)) (na (14 + q9)) (la47 (14 + q9)) k47 ((va_up bE 22 b39) (14 + q9)) (F47 (14 + q9)) (sa 22) (na 22) (la47 22) ((va_up bE 22 b39) 22) (F47 22)  ((hD47.2.2.2.2.1.1 (14 + q9) (by omega)).1.1) ((hD47.2.2.2.2.1.1 (14 + q9) (by omega)).1.2.1) ((hD47.2.2.2.2.1.1 (14 + q9) (by omega)).1.2.2) ((hD47.2.2.2.2.1.1 22 (by omega)).1.1) ((hD47.2.2.2.2.1.1 22 (by omega)).1.2.1) ((hD47.2.2.2.2.1.1 22 (by omega)).1.2.2) (by omega) (by omega) (by omega) (((hD47.2.2.2.2.1.2 (14 + q9) 22 (by omega) (by omega) (by omega)).2.2)) (((hD47.2.2.2.2.1.2 (14 + q9) 22 (by omega) (by omega) (by omega)).1))) (cwV 1 hts gX3_follow_X1_loosenBy rfl rfl rfl (by decide +kernel) ⟨Nat.le_of_ble_eq_true rfl, Nat.le_of_ble_eq_true rfl⟩) ⟨KW.blind, hP.recv hK rfl ((hD47.2.2.2.2.1.1 (14 + q9) (by omega)).1.1), fun U9 hU9 hW9 => ⟨rfl, KW.pre hBs hKK hS hP U9 hU9 hW9⟩⟩ rfl rfl hl.1 rfl (lv_room (Nat.le_of_ble_eq_true rfl)) dX3_follow_84 ⟨(Nat.le_trans (m := 23 * (511 - k)) (by omega) (Nat.le_refl _)), (Nat.le_trans (m := 7268 * (511 - k)) (by omega) (Nat.le_refl _))⟩) hS (fun m84 H locs hq9 hP hz9 hS => ?_)
          obtain ⟨g84, b84, rfl, hb84⟩ := hq9
          have hP : mw G.1 vwCl B (mu (mu m47 (sa (14 + q9)) (.inr (1, [.ref (na (14 + q9)), .int (nI b84)]))) (la47 (14 + q9)) (.inl (G.2 0, 158 * k47 + 158, .inr (.inl g84)))) _ := mw_eq (congrArg (fun z => mu z (la47 (14 + q9)) (.inl (G.2 0, 158 * k47 + 158, .inr (.inl g84)))) (rfl)) hP
          refine lv_aload_n hx hb dX3_follow_87 rfl (lv_at hl 1 rfl) ?_
          refine lv_aload_n hx hb dX3_follow_88 rfl (lv_at hl 0 rfl) ?_
          have hDx89 : DK G (mu (mu m47 (sa (14 + q9)) (.inr (1, [.ref (na (14 + q9)), .int (nI b84)]))) (la47 (14 + q9)) (.inl (G.2 0, 158 * k47 + 158, .inr (.inl g84)))) d aS aL aR aT aO k47 sc sa na la47 (va_up (va_up bE 22 b39) (14 + q9) b84) (va_up F47 (14 + q9) g84) fS fL fR fT sp fO := hD47.sh (by omega) (by omega)
          have hRx89 : DQ μ (mu (mu m47 (sa (14 + q9)) (.inr (1, [.ref (na (14 + q9)), .int (nI b84)]))) (la47 (14 + q9)) (.inl (G.2 0, 158 * k47 + 158, .inr (.inl g84)))) d aO sa na la la47 := hR47.tr (DQ.sh (by omega))
          obtain ⟨μ89, em89⟩ : ∃ x9 : mp, x9 = mu (mu m47 (sa (14 + q9)) (.inr (1, [.ref (na (14 + q9)), .int (nI b84)]))) (la47 (14 + q9)) (.inl (G.2 0, 158 * k47 + 158, .inr (.inl g84))) := ⟨_, rfl⟩
          rw [← em89] at hP hDx89 hRx89
          refine kg_v (va_runV (As := [.ref (sa (14 + q9))]) (rest := []) ⟨hx, hb, hml, hown, hts⟩ (c_X3_makeRoomk l G B μ89 _ _ d aS aL aR aT aO k47 sc sa na la47 (va_up (va_up bE 22 b39) (14 + q9) b84) (va_up F47 (14 + q9) g84) fS fL fR fT sp fO (14 + q9) hDx89 (by omega) hkw47) (cwV 1 hts gX3_follow_X3_makeRoom rfl rfl rfl (by decide +kernel) ⟨Nat.le_of_ble_eq_true rfl, Nat.le_of_ble_eq_true rfl⟩) ⟨KN.blind, hP.recv hK rfl (hDx89.1), fun U9 hU9 hW9 => ⟨rfl, KW.pre hBs hKK hS hP U9 hU9 hW9, by rw [hU9], by rw [hU9]⟩⟩ rfl rfl hl.1 rfl (lv_room (Nat.le_of_ble_eq_true rfl)) dX3_follow_89 ⟨(Nat.le_trans (m := 23 * (511 - k)) (by omega) (Nat.le_refl _)), (Nat.le_trans (m := 7268 * (511 - k)) (by omega) (Nat.le_refl _))⟩) hS (fun m89 k89 H locs hq9 hP hz9 hS => ?_)
          obtain ⟨la89, F89, hD89, hR89, hkq89, hkw89⟩ := hq9
          have hk5_89 := hkw89.le
          have hkq_89 : k47 ≤ k89 := by omega
          have hR89 := hRx89.tr hR89
          refine lv_goto (tgt := 103) hx hb dX3_follow_92 (by decide) ?_
          refine lv_iconst (v := nI 1) hx hb dX3_follow_103 (by decide) ?_
          refine Wknow (fun hw1 hw2 => ?_)
          rw [hQ]
          refine W.widen (k := 23 * (511 - k)) (n := 7268 * (511 - k)) (by omega) (by omega) ?_
          exact W.zret (v := nI 1) (ty := .boolean) hx hb hr (by first | rfl | decide) (fun t99 ht99 hW99 => ⟨⟨nI 1, (m89, k89), rfl, (⟨Or.inr rfl, _, _, _, hD89, hR89, by omega, hkw89⟩), by show mw _ _ _ _ t99.heap; rw [ht99]; exact hP, by show t99.heap.size ≤ N9 + (0 + 23 * (k89 - k)); rw [ht99]; omega, by show tot t99.heap ≤ T9 + (0 + 7268 * (k89 - k)); rw [ht99]; omega⟩, hS.F ht99⟩) hS.2.2 dX3_follow_104
    · refine lv_iconst (v := nI 0) hx hb dX3_follow_61 (by decide) ?_
      refine Wknow (fun hw1 hw2 => ?_)
      rw [hQ]
      refine W.widen (k := 23 * (511 - k)) (n := 7268 * (511 - k)) (by omega) (by omega) ?_
      exact W.zret (v := nI 0) (ty := .boolean) hx hb hr (by first | rfl | decide) (fun t99 ht99 hW99 => ⟨⟨nI 0, (m47, k47), rfl, (⟨Or.inl rfl, _, _, _, hD47, hR47, by omega, hkw47⟩), by show mw _ _ _ _ t99.heap; rw [ht99]; exact hP, by show t99.heap.size ≤ N9 + (0 + 23 * (k47 - k)); rw [ht99]; omega, by show tot t99.heap ≤ T9 + (0 + 7268 * (k47 - k)); rw [ht99]; omega⟩, hS.F ht99⟩) hS.2.2 dX3_follow_62

abbrev rg_X3_run (k : Nat) : Room := { frames := 7, cells := 5 + 23 * (511 - k), slots := 30 + 7268 * (511 - k), locals := 169 }
set_option maxHeartbeats 4000000 in
set_option maxRecDepth 100000 in
theorem g_X3_run (l : Launch) (hlt : l.stackTraces = false) (G : GG) (B : Nat) (μ : mp) (N9 T9 : Nat) (d k sc : Nat) (D : Nat → Prop) (x9 : Int32) (hG : DG G μ d k sc D) : vx_Met l yX3_run wsX3_run (rg_X3_run k) (va_Pc [.ref d, .int x9] (KXN G B N9 T9 μ)) (va_Qi (fun r9 (u9 : mp × Nat) => (fun r μ2 k2 => (DG G μ2 d k2 sc (DN2 D μ) ∧ FD D μ μ2) ∧ k ≤ k2) r9 u9.1 u9.2) (BG G B N9 T9 k 5 30) (fun q => B ≤ q)) (XN G B N9 T9 5 30 μ (fun E => E = exA)) (5 + 23 * (511 - k)) (30 + 7268 * (511 - k)) (fun q => B ≤ q) := by
  obtain ⟨aS, aL, aR, aT, aO, sa, na, la, bE, F, fS, fL, fR, fT, sp, fO, hD, hSV, hkw, hA⟩ := hG
  refine vx_ofW (cc := cX3_run) (maxL := 5) (ret := (some .int)) (by decide) rfl ?_
  intro p e s m args below meth c s₁ B9 hml hout hv
  obtain ⟨hargs, ⟨⟨hBs, hP, hKK⟩, hDc⟩, hN9, hT9⟩ := hv
  have hx := B9.exec
  have hb := B9.bytes
  have hr := B9.returns
  have hts := atoms_spec (ws := wsX3_run) B9.pre
  have hown : s.vm.findClass RX3 = some m.cls := findClass_of_methodNamed B9.named
  have hlocks := B9.notSynchronized
  have hK := hKK.k
  have hS : va_S (fun q => B ≤ q) s.heap s.heap [] := va_S.rf
  obtain ⟨Q, hQ⟩ : ∃ Q, Q = vx_MQ below (va_Qi (fun r9 (u9 : mp × Nat) => (fun r μ2 k2 => (DG G μ2 d k2 sc (DN2 D μ) ∧ FD D μ μ2) ∧ k ≤ k2) r9 u9.1 u9.2) (BG G B N9 T9 k 5 30) (fun q => B ≤ q)) (XN G B N9 T9 5 30 μ (fun E => E = exA)) args s (5 + 23 * (511 - k)) (30 + 7268 * (511 - k)) (fun q => B ≤ q) := ⟨_, rfl⟩
  rw [← hQ]
  have in_X3_run_X1 : ∀ w ∈ wsX10, w ∈ wsX3_run := by decide +kernel
  have in_X3_run_X3 : ∀ w ∈ wsX30, w ∈ wsX3_run := by decide +kernel
  have hk5 := hkw.le
  have L45 : ∀ (N45 : Nat) (rn : Nat) (μ1 : mp) (la1 : Nat → Nat) (bE1 : Nat → Nat) (k1 : Nat) (F1 : Nat → Nat → Int64) (hN45 : 31 - rn < N45) (hrn : rn ≤ 31) (hrn1 : 1 ≤ rn) (hD1 : DK G μ1 d aS aL aR aT aO k1 sc sa na la1 bE1 F1 fS fL fR fT sp fO) (hR1 : DQ μ μ1 d aO sa na la la1) (hkw1 : kw k1) (hkk1 : k ≤ k1), ∀ (H : Heap) (locs : List Loc), mw G.1 vwCl B (μ1) H → va_S (fun q => B ≤ q) s.heap H locs → ∀ ls : Array Slot, lv_has ls 5 [(0, .ref d), (2, .int (nI rn))] → W p l e (rg_X3_run k) s m args below meth c H locs (1 + 23 * (k1 - k)) (6 + 7268 * (k1 - k)) Q (F0 m 45 ls []) := by
    intro N45
    induction N45 with
    | zero => intro rn μ1 la1 bE1 k1 F1 hN45; exact absurd hN45 (Nat.not_lt_zero _)
    | succ N45 ih45 =>
      intro rn μ1 la1 bE1 k1 F1 hN45 hrn hrn1 hD1 hR1 hkw1 hkk1 H locs hP hS ls hl
      have L56 : ∀ (N56 : Nat) (i1 : Nat) (ch : Int32) (μ1 : mp) (la1 : Nat → Nat) (bE1 : Nat → Nat) (k1 : Nat) (F1 : Nat → Nat → Int64) (hN56 : sc - i1 < N56) (hi1 : i1 ≤ sc) (hrn30 : rn ≤ 30) (hD1 : DK G μ1 d aS aL aR aT aO k1 sc sa na la1 bE1 F1 fS fL fR fT sp fO) (hR1 : DQ μ μ1 d aO sa na la la1) (hkw1 : kw k1) (hkk1 : k ≤ k1), ∀ (H : Heap) (locs : List Loc), mw G.1 vwCl B (μ1) H → va_S (fun q => B ≤ q) s.heap H locs → ∀ ls : Array Slot, lv_has ls 5 [(0, .ref d), (2, .int (nI rn)), (3, .int ch), (4, .int (nI i1))] → W p l e (rg_X3_run k) s m args below meth c H locs (1 + 23 * (k1 - k)) (6 + 7268 * (k1 - k)) Q (F0 m 56 ls []) := by
        intro N56
        induction N56 with
        | zero => intro i1 ch μ1 la1 bE1 k1 F1 hN56; exact absurd hN56 (Nat.not_lt_zero _)
        | succ N56 ih56 =>
          intro i1 ch μ1 la1 bE1 k1 F1 hN56 hi1 hrn30 hD1 hR1 hkw1 hkk1 H locs hP hS ls hl
          have hk51 := hkw1.le
          have hsc1 := hD1.2.2.2.2.2
          refine lv_iload hx hb dX3_run_56 (lv_at hl 3 rfl) ?_
          refine lv_aload_n hx hb dX3_run_58 rfl (lv_at hl 0 rfl) ?_
          refine mw_get (C := RX3) (T := TX3) (N := 7) hx hb hts in_X3_run_X3 hown hK hP (hD1.1) rfl 4 (by decide) (hts (.fieldLink RX3 37 "OctagonDesk" "stepCount" "I") (by decide +kernel)) (fun _ h9 => h9) rfl dX3_run_59 ?_
          refine nv_icmp_ge (tgt := 86) hx hb (by omega) (by omega) dX3_run_62 (by decide) (fun hc62 => ?_) (fun hc62 => ?_)
          · refine lv_iload_n hx hb dX3_run_86 rfl (lv_at hl 2 rfl) ?_
            refine lv_if_ne (tgt := 96) hx hb dX3_run_87 (by decide) (fun hc87 => ?_) (fun hc87 => ?_)
            · refine lv_iinc (v := nI (rn + 1)) (lv' := [(2, .int (nI (rn + 1))), (0, .ref d), (3, .int ch), (4, .int (nI i1))]) hx hb dX3_run_96 hl (k := 1) rfl (nI_add _ _) (by decide) rfl (fun ls hl => ?_)
              refine lv_goto (tgt := 45) hx hb dX3_run_99 (by decide) ?_
              refine W.widen (k := 1 + 23 * (k1 - k)) (n := 6 + 7268 * (k1 - k)) (by omega) (by omega) ?_
              exact ih45 (rn + 1) μ1 la1 bE1 k1 F1 (by omega) (by omega) (by omega) (hD1) (hR1) (hkw1) (by omega) _ _ hP hS ls (lv_sub hl [1, 0] rfl)
            · refine lv_aload_n hx hb dX3_run_90 rfl (lv_at hl 0 rfl) ?_
              refine kc_v (va_runV (As := []) (rest := []) ⟨hx, hb, hml, hown, hts⟩ (g_X3_keepReached l G B μ1 d aS aL aR aT aO k1 sc sa na la1 bE1 F1 fS fL fR fT sp fO hD1) (cwV 0 hts gX3_run_X3_keepReached rfl rfl rfl (by decide +kernel) ⟨Nat.le_of_ble_eq_true rfl, Nat.le_of_ble_eq_true rfl⟩) ⟨KW.blind, hP.recv hK rfl (hD1.1), fun U9 hU9 hW9 => ⟨rfl, KW.pre hBs hKK hS hP U9 hU9 hW9⟩⟩ rfl rfl hl.1 rfl (lv_room (Nat.le_of_ble_eq_true rfl)) dX3_run_91 ⟨(Nat.le_trans (m := 5 + 23 * (511 - k)) (by omega) (Nat.le_refl _)), (Nat.le_trans (m := 30 + 7268 * (511 - k)) (by omega) (Nat.le_refl _))⟩) hS (fun m91 H locs hq9 hP hz9 hS => ?_)
              rw [hq9] at hP
              have hP : mw G.1 vwCl B (mu μ1 d (.inr (3, [.ref aS, .ref (sa 22), .ref aT, .ref aO, .int (nI sc), .ref aR, .ref aL]))) _ := hP
              refine lv_iload_n hx hb dX3_run_94 rfl (lv_at hl 1 rfl) ?_
              refine Wknow (fun hw1 hw2 => ?_)
              rw [hQ]
              refine vx_ret ?_
              refine W.widen (k := 5 + 23 * (511 - k)) (n := 30 + 7268 * (511 - k)) (by omega) (by omega) ?_
              exact W.iret (v := nI rn) hx hb hr (fun t99 ht99 hW99 => ⟨⟨nI rn, (mu μ1 d (.inr (3, [.ref aS, .ref (sa 22), .ref aT, .ref aO, .int (nI sc), .ref aR, .ref aL])), k1), rfl, (⟨DG.swap hA hSV hD hD1 hR1 hkw1, by omega⟩), by show mw _ _ _ _ t99.heap; rw [ht99]; exact hP, by show t99.heap.size ≤ N9 + (5 + 23 * (k1 - k)); rw [ht99]; omega, by show tot t99.heap ≤ T9 + (30 + 7268 * (k1 - k)); rw [ht99]; omega⟩, hS.F ht99⟩) hS.2.2 dX3_run_95
          · obtain ⟨pp, qq, kd, aa, bb, cc, hpp, hqq, hokk, hspp⟩ := hSV.1 i1 (by omega)
            refine lv_iload_n hx hb dX3_run_65 rfl (lv_at hl 2 rfl) ?_
            refine lv_aload_n hx hb dX3_run_66 rfl (lv_at hl 0 rfl) ?_
            refine lv_aload_n hx hb dX3_run_67 rfl (lv_at hl 0 rfl) ?_
            refine mw_get (C := RX3) (T := TX3) (N := 7) hx hb hts in_X3_run_X3 hown hK hP (hD1.1) rfl 2 (by decide) (hts (.fieldLink RX3 43 "OctagonDesk" "steps" "[LOctagonDesk$Step;") (by decide +kernel)) (fun _ h9 => h9) rfl dX3_run_68 ?_
            refine lv_iload hx hb dX3_run_71 (lv_at hl 3 rfl) ?_
            refine mw_aldq hx hb hK hP 4 (hD1.2.2.1) rfl (by omega) (by omega) ((hD1.2.2.2.1 i1 (by omega)).1) dX3_run_73 ?_
            refine lv_iload_n hx hb dX3_run_74 rfl (lv_at hl 1 rfl) ?_
            refine kg_i (va_runV (As := [.ref (sp i1), .int (nI rn)]) (rest := [.int ch]) ⟨hx, hb, hml, hown, hts⟩ (g_X3_follow l G B μ1 _ _ d aS aL aR aT aO k1 sc sa na la1 bE1 F1 fS fL fR fT sp fO i1 pp qq rn kd aa bb cc hD1 (by omega) hpp hqq hokk (hR1.spc hD hspp) hkw1 (by omega)) (cwV 2 hts gX3_run_X3_follow rfl rfl rfl (by decide +kernel) ⟨Nat.le_of_ble_eq_true rfl, Nat.le_of_ble_eq_true rfl⟩) ⟨KN.blind, hP.recv hK rfl (hD1.1), fun U9 hU9 hW9 => ⟨rfl, KW.pre hBs hKK hS hP U9 hU9 hW9, by rw [hU9], by rw [hU9]⟩⟩ rfl rfl hl.1 rfl (lv_room (Nat.le_of_ble_eq_true rfl)) dX3_run_75 ⟨(Nat.le_trans (m := 5 + 23 * (511 - k)) (by omega) (Nat.le_refl _)), (Nat.le_trans (m := 30 + 7268 * (511 - k)) (by omega) (Nat.le_refl _))⟩) hS (fun r75 m75 k75 H locs hq9 hP hz9 hS => ?_)
            obtain ⟨hbr75, la75, bE75, F75, hD75, hR75, hkq_75, hkw75⟩ := hq9
            have hk5_75 := hkw75.le
            have hR75 := hR1.tr hR75
            refine lv_ior hx hb dX3_run_78 ?_
            refine lv_topi (fun v79 ev79 => ?_)
            refine lv_istore_n (lv' := [(3, .int v79), (0, .ref d), (2, .int (nI rn)), (4, .int (nI i1))]) hx hb dX3_run_79 rfl hl (by decide) rfl (fun ls hl => ?_)
            refine lv_iinc (v := nI (i1 + 1)) (lv' := [(4, .int (nI (i1 + 1))), (3, .int v79), (0, .ref d), (2, .int (nI rn))]) hx hb dX3_run_80 hl (k := 3) rfl (nI_add _ _) (by decide) rfl (fun ls hl => ?_)
            refine lv_goto (tgt := 56) hx hb dX3_run_83 (by decide) ?_
            refine W.widen (k := 1 + 23 * (k75 - k)) (n := 6 + 7268 * (k75 - k)) (by omega) (by omega) ?_
            exact ih56 (i1 + 1) v79 m75 la75 bE75 k75 F75 (by omega) (by omega) (by omega) (hD75) (hR75) (hkw75) (by omega) _ _ hP hS ls (lv_sub hl [2, 3, 1, 0] rfl)
      have hk51 := hkw1.le
      have hsc1 := hD1.2.2.2.2.2
      refine lv_iload_n hx hb dX3_run_45 rfl (lv_at hl 1 rfl) ?_
      refine lv_bipush (v := nI 30) hx hb dX3_run_46 (by decide) ?_
      refine nv_icmp_gt (tgt := 102) hx hb (by omega) (by omega) dX3_run_48 (by decide) (fun hc48 => ?_) (fun hc48 => ?_)
      · refine lv_iconst (v := (-1)) hx hb dX3_run_102 (by decide) ?_
        refine Wknow (fun hw1 hw2 => ?_)
        rw [hQ]
        refine vx_ret ?_
        refine W.widen (k := 5 + 23 * (511 - k)) (n := 30 + 7268 * (511 - k)) (by omega) (by omega) ?_
        exact W.iret (v := (-1)) hx hb hr (fun t99 ht99 hW99 => ⟨⟨(-1), (μ1, k1), rfl, (⟨DG.fin hA hSV hD hD1 hR1 hkw1, by omega⟩), by show mw _ _ _ _ t99.heap; rw [ht99]; exact hP, by show t99.heap.size ≤ N9 + (5 + 23 * (k1 - k)); rw [ht99]; omega, by show tot t99.heap ≤ T9 + (30 + 7268 * (k1 - k)); rw [ht99]; omega⟩, hS.F ht99⟩) hS.2.2 dX3_run_103
      · refine lv_iconst (v := nI 0) hx hb dX3_run_51 (by decide) ?_
        refine lv_istore_n (lv' := [(3, .int (nI 0)), (0, .ref d), (2, .int (nI rn))]) hx hb dX3_run_52 rfl hl (by decide) rfl (fun ls hl => ?_)
        refine lv_iconst (v := nI 0) hx hb dX3_run_53 (by decide) ?_
        refine lv_istore (lv' := [(4, .int (nI 0)), (3, .int (nI 0)), (0, .ref d), (2, .int (nI rn))]) hx hb dX3_run_54 hl (by decide) rfl (fun ls hl => ?_)
        refine W.widen (k := 1 + 23 * (k1 - k)) (n := 6 + 7268 * (k1 - k)) (by omega) (by omega) ?_
        exact L56 _ 0 (nI 0) μ1 la1 bE1 k1 F1 (Nat.lt_succ_self _) (by omega) (by omega) (hD1) (hR1) (hkw1) (by omega) _ _ hP hS ls (lv_sub hl [2, 3, 1, 0] rfl)
  have L6 : ∀ (N6 : Nat) (p1 : Nat) (j0 : Nat) (μ1 : mp) (la1 : Nat → Nat) (bE1 : Nat → Nat) (k1 : Nat) (F1 : Nat → Nat → Int64) (hN6 : 8 - p1 < N6) (hp1 : p1 ≤ 8) (hj0 : j0 < 6) (hD1 : DK G μ1 d aS aL aR aT aO k1 sc sa na la1 bE1 F1 fS fL fR fT sp fO) (hR1 : DQ μ μ1 d aO sa na la la1) (hkw1 : kw k1) (hkk1 : k ≤ k1), ∀ (H : Heap) (locs : List Loc), mw G.1 vwCl B (μ1) H → va_S (fun q => B ≤ q) s.heap H locs → ∀ ls : Array Slot, lv_has ls 5 [(0, .ref d), (1, .int (nI j0)), (2, .int (nI p1))] → W p l e (rg_X3_run k) s m args below meth c H locs (1 + 23 * (k1 - k)) (6 + 7268 * (k1 - k)) Q (F0 m 6 ls []) := by
    intro N6
    induction N6 with
    | zero => intro p1 j0 μ1 la1 bE1 k1 F1 hN6; exact absurd hN6 (Nat.not_lt_zero _)
    | succ N6 ih6 =>
      intro p1 j0 μ1 la1 bE1 k1 F1 hN6 hp1 hj0 hD1 hR1 hkw1 hkk1 H locs hP hS ls hl
      have hk51 := hkw1.le
      have hsc1 := hD1.2.2.2.2.2
      refine lv_iload_n hx hb dX3_run_6 rfl (lv_at hl 2 rfl) ?_
      refine lv_bipush (v := nI 8) hx hb dX3_run_7 (by decide) ?_
      refine nv_icmp_ge (tgt := 28) hx hb (by omega) (by omega) dX3_run_9 (by decide) (fun hc9 => ?_) (fun hc9 => ?_)
      · have hb_14___0__28 := hD1.b (14 + 0) (by omega)
        have hbj0_28 := hD1.b j0 (by omega)
        refine lv_aload_n hx hb dX3_run_28 rfl (lv_at hl 0 rfl) ?_
        refine mw_get (C := RX3) (T := TX3) (N := 7) hx hb hts in_X3_run_X3 hown hK hP (hD1.1) rfl 6 (by decide) (hts (.fieldLink RX3 25 "OctagonDesk" "reached" "[LOctagonDesk$Shape;") (by decide +kernel)) (fun _ h9 => h9) rfl dX3_run_29 ?_
        refine lv_iconst (v := nI 0) hx hb dX3_run_32 (by decide) ?_
        refine mw_aldq hx hb hK hP 3 (hD1.2.1.2.2.1) rfl (by omega) (by omega) (hD1.2.1.2.2.2.2.2.2 0 (by omega)) dX3_run_33 ?_
        refine lv_aload_n hx hb dX3_run_34 rfl (lv_at hl 0 rfl) ?_
        refine mw_get (C := RX3) (T := TX3) (N := 7) hx hb hts in_X3_run_X3 hown hK hP (hD1.1) rfl 0 (by decide) (hts (.fieldLink RX3 13 "OctagonDesk" "slots" "[LOctagonDesk$Shape;") (by decide +kernel)) (fun _ h9 => h9) rfl dX3_run_35 ?_
        refine lv_iload_n hx hb dX3_run_38 rfl (lv_at hl 1 rfl) ?_
        refine mw_aldq hx hb hK hP 3 (hD1.2.1.1) rfl (by omega) (by omega) (hD1.2.1.2.2.2.2.1 j0 (by omega)) dX3_run_39 ?_
        refine kc_v (va_runV (As := [.ref (sa j0)]) (rest := []) ⟨hx, hb, hml, hown, hts⟩ (c_X1_takeOver l G B (μ1) (sa (14 + 0)) (na (14 + 0)) (la1 (14 + 0)) k1 (bE1 (14 + 0)) (F1 (14 + 0)) (sa j0) (na j0) (la1 j0) (bE1 j0) (F1 j0)  ((hD1.2.2.2.2.1.1 (14 + 0) (by omega)).1.1) ((hD1.2.2.2.2.1.1 (14 + 0) (by omega)).1.2.1) ((hD1.2.2.2.2.1.1 (14 + 0) (by omega)).1.2.2) ((hD1.2.2.2.2.1.1 j0 (by omega)).1.1) ((hD1.2.2.2.2.1.1 j0 (by omega)).1.2.1) ((hD1.2.2.2.2.1.1 j0 (by omega)).1.2.2) (by omega) (by omega)) (cwV 1 hts gX3_run_X1_takeOver rfl rfl rfl (by decide +kernel) ⟨Nat.le_of_ble_eq_true rfl, Nat.le_of_ble_eq_true rfl⟩) ⟨KW.blind, hP.recv hK rfl ((hD1.2.2.2.2.1.1 (14 + 0) (by omega)).1.1), fun U9 hU9 hW9 => ⟨rfl, KW.pre hBs hKK hS hP U9 hU9 hW9⟩⟩ rfl rfl hl.1 rfl (lv_room (Nat.le_of_ble_eq_true rfl)) dX3_run_40 ⟨(Nat.le_trans (m := 5 + 23 * (511 - k)) (by omega) (Nat.le_refl _)), (Nat.le_trans (m := 30 + 7268 * (511 - k)) (by omega) (Nat.le_refl _))⟩) hS (fun m40 H locs hq9 hP hz9 hS => ?_)
        obtain ⟨g40, rfl, hg40⟩ := hq9
        have hP : mw G.1 vwCl B (mu (mu μ1 (la1 (14 + 0)) (.inl (G.2 0, 158 * k1 + 158, .inr (.inl g40)))) (sa (14 + 0)) (.inr (1, [.ref (na (14 + 0)), .int (nI (bE1 j0))]))) _ := mw_eq (congrArg (fun z => mu z (sa (14 + 0)) (.inr (1, [.ref (na (14 + 0)), .int (nI (bE1 j0))]))) (rfl)) hP
        refine lv_iconst (v := nI 1) hx hb dX3_run_43 (by decide) ?_
        refine lv_istore_n (lv' := [(2, .int (nI 1)), (0, .ref d), (1, .int (nI j0))]) hx hb dX3_run_44 rfl hl (by decide) rfl (fun ls hl => ?_)
        have hDx45 : DK G (mu (mu μ1 (la1 (14 + 0)) (.inl (G.2 0, 158 * k1 + 158, .inr (.inl g40)))) (sa (14 + 0)) (.inr (1, [.ref (na (14 + 0)), .int (nI (bE1 j0))]))) d aS aL aR aT aO k1 sc sa na la1 (va_up bE1 (14 + 0) (bE1 j0)) (va_up F1 (14 + 0) g40) fS fL fR fT sp fO := hD1.sh2 (by omega) (by omega)
        have hRx45 : DQ μ (mu (mu μ1 (la1 (14 + 0)) (.inl (G.2 0, 158 * k1 + 158, .inr (.inl g40)))) (sa (14 + 0)) (.inr (1, [.ref (na (14 + 0)), .int (nI (bE1 j0))]))) d aO sa na la la1 := hR1.tr (DQ.sh2 (by omega))
        obtain ⟨μ45, em45⟩ : ∃ x9 : mp, x9 = mu (mu μ1 (la1 (14 + 0)) (.inl (G.2 0, 158 * k1 + 158, .inr (.inl g40)))) (sa (14 + 0)) (.inr (1, [.ref (na (14 + 0)), .int (nI (bE1 j0))])) := ⟨_, rfl⟩
        rw [← em45] at hP hDx45 hRx45
        refine W.widen (k := 1 + 23 * (k1 - k)) (n := 6 + 7268 * (k1 - k)) (by omega) (by omega) ?_
        exact L45 _ 1 μ45 la1 (va_up bE1 (14 + 0) (bE1 j0)) k1 (va_up F1 (14 + 0) g40) (Nat.lt_succ_self _) (by omega) (by omega) (hDx45) (hRx45) (hkw1) (by omega) _ _ hP hS ls (lv_sub hl [1, 0] rfl)
      · refine lv_aload_n hx hb dX3_run_12 rfl (lv_at hl 0 rfl) ?_
        refine mw_get (C := RX3) (T := TX3) (N := 7) hx hb hts in_X3_run_X3 hown hK hP (hD1.1) rfl 6 (by decide) (hts (.fieldLink RX3 25 "OctagonDesk" "reached" "[LOctagonDesk$Shape;") (by decide +kernel)) (fun _ h9 => h9) rfl dX3_run_13 ?_
        refine lv_iload_n hx hb dX3_run_16 rfl (lv_at hl 2 rfl) ?_
        refine mw_aldq hx hb hK hP 3 (hD1.2.1.2.2.1) rfl (by omega) (by omega) (hD1.2.1.2.2.2.2.2.2 p1 (by omega)) dX3_run_17 ?_
        refine lv_iconst (v := nI 1) hx hb dX3_run_18 (by decide) ?_
        refine mw_put (ty := .boolean) (v := .int (nI 1)) (C := RX1) (T := TX1) (N := 2) hx hb hts in_X3_run_X1 tyX1 tyX1_ok nmX1 hown hK hP hS ((hD1.2.2.2.2.1.1 (14 + p1) (by omega)).1.1) rfl 1 (by decide) (hts (.fieldLink RX3 63 "OctagonDesk$Shape" "empty" "Z") (by decide +kernel)) (fun _ h9 => h9) rfl (by decide +kernel) (by first | rfl | decide) (by first | rfl | decide) (Nat.le_of_ble_eq_true rfl) dX3_run_19 (fun H locs hP hS => ?_)
        have hP : mw G.1 vwCl B (mu μ1 (sa (14 + p1)) (.inr (1, [.ref (na (14 + p1)), .int (nI 1)]))) _ := hP
        refine lv_iinc (v := nI (p1 + 1)) (lv' := [(2, .int (nI (p1 + 1))), (0, .ref d), (1, .int (nI j0))]) hx hb dX3_run_22 hl (k := 2) rfl (nI_add _ _) (by decide) rfl (fun ls hl => ?_)
        refine lv_goto (tgt := 6) hx hb dX3_run_25 (by decide) ?_
        have hDx6 : DK G (mu μ1 (sa (14 + p1)) (.inr (1, [.ref (na (14 + p1)), .int (nI 1)]))) d aS aL aR aT aO k1 sc sa na la1 (va_up bE1 (14 + p1) 1) F1 fS fL fR fT sp fO := hD1.se (by omega) (by omega)
        have hRx6 : DQ μ (mu μ1 (sa (14 + p1)) (.inr (1, [.ref (na (14 + p1)), .int (nI 1)]))) d aO sa na la la1 := hR1.tr (DQ.se (by omega))
        obtain ⟨μ6, em6⟩ : ∃ x9 : mp, x9 = mu μ1 (sa (14 + p1)) (.inr (1, [.ref (na (14 + p1)), .int (nI 1)])) := ⟨_, rfl⟩
        rw [← em6] at hP hDx6 hRx6
        refine W.widen (k := 1 + 23 * (k1 - k)) (n := 6 + 7268 * (k1 - k)) (by omega) (by omega) ?_
        exact ih6 (p1 + 1) j0 μ6 la1 (va_up bE1 (14 + p1) 1) k1 F1 (by omega) (by omega) (by omega) (hDx6) (hRx6) (hkw1) (by omega) _ _ hP hS ls (lv_sub hl [1, 2, 0] rfl)
  have hl := lv_entry ([.ref d, .int x9]) (n := 5) (Nat.le_of_ble_eq_true rfl)
  have he9 : entryFrame m args 5 = entryFrame m ([.ref d, .int x9] : List Value).toArray 5 := by rw [hargs]
  rw [he9, lg_entry_eq]
  generalize (lg_sl ([.ref d, .int x9]) ++ List.replicate (5 - (lg_sl ([.ref d, .int x9])).length) Slot.unset).toArray = ls at hl ⊢
  have hl : lv_has ls 5 [(0, .ref d), (1, .int x9)] := hl
  refine lv_iload_n hx hb dX3_run_0 rfl (lv_at hl 1 rfl) ?_
  refine kx_v (vx_runS (As := [.int x9]) (rest := []) ⟨hx, hb, hml, hown, hts⟩ (c_X3_requireSlot l hlt G B (μ) x9) (va_cwS 1 hts gX3_run_X3_requireSlot rfl rfl rfl (by decide +kernel) ⟨Nat.le_of_ble_eq_true rfl, Nat.le_of_ble_eq_true rfl⟩) ⟨KX.blind, fun U9 hU9 hW9 => ⟨rfl, KW.pre hBs hKK hS hP U9 hU9 hW9, hDc.at hW9⟩⟩ rfl rfl hl.1 rfl (lv_room (Nat.le_of_ble_eq_true rfl)) dX3_run_1 ⟨(Nat.le_trans (m := 5 + 23 * (511 - k)) (by omega) (Nat.le_refl _)), (Nat.le_trans (m := 30 + 7268 * (511 - k)) (by omega) (Nat.le_refl _))⟩) hS (fun E ce q9 H locs hce hP hS h91 h92 h93 => ?_) (fun m1 H locs hq9 hP hz9 hS => ?_)
  · rw [hQ]
    exact kx_outN hN9 hT9 hout hlocks h91 h92 h93 (hce.1) hP hS (by omega) (by omega) (Nat.le_trans (m := 5 + 23 * (511 - k)) (by omega) (Nat.le_refl _)) (Nat.le_trans (m := 30 + 7268 * (511 - k)) (by omega) (Nat.le_refl _))
  obtain ⟨he9, hk1⟩ := hq9
  rw [he9] at hP
  have hx1 := hk1
  obtain ⟨j1, hj1, ej1⟩ := ok_nat (by decide) hk1
  subst ej1
  refine lv_iconst (v := nI 0) hx hb dX3_run_4 (by decide) ?_
  refine lv_istore_n (lv' := [(2, .int (nI 0)), (0, .ref d), (1, .int (nI j1))]) hx hb dX3_run_5 rfl hl (by decide) rfl (fun ls hl => ?_)
  refine W.widen (k := 1 + 23 * (k - k)) (n := 6 + 7268 * (k - k)) (by omega) (by omega) ?_
  exact L6 _ 0 j1 μ la bE k F (Nat.lt_succ_self _) (by omega) (by omega) (hD) (DQ.rf _ _ _ _ _ _) (hkw) (by omega) _ _ hP hS ls (lv_sub hl [1, 2, 0] rfl)
