abbrev rm_X6_requirePlace : Room := { frames := 0, cells := 0, slots := 0, locals := 0 }
set_option maxHeartbeats 4000000 in
set_option maxRecDepth 100000 in
theorem c_X6_requirePlace (l : Launch) (G : GG) (B : Nat) (μ : mp) (d aS m9 aT aO sc aL aR j9 sj bn nn lj : Nat) (fS : Nat → Option Nat) (hd : μ d = some (.inr (6, [.ref aS, .ref m9, .ref aT, .ref aO, .int (nI sc), .ref aL, .ref aR]))) (haS : μ aS = some (.inl (G.2 3, 6, .inr (.inr (.inr (.inr fS)))))) (hsj : μ sj = some (.inr (4, [.ref bn, .ref nn, .ref lj, .int (nI 0)]))) (hj9 : j9 < 6) (hf9 : fS j9 = some sj) : Met l yX6_requirePlace wsX6_requirePlace rm_X6_requirePlace (va_Pc [.ref d, .int (nI j9)] (KW G B μ)) (va_Qv (fun μ2 => μ2 = μ) (BB G B) (fun q => B ≤ q)) 0 0 (fun q => B ≤ q) := by
  refine Met.ofW (cc := cX6_requirePlace) (maxL := 2) (ret := none) (by decide) rfl ?_
  intro p e s m args below meth c s₁ B9 hml hv
  obtain ⟨hargs, hBs, hP, hKK⟩ := hv
  have hx := B9.exec
  have hb := B9.bytes
  have hr := B9.returns
  have hts := atoms_spec (ws := wsX6_requirePlace) B9.pre
  have hown : s.vm.findClass RX6 = some m.cls := findClass_of_methodNamed B9.named
  have hlocks := B9.notSynchronized
  have hK := hKK.k
  have hS : va_S (fun q => B ≤ q) s.heap s.heap [] := va_S.rf
  obtain ⟨Q, hQ⟩ : ∃ Q, Q = MQ below (va_Qv (fun μ2 => μ2 = μ) (BB G B) (fun q => B ≤ q)) args s 0 0 (fun q => B ≤ q) := ⟨_, rfl⟩
  rw [← hQ]
  have ne0_1 : d ≠ aS := mp_ne hd haS (by simp)
  have ne0_2 : d ≠ sj := mp_ne hd hsj (by simp)
  have ne1_2 : aS ≠ sj := mp_ne haS hsj (by simp)
  have in_X6_requirePlace_X4 : ∀ w ∈ wsX40, w ∈ wsX6_requirePlace := by decide +kernel
  have in_X6_requirePlace_X6 : ∀ w ∈ wsX60, w ∈ wsX6_requirePlace := by decide +kernel
  have hl := lv_entry ([.ref d, .int (nI j9)]) (n := 2) (Nat.le_of_ble_eq_true rfl)
  have he9 : entryFrame m args 2 = entryFrame m ([.ref d, .int (nI j9)] : List Value).toArray 2 := by rw [hargs]
  rw [he9, lg_entry_eq]
  generalize (lg_sl ([.ref d, .int (nI j9)]) ++ List.replicate (2 - (lg_sl ([.ref d, .int (nI j9)])).length) Slot.unset).toArray = ls at hl ⊢
  have hl : lv_has ls 2 [(0, .ref d), (1, .int (nI j9))] := hl
  refine lv_aload_n hx hb dX6_requirePlace_0 rfl (lv_at hl 0 rfl) ?_
  refine mw_get (C := RX6) (T := TX6) (N := 7) hx hb hts in_X6_requirePlace_X6 hown hK hP (hd) rfl 0 (by decide) (hts (.fieldLink RX6 16 "OctagonDesk" "slots" "[LOctagonDesk$Shape;") (by decide +kernel)) (fun _ h9 => h9) rfl dX6_requirePlace_1 ?_
  refine lv_iload_n hx hb dX6_requirePlace_4 rfl (lv_at hl 1 rfl) ?_
  refine mw_aldq hx hb hK hP 3 (haS) rfl (by omega) (by omega) hf9 dX6_requirePlace_5 ?_
  refine mw_get (C := RX4) (T := TX4) (N := 4) hx hb hts in_X6_requirePlace_X4 hown hK hP (hsj) rfl 3 (by decide) (hts (.fieldLink RX6 69 "OctagonDesk$Shape" "empty" "Z") (by decide +kernel)) (fun _ h9 => h9) rfl dX6_requirePlace_6 ?_
  refine lv_if_eq (tgt := 22) hx hb dX6_requirePlace_9 (by decide) (fun hc9 => ?_) (fun hc9 => ?_)
  · rw [hQ]
    exact W.vret hx hb hr (fun t99 ht99 hW99 => ⟨⟨μ, rfl, (rfl), by show mw _ _ _ _ t99.heap; rw [ht99]; exact hP⟩, hS.F ht99⟩) hS.2.2 dX6_requirePlace_22
  · exact absurd rfl hc9

abbrev rm_X6_keepReached : Room := { frames := 0, cells := 0, slots := 0, locals := 0 }
set_option maxHeartbeats 4000000 in
set_option maxRecDepth 100000 in
theorem c_X6_keepReached (l : Launch) (G : GG) (B : Nat) (μ : mp) (d aS m9 aT aO sc aL aR : Nat) (hd : μ d = some (.inr (6, [.ref aS, .ref m9, .ref aT, .ref aO, .int (nI sc), .ref aL, .ref aR]))) : Met l yX6_keepReached wsX6_keepReached rm_X6_keepReached (va_Pc [.ref d] (KW G B μ)) (va_Qv (fun μ2 => μ2 = mu μ d (.inr (6, [.ref aS, .ref m9, .ref aT, .ref aO, .int (nI sc), .ref aR, .ref aL]))) (BB G B) (fun q => B ≤ q)) 0 0 (fun q => B ≤ q) := by
  refine Met.ofW (cc := cX6_keepReached) (maxL := 2) (ret := none) (by decide) rfl ?_
  intro p e s m args below meth c s₁ B9 hml hv
  obtain ⟨hargs, hBs, hP, hKK⟩ := hv
  have hx := B9.exec
  have hb := B9.bytes
  have hr := B9.returns
  have hts := atoms_spec (ws := wsX6_keepReached) B9.pre
  have hown : s.vm.findClass RX6 = some m.cls := findClass_of_methodNamed B9.named
  have hlocks := B9.notSynchronized
  have hK := hKK.k
  have hS : va_S (fun q => B ≤ q) s.heap s.heap [] := va_S.rf
  obtain ⟨Q, hQ⟩ : ∃ Q, Q = MQ below (va_Qv (fun μ2 => μ2 = mu μ d (.inr (6, [.ref aS, .ref m9, .ref aT, .ref aO, .int (nI sc), .ref aR, .ref aL]))) (BB G B) (fun q => B ≤ q)) args s 0 0 (fun q => B ≤ q) := ⟨_, rfl⟩
  rw [← hQ]
  have in_X6_keepReached_X6 : ∀ w ∈ wsX60, w ∈ wsX6_keepReached := by decide +kernel
  have hP : mw G.1 vwCl B (mu μ d (.inr (6, [.ref aS, .ref m9, .ref aT, .ref aO, .int (nI sc), .ref aL, .ref aR]))) s.heap := mw_eq (mu_i hd).symm hP
  have hl := lv_entry ([.ref d]) (n := 2) (Nat.le_of_ble_eq_true rfl)
  have he9 : entryFrame m args 2 = entryFrame m ([.ref d] : List Value).toArray 2 := by rw [hargs]
  rw [he9, lg_entry_eq]
  generalize (lg_sl ([.ref d]) ++ List.replicate (2 - (lg_sl ([.ref d])).length) Slot.unset).toArray = ls at hl ⊢
  have hl : lv_has ls 2 [(0, .ref d)] := hl
  refine lv_aload_n hx hb dX6_keepReached_0 rfl (lv_at hl 0 rfl) ?_
  refine mw_get (C := RX6) (T := TX6) (N := 7) hx hb hts in_X6_keepReached_X6 hown hK hP (mu_s _ _ _) rfl 5 (by decide) (hts (.fieldLink RX6 25 "OctagonDesk" "left" "[LOctagonDesk$Shape;") (by decide +kernel)) (fun _ h9 => h9) rfl dX6_keepReached_1 ?_
  refine lv_astore_n (lv' := [(1, .ref aL), (0, .ref d)]) hx hb dX6_keepReached_4 rfl hl (by decide) rfl (fun ls hl => ?_)
  refine lv_aload_n hx hb dX6_keepReached_5 rfl (lv_at hl 1 rfl) ?_
  refine lv_aload_n hx hb dX6_keepReached_6 rfl (lv_at hl 1 rfl) ?_
  refine mw_get (C := RX6) (T := TX6) (N := 7) hx hb hts in_X6_keepReached_X6 hown hK hP (mu_s _ _ _) rfl 6 (by decide) (hts (.fieldLink RX6 28 "OctagonDesk" "reached" "[LOctagonDesk$Shape;") (by decide +kernel)) (fun _ h9 => h9) rfl dX6_keepReached_7 ?_
  refine mw_put (ty := .array (.object "OctagonDesk$Shape")) (v := .ref aR) (C := RX6) (T := TX6) (N := 7) hx hb hts in_X6_keepReached_X6 tyX6 tyX6_ok nmX6 hown hK hP hS (mu_s _ _ _) rfl 5 (by decide) (hts (.fieldLink RX6 25 "OctagonDesk" "left" "[LOctagonDesk$Shape;") (by decide +kernel)) (fun _ h9 => h9) rfl (by decide +kernel) (by first | rfl | decide +kernel) (by first | rfl | decide +kernel) (Nat.le_of_ble_eq_true rfl) dX6_keepReached_10 (fun H locs hP hS => ?_)
  have hP : mw G.1 vwCl B (mu μ d (.inr (6, [.ref aS, .ref m9, .ref aT, .ref aO, .int (nI sc), .ref aR, .ref aR]))) _ := mw_eq (mu_u _ _ _ _) hP
  refine lv_aload_n hx hb dX6_keepReached_13 rfl (lv_at hl 1 rfl) ?_
  refine lv_aload_n hx hb dX6_keepReached_14 rfl (lv_at hl 0 rfl) ?_
  refine mw_put (ty := .array (.object "OctagonDesk$Shape")) (v := .ref aL) (C := RX6) (T := TX6) (N := 7) hx hb hts in_X6_keepReached_X6 tyX6 tyX6_ok nmX6 hown hK hP hS (mu_s _ _ _) rfl 6 (by decide) (hts (.fieldLink RX6 28 "OctagonDesk" "reached" "[LOctagonDesk$Shape;") (by decide +kernel)) (fun _ h9 => h9) rfl (by decide +kernel) (by first | rfl | decide +kernel) (by first | rfl | decide +kernel) (Nat.le_of_ble_eq_true rfl) dX6_keepReached_15 (fun H locs hP hS => ?_)
  have hP : mw G.1 vwCl B (mu μ d (.inr (6, [.ref aS, .ref m9, .ref aT, .ref aO, .int (nI sc), .ref aR, .ref aL]))) _ := mw_eq (mu_u _ _ _ _) hP
  rw [hQ]
  exact W.vret hx hb hr (fun t99 ht99 hW99 => ⟨⟨mu μ d (.inr (6, [.ref aS, .ref m9, .ref aT, .ref aO, .int (nI sc), .ref aR, .ref aL])), rfl, (rfl), by show mw _ _ _ _ t99.heap; rw [ht99]; exact hP⟩, hS.F ht99⟩) hS.2.2 dX6_keepReached_18

abbrev rm_X6_clear : Room := { frames := 7, cells := 1, slots := 6, locals := 120 }
set_option maxHeartbeats 4000000 in
set_option maxRecDepth 100000 in
theorem c_X6_clear (l : Launch) (hlt : l.stackTraces = false) (G : GG) (B : Nat) (μ : mp) (d aS aL aR aT aO bn nn s9 lo sc : Nat) (nf : List Value) (sa la bE : Nat → Nat) (F : Nat → Nat → Int64) (g : Nat → Int64) (w9 : Nat → Int32) (fS fL fR fT : Nat → Option Nat) (sp : Nat → Nat) (fO : Nat → Int64) (x9 : Int32) (hD : DK G μ d aS aL aR aT aO bn nn s9 lo sc nf sa la bE F g w9 fS fL fR fT sp fO) (hFS : FS F bE g) : vx_Met l yX6_clear wsX6_clear rm_X6_clear (va_Pc [.ref d, .int x9] (KX G B μ)) (va_Qv (fun μ2 => okS x9 ∧ DR μ μ2 (OW d aO s9 lo sa la sp)) (BB G B) (fun q => B ≤ q)) (XX G B μ (fun E => E = exA ∧ ¬ okS x9)) 1 6 (fun q => B ≤ q) := by
  refine vx_ofW (cc := cX6_clear) (maxL := 2) (ret := none) (by decide) rfl ?_
  intro p e s m args below meth c s₁ B9 hml hout hv
  obtain ⟨hargs, ⟨hBs, hP, hKK⟩, hDc⟩ := hv
  have hx := B9.exec
  have hb := B9.bytes
  have hr := B9.returns
  have hts := atoms_spec (ws := wsX6_clear) B9.pre
  have hown : s.vm.findClass RX6 = some m.cls := findClass_of_methodNamed B9.named
  have hlocks := B9.notSynchronized
  have hK := hKK.k
  have hS : va_S (fun q => B ≤ q) s.heap s.heap [] := va_S.rf
  obtain ⟨Q, hQ⟩ : ∃ Q, Q = vx_MQ below (va_Qv (fun μ2 => okS x9 ∧ DR μ μ2 (OW d aO s9 lo sa la sp)) (BB G B) (fun q => B ≤ q)) (XX G B μ (fun E => E = exA ∧ ¬ okS x9)) args s 1 6 (fun q => B ≤ q) := ⟨_, rfl⟩
  rw [← hQ]
  have in_X6_clear_X6 : ∀ w ∈ wsX60, w ∈ wsX6_clear := by decide +kernel
  have hl := lv_entry ([.ref d, .int x9]) (n := 2) (Nat.le_of_ble_eq_true rfl)
  have he9 : entryFrame m args 2 = entryFrame m ([.ref d, .int x9] : List Value).toArray 2 := by rw [hargs]
  rw [he9, lg_entry_eq]
  generalize (lg_sl ([.ref d, .int x9]) ++ List.replicate (2 - (lg_sl ([.ref d, .int x9])).length) Slot.unset).toArray = ls at hl ⊢
  have hl : lv_has ls 2 [(0, .ref d), (1, .int x9)] := hl
  refine lv_iload_n hx hb dX6_clear_0 rfl (lv_at hl 1 rfl) ?_
  refine kx_v (vx_runS (As := [.int x9]) (rest := []) ⟨hx, hb, hml, hown, hts⟩ (c_X6_requireSlot l hlt G B (μ) x9) (va_cwS 1 hts gX6_clear_X6_requireSlot rfl rfl rfl (by decide +kernel) ⟨Nat.le_of_ble_eq_true rfl, Nat.le_of_ble_eq_true rfl⟩) ⟨KX.blind, fun U9 hU9 hW9 => ⟨rfl, KW.pre hBs hKK hS hP U9 hU9 hW9, hDc.at hW9⟩⟩ rfl rfl hl.1 rfl (lv_room (Nat.le_of_ble_eq_true rfl)) dX6_clear_1 ⟨(Nat.le_of_ble_eq_true rfl), (Nat.le_of_ble_eq_true rfl)⟩) hS (fun E ce q9 H locs hce hP hS h91 h92 h93 => ?_) (fun m1 H locs hq9 hP hz9 hS => ?_)
  · rw [hQ]
    exact kx_out hout hlocks h91 h92 h93 (hce) hP hS (Nat.le_of_ble_eq_true rfl) (Nat.le_of_ble_eq_true rfl)
  obtain ⟨he9, hk1⟩ := hq9
  rw [he9] at hP
  have hx1 := hk1
  obtain ⟨j1, hj1, ej1⟩ := ok_nat (by decide) hk1
  subst ej1
  refine lv_aload_n hx hb dX6_clear_4 rfl (lv_at hl 0 rfl) ?_
  refine mw_get (C := RX6) (T := TX6) (N := 7) hx hb hts in_X6_clear_X6 hown hK hP (hD.1) rfl 0 (by decide) (hts (.fieldLink RX6 16 "OctagonDesk" "slots" "[LOctagonDesk$Shape;") (by decide +kernel)) (fun _ h9 => h9) rfl dX6_clear_5 ?_
  refine lv_iload_n hx hb dX6_clear_8 rfl (lv_at hl 1 rfl) ?_
  refine mw_aldq hx hb hK hP 3 (hD.2.1.1) rfl (by omega) (by omega) (hD.2.1.2.2.2.2.1 j1 (by omega)) dX6_clear_9 ?_
  refine kc_v (va_runV (As := []) (rest := []) ⟨hx, hb, hml, hown, hts⟩ (c_X4_allowAll l G B (μ) (sa j1) bn nn (la j1) s9 lo 0 nf (F j1) g w9  ((hD.s0 hFS j1 (by omega))) (hD.2.2.2.2.1.1.1) (hD.2.2.2.2.1.1.2.1) ((hD.2.2.2.2.1.2.1 j1 (by omega)).1.2) (hD.2.2.2.2.1.1.2.2.1) (hD.2.2.2.2.1.1.2.2.2) (((hFS.za j1 (by omega))).ps)) (cwV 0 hts gX6_clear_X4_allowAll rfl rfl rfl (by decide +kernel) ⟨Nat.le_of_ble_eq_true rfl, Nat.le_of_ble_eq_true rfl⟩) ⟨KW.blind, hP.recv hK rfl ((hD.s0 hFS j1 (by omega))), fun U9 hU9 hW9 => ⟨rfl, KW.pre hBs hKK hS hP U9 hU9 hW9⟩⟩ rfl rfl hl.1 rfl (lv_room (Nat.le_of_ble_eq_true rfl)) dX6_clear_10 ⟨(Nat.le_of_ble_eq_true rfl), (Nat.le_of_ble_eq_true rfl)⟩) hS (fun m10 H locs hq9 hP hz9 hS => ?_)
  obtain ⟨f10, rfl, hf10⟩ := hq9
  have hP : mw G.1 vwCl B (mu (mu μ (sa j1) (.inr (4, [.ref bn, .ref nn, .ref (la j1), .int (nI 0)]))) (la j1) (.inl (G.2 0, 78, .inr (.inl f10)))) _ := mw_eq (congrArg (fun z => mu z (la j1) (.inl (G.2 0, 78, .inr (.inl f10)))) (rfl)) hP
  rw [hQ]
  refine vx_ret ?_
  refine W.widen (k := 1) (n := 6) (by omega) (by omega) ?_
  exact W.vret hx hb hr (fun t99 ht99 hW99 => ⟨⟨mu (mu μ (sa j1) (.inr (4, [.ref bn, .ref nn, .ref (la j1), .int (nI 0)]))) (la j1) (.inl (G.2 0, 78, .inr (.inl f10))), rfl, (⟨hx1, (((DR.rf μ _).set (OW.sa (j := j1) (by omega))).set (OW.la (j := j1) (by omega)))⟩), by show mw _ _ _ _ t99.heap; rw [ht99]; exact hP⟩, hS.F ht99⟩) hS.2.2 dX6_clear_13

abbrev rm_X6_copy : Room := { frames := 7, cells := 2, slots := 12, locals := 120 }
set_option maxHeartbeats 4000000 in
set_option maxRecDepth 100000 in
theorem c_X6_copy (l : Launch) (hlt : l.stackTraces = false) (G : GG) (B : Nat) (μ : mp) (d aS aL aR aT aO bn nn s9 lo sc : Nat) (nf : List Value) (sa la bE : Nat → Nat) (F : Nat → Nat → Int64) (g : Nat → Int64) (w9 : Nat → Int32) (fS fL fR fT : Nat → Option Nat) (sp : Nat → Nat) (fO : Nat → Int64) (x9 y9 : Int32) (hD : DK G μ d aS aL aR aT aO bn nn s9 lo sc nf sa la bE F g w9 fS fL fR fT sp fO) (hFS : FS F bE g) : vx_Met l yX6_copy wsX6_copy rm_X6_copy (va_Pc [.ref d, .int x9, .int y9] (KX G B μ)) (va_Qv (fun μ2 => okS x9 ∧ okS y9 ∧ DR μ μ2 (OW d aO s9 lo sa la sp)) (BB G B) (fun q => B ≤ q)) (XX G B μ (fun E => E = exA ∧ ¬ (okS x9 ∧ okS y9))) 2 12 (fun q => B ≤ q) := by
  refine vx_ofW (cc := cX6_copy) (maxL := 3) (ret := none) (by decide) rfl ?_
  intro p e s m args below meth c s₁ B9 hml hout hv
  obtain ⟨hargs, ⟨hBs, hP, hKK⟩, hDc⟩ := hv
  have hx := B9.exec
  have hb := B9.bytes
  have hr := B9.returns
  have hts := atoms_spec (ws := wsX6_copy) B9.pre
  have hown : s.vm.findClass RX6 = some m.cls := findClass_of_methodNamed B9.named
  have hlocks := B9.notSynchronized
  have hK := hKK.k
  have hS : va_S (fun q => B ≤ q) s.heap s.heap [] := va_S.rf
  obtain ⟨Q, hQ⟩ : ∃ Q, Q = vx_MQ below (va_Qv (fun μ2 => okS x9 ∧ okS y9 ∧ DR μ μ2 (OW d aO s9 lo sa la sp)) (BB G B) (fun q => B ≤ q)) (XX G B μ (fun E => E = exA ∧ ¬ (okS x9 ∧ okS y9))) args s 2 12 (fun q => B ≤ q) := ⟨_, rfl⟩
  rw [← hQ]
  have in_X6_copy_X6 : ∀ w ∈ wsX60, w ∈ wsX6_copy := by decide +kernel
  have hl := lv_entry ([.ref d, .int x9, .int y9]) (n := 3) (Nat.le_of_ble_eq_true rfl)
  have he9 : entryFrame m args 3 = entryFrame m ([.ref d, .int x9, .int y9] : List Value).toArray 3 := by rw [hargs]
  rw [he9, lg_entry_eq]
  generalize (lg_sl ([.ref d, .int x9, .int y9]) ++ List.replicate (3 - (lg_sl ([.ref d, .int x9, .int y9])).length) Slot.unset).toArray = ls at hl ⊢
  have hl : lv_has ls 3 [(0, .ref d), (1, .int x9), (2, .int y9)] := hl
  refine lv_iload_n hx hb dX6_copy_0 rfl (lv_at hl 1 rfl) ?_
  refine kx_v (vx_runS (As := [.int x9]) (rest := []) ⟨hx, hb, hml, hown, hts⟩ (c_X6_requireSlot l hlt G B (μ) x9) (va_cwS 1 hts gX6_copy_X6_requireSlot rfl rfl rfl (by decide +kernel) ⟨Nat.le_of_ble_eq_true rfl, Nat.le_of_ble_eq_true rfl⟩) ⟨KX.blind, fun U9 hU9 hW9 => ⟨rfl, KW.pre hBs hKK hS hP U9 hU9 hW9, hDc.at hW9⟩⟩ rfl rfl hl.1 rfl (lv_room (Nat.le_of_ble_eq_true rfl)) dX6_copy_1 ⟨(Nat.le_of_ble_eq_true rfl), (Nat.le_of_ble_eq_true rfl)⟩) hS (fun E ce q9 H locs hce hP hS h91 h92 h93 => ?_) (fun m1 H locs hq9 hP hz9 hS => ?_)
  · rw [hQ]
    exact kx_out hout hlocks h91 h92 h93 (⟨hce.1, fun h9 => hce.2 h9.1⟩) hP hS (Nat.le_of_ble_eq_true rfl) (Nat.le_of_ble_eq_true rfl)
  obtain ⟨he9, hk1⟩ := hq9
  rw [he9] at hP
  have hx1 := hk1
  obtain ⟨j1, hj1, ej1⟩ := ok_nat (by decide) hk1
  subst ej1
  refine lv_iload_n hx hb dX6_copy_4 rfl (lv_at hl 2 rfl) ?_
  refine kx_v (vx_runS (As := [.int y9]) (rest := []) ⟨hx, hb, hml, hown, hts⟩ (c_X6_requireSlot l hlt G B (μ) y9) (va_cwS 1 hts gX6_copy_X6_requireSlot rfl rfl rfl (by decide +kernel) ⟨Nat.le_of_ble_eq_true rfl, Nat.le_of_ble_eq_true rfl⟩) ⟨KX.blind, fun U9 hU9 hW9 => ⟨rfl, KW.pre hBs hKK hS hP U9 hU9 hW9, hDc.at hW9⟩⟩ rfl rfl hl.1 rfl (lv_room (Nat.le_of_ble_eq_true rfl)) dX6_copy_5 ⟨(Nat.le_of_ble_eq_true rfl), (Nat.le_of_ble_eq_true rfl)⟩) hS (fun E ce q9 H locs hce hP hS h91 h92 h93 => ?_) (fun m5 H locs hq9 hP hz9 hS => ?_)
  · rw [hQ]
    exact kx_out hout hlocks h91 h92 h93 (⟨hce.1, fun h9 => hce.2 h9.2⟩) hP hS (Nat.le_of_ble_eq_true rfl) (Nat.le_of_ble_eq_true rfl)
  obtain ⟨he9, hk5⟩ := hq9
  rw [he9] at hP
  have hx5 := hk5
  obtain ⟨j5, hj5, ej5⟩ := ok_nat (by decide) hk5
  subst ej5
  by_cases ej9 : j1 = j5
  · subst ej9
    refine lv_aload_n hx hb dX6_copy_8 rfl (lv_at hl 0 rfl) ?_
    refine mw_get (C := RX6) (T := TX6) (N := 7) hx hb hts in_X6_copy_X6 hown hK hP (hD.1) rfl 0 (by decide) (hts (.fieldLink RX6 16 "OctagonDesk" "slots" "[LOctagonDesk$Shape;") (by decide +kernel)) (fun _ h9 => h9) rfl dX6_copy_9 ?_
    refine lv_iload_n hx hb dX6_copy_12 rfl (lv_at hl 1 rfl) ?_
    refine mw_aldq hx hb hK hP 3 (hD.2.1.1) rfl (by omega) (by omega) (hD.2.1.2.2.2.2.1 j1 (by omega)) dX6_copy_13 ?_
    refine lv_aload_n hx hb dX6_copy_14 rfl (lv_at hl 0 rfl) ?_
    refine mw_get (C := RX6) (T := TX6) (N := 7) hx hb hts in_X6_copy_X6 hown hK hP (hD.1) rfl 0 (by decide) (hts (.fieldLink RX6 16 "OctagonDesk" "slots" "[LOctagonDesk$Shape;") (by decide +kernel)) (fun _ h9 => h9) rfl dX6_copy_15 ?_
    refine lv_iload_n hx hb dX6_copy_18 rfl (lv_at hl 2 rfl) ?_
    refine mw_aldq hx hb hK hP 3 (hD.2.1.1) rfl (by omega) (by omega) (hD.2.1.2.2.2.2.1 j1 (by omega)) dX6_copy_19 ?_
    refine kc_v (va_runV (As := [.ref (sa j1)]) (rest := []) ⟨hx, hb, hml, hown, hts⟩ (c_X4_takeOver_s l G B (μ) (sa j1) bn nn (la j1) s9 lo 0 nf (F j1) g w9  ((hD.s0 hFS j1 (by omega))) (hD.2.2.2.2.1.1.1) (hD.2.2.2.2.1.1.2.1) ((hD.2.2.2.2.1.2.1 j1 (by omega)).1.2) (hD.2.2.2.2.1.1.2.2.1) (hD.2.2.2.2.1.1.2.2.2) (by omega) (((hFS.za j1 (by omega))).ps)) (cwV 1 hts gX6_copy_X4_takeOver rfl rfl rfl (by decide +kernel) ⟨Nat.le_of_ble_eq_true rfl, Nat.le_of_ble_eq_true rfl⟩) ⟨KW.blind, hP.recv hK rfl ((hD.s0 hFS j1 (by omega))), fun U9 hU9 hW9 => ⟨rfl, KW.pre hBs hKK hS hP U9 hU9 hW9⟩⟩ rfl rfl hl.1 rfl (lv_room (Nat.le_of_ble_eq_true rfl)) dX6_copy_20 ⟨(Nat.le_of_ble_eq_true rfl), (Nat.le_of_ble_eq_true rfl)⟩) hS (fun m20 H locs hq9 hP hz9 hS => ?_)
    obtain ⟨f20, rfl, hf20⟩ := hq9
    have hP : mw G.1 vwCl B (mu (mu μ (sa j1) (.inr (4, [.ref bn, .ref nn, .ref (la j1), .int (nI 0)]))) (la j1) (.inl (G.2 0, 78, .inr (.inl f20)))) _ := mw_eq (congrArg (fun z => mu z (la j1) (.inl (G.2 0, 78, .inr (.inl f20)))) (rfl)) hP
    rw [hQ]
    refine vx_ret ?_
    refine W.widen (k := 2) (n := 12) (by omega) (by omega) ?_
    exact W.vret hx hb hr (fun t99 ht99 hW99 => ⟨⟨mu (mu μ (sa j1) (.inr (4, [.ref bn, .ref nn, .ref (la j1), .int (nI 0)]))) (la j1) (.inl (G.2 0, 78, .inr (.inl f20))), rfl, (⟨hx1, hx5, (((DR.rf μ _).set (OW.sa (j := j1) (by omega))).set (OW.la (j := j1) (by omega)))⟩), by show mw _ _ _ _ t99.heap; rw [ht99]; exact hP⟩, hS.F ht99⟩) hS.2.2 dX6_copy_23
  · have ej8 := ej9
    refine lv_aload_n hx hb dX6_copy_8 rfl (lv_at hl 0 rfl) ?_
    refine mw_get (C := RX6) (T := TX6) (N := 7) hx hb hts in_X6_copy_X6 hown hK hP (hD.1) rfl 0 (by decide) (hts (.fieldLink RX6 16 "OctagonDesk" "slots" "[LOctagonDesk$Shape;") (by decide +kernel)) (fun _ h9 => h9) rfl dX6_copy_9 ?_
    refine lv_iload_n hx hb dX6_copy_12 rfl (lv_at hl 1 rfl) ?_
    refine mw_aldq hx hb hK hP 3 (hD.2.1.1) rfl (by omega) (by omega) (hD.2.1.2.2.2.2.1 j1 (by omega)) dX6_copy_13 ?_
    refine lv_aload_n hx hb dX6_copy_14 rfl (lv_at hl 0 rfl) ?_
    refine mw_get (C := RX6) (T := TX6) (N := 7) hx hb hts in_X6_copy_X6 hown hK hP (hD.1) rfl 0 (by decide) (hts (.fieldLink RX6 16 "OctagonDesk" "slots" "[LOctagonDesk$Shape;") (by decide +kernel)) (fun _ h9 => h9) rfl dX6_copy_15 ?_
    refine lv_iload_n hx hb dX6_copy_18 rfl (lv_at hl 2 rfl) ?_
    refine mw_aldq hx hb hK hP 3 (hD.2.1.1) rfl (by omega) (by omega) (hD.2.1.2.2.2.2.1 j5 (by omega)) dX6_copy_19 ?_
    refine kc_v (va_runV (As := [.ref (sa j5)]) (rest := []) ⟨hx, hb, hml, hown, hts⟩ (c_X4_takeOver l G B (μ) (sa j1) bn nn (la j1) s9 lo 0 nf (F j1) g w9 (sa j5) (la j5) 0 (F j5)  ((hD.s0 hFS j1 (by omega))) (hD.2.2.2.2.1.1.1) (hD.2.2.2.2.1.1.2.1) ((hD.2.2.2.2.1.2.1 j1 (by omega)).1.2) (hD.2.2.2.2.1.1.2.2.1) (hD.2.2.2.2.1.1.2.2.2) ((hD.s0 hFS j5 (by omega))) ((hD.2.2.2.2.1.2.1 j5 (by omega)).1.2) (by omega) (((hFS.za j1 (by omega))).ps) (((hFS.za j5 (by omega))).ps) (((hD.2.2.2.2.1.2.2 j1 j5 (by omega) (by omega) (by omega)).2)) (((hD.2.2.2.2.1.2.2 j1 j5 (by omega) (by omega) (by omega)).1))) (cwV 1 hts gX6_copy_X4_takeOver rfl rfl rfl (by decide +kernel) ⟨Nat.le_of_ble_eq_true rfl, Nat.le_of_ble_eq_true rfl⟩) ⟨KW.blind, hP.recv hK rfl ((hD.s0 hFS j1 (by omega))), fun U9 hU9 hW9 => ⟨rfl, KW.pre hBs hKK hS hP U9 hU9 hW9⟩⟩ rfl rfl hl.1 rfl (lv_room (Nat.le_of_ble_eq_true rfl)) dX6_copy_20 ⟨(Nat.le_of_ble_eq_true rfl), (Nat.le_of_ble_eq_true rfl)⟩) hS (fun m20 H locs hq9 hP hz9 hS => ?_)
    obtain ⟨f20, rfl, hf20⟩ := hq9
    have hP : mw G.1 vwCl B (mu (mu μ (sa j1) (.inr (4, [.ref bn, .ref nn, .ref (la j1), .int (nI 0)]))) (la j1) (.inl (G.2 0, 78, .inr (.inl f20)))) _ := mw_eq (congrArg (fun z => mu z (la j1) (.inl (G.2 0, 78, .inr (.inl f20)))) (rfl)) hP
    rw [hQ]
    refine vx_ret ?_
    refine W.widen (k := 2) (n := 12) (by omega) (by omega) ?_
    exact W.vret hx hb hr (fun t99 ht99 hW99 => ⟨⟨mu (mu μ (sa j1) (.inr (4, [.ref bn, .ref nn, .ref (la j1), .int (nI 0)]))) (la j1) (.inl (G.2 0, 78, .inr (.inl f20))), rfl, (⟨hx1, hx5, (((DR.rf μ _).set (OW.sa (j := j1) (by omega))).set (OW.la (j := j1) (by omega)))⟩), by show mw _ _ _ _ t99.heap; rw [ht99]; exact hP⟩, hS.F ht99⟩) hS.2.2 dX6_copy_23

abbrev rm_X6_isEmpty : Room := { frames := 7, cells := 1, slots := 6, locals := 120 }
set_option maxHeartbeats 4000000 in
set_option maxRecDepth 100000 in
theorem c_X6_isEmpty (l : Launch) (hlt : l.stackTraces = false) (G : GG) (B : Nat) (μ : mp) (d aS aL aR aT aO bn nn s9 lo sc : Nat) (nf : List Value) (sa la bE : Nat → Nat) (F : Nat → Nat → Int64) (g : Nat → Int64) (w9 : Nat → Int32) (fS fL fR fT : Nat → Option Nat) (sp : Nat → Nat) (fO : Nat → Int64) (x9 : Int32) (hD : DK G μ d aS aL aR aT aO bn nn s9 lo sc nf sa la bE F g w9 fS fL fR fT sp fO) (hFS : FS F bE g) : vx_Met l yX6_isEmpty wsX6_isEmpty rm_X6_isEmpty (va_Pc [.ref d, .int x9] (KX G B μ)) (va_Qi (fun r μ2 => okS x9 ∧ r = 0 ∧ DR μ μ2 (OW d aO s9 lo sa la sp)) (BB G B) (fun q => B ≤ q)) (XX G B μ (fun E => E = exA ∧ ¬ okS x9)) 1 6 (fun q => B ≤ q) := by
  refine vx_ofW (cc := cX6_isEmpty) (maxL := 2) (ret := (some .boolean)) (by decide) rfl ?_
  intro p e s m args below meth c s₁ B9 hml hout hv
  obtain ⟨hargs, ⟨hBs, hP, hKK⟩, hDc⟩ := hv
  have hx := B9.exec
  have hb := B9.bytes
  have hr := B9.returns
  have hts := atoms_spec (ws := wsX6_isEmpty) B9.pre
  have hown : s.vm.findClass RX6 = some m.cls := findClass_of_methodNamed B9.named
  have hlocks := B9.notSynchronized
  have hK := hKK.k
  have hS : va_S (fun q => B ≤ q) s.heap s.heap [] := va_S.rf
  obtain ⟨Q, hQ⟩ : ∃ Q, Q = vx_MQ below (va_Qi (fun r μ2 => okS x9 ∧ r = 0 ∧ DR μ μ2 (OW d aO s9 lo sa la sp)) (BB G B) (fun q => B ≤ q)) (XX G B μ (fun E => E = exA ∧ ¬ okS x9)) args s 1 6 (fun q => B ≤ q) := ⟨_, rfl⟩
  rw [← hQ]
  have in_X6_isEmpty_X4 : ∀ w ∈ wsX40, w ∈ wsX6_isEmpty := by decide +kernel
  have in_X6_isEmpty_X6 : ∀ w ∈ wsX60, w ∈ wsX6_isEmpty := by decide +kernel
  have hl := lv_entry ([.ref d, .int x9]) (n := 2) (Nat.le_of_ble_eq_true rfl)
  have he9 : entryFrame m args 2 = entryFrame m ([.ref d, .int x9] : List Value).toArray 2 := by rw [hargs]
  rw [he9, lg_entry_eq]
  generalize (lg_sl ([.ref d, .int x9]) ++ List.replicate (2 - (lg_sl ([.ref d, .int x9])).length) Slot.unset).toArray = ls at hl ⊢
  have hl : lv_has ls 2 [(0, .ref d), (1, .int x9)] := hl
  refine lv_iload_n hx hb dX6_isEmpty_0 rfl (lv_at hl 1 rfl) ?_
  refine kx_v (vx_runS (As := [.int x9]) (rest := []) ⟨hx, hb, hml, hown, hts⟩ (c_X6_requireSlot l hlt G B (μ) x9) (va_cwS 1 hts gX6_isEmpty_X6_requireSlot rfl rfl rfl (by decide +kernel) ⟨Nat.le_of_ble_eq_true rfl, Nat.le_of_ble_eq_true rfl⟩) ⟨KX.blind, fun U9 hU9 hW9 => ⟨rfl, KW.pre hBs hKK hS hP U9 hU9 hW9, hDc.at hW9⟩⟩ rfl rfl hl.1 rfl (lv_room (Nat.le_of_ble_eq_true rfl)) dX6_isEmpty_1 ⟨(Nat.le_of_ble_eq_true rfl), (Nat.le_of_ble_eq_true rfl)⟩) hS (fun E ce q9 H locs hce hP hS h91 h92 h93 => ?_) (fun m1 H locs hq9 hP hz9 hS => ?_)
  · rw [hQ]
    exact kx_out hout hlocks h91 h92 h93 (hce) hP hS (Nat.le_of_ble_eq_true rfl) (Nat.le_of_ble_eq_true rfl)
  obtain ⟨he9, hk1⟩ := hq9
  rw [he9] at hP
  have hx1 := hk1
  obtain ⟨j1, hj1, ej1⟩ := ok_nat (by decide) hk1
  subst ej1
  refine lv_aload_n hx hb dX6_isEmpty_4 rfl (lv_at hl 0 rfl) ?_
  refine mw_get (C := RX6) (T := TX6) (N := 7) hx hb hts in_X6_isEmpty_X6 hown hK hP (hD.1) rfl 0 (by decide) (hts (.fieldLink RX6 16 "OctagonDesk" "slots" "[LOctagonDesk$Shape;") (by decide +kernel)) (fun _ h9 => h9) rfl dX6_isEmpty_5 ?_
  refine lv_iload_n hx hb dX6_isEmpty_8 rfl (lv_at hl 1 rfl) ?_
  refine mw_aldq hx hb hK hP 3 (hD.2.1.1) rfl (by omega) (by omega) (hD.2.1.2.2.2.2.1 j1 (by omega)) dX6_isEmpty_9 ?_
  refine mw_get (C := RX4) (T := TX4) (N := 4) hx hb hts in_X6_isEmpty_X4 hown hK hP ((hD.s0 hFS j1 (by omega))) rfl 3 (by decide) (hts (.fieldLink RX6 69 "OctagonDesk$Shape" "empty" "Z") (by decide +kernel)) (fun _ h9 => h9) rfl dX6_isEmpty_10 ?_
  rw [hQ]
  refine vx_ret ?_
  refine W.widen (k := 1) (n := 6) (by omega) (by omega) ?_
  exact W.zret (v := nI 0) (ty := .boolean) hx hb hr (by first | rfl | decide) (fun t99 ht99 hW99 => ⟨⟨nI 0, μ, rfl, (⟨hx1, rfl, (DR.rf μ _)⟩), by show mw _ _ _ _ t99.heap; rw [ht99]; exact hP⟩, hS.F ht99⟩) hS.2.2 dX6_isEmpty_13

abbrev rm_X6_erase : Room := { frames := 0, cells := 0, slots := 0, locals := 0 }
set_option maxHeartbeats 4000000 in
set_option maxRecDepth 100000 in
theorem c_X6_erase (l : Launch) (G : GG) (B : Nat) (μ : mp) (d aS aL aR aT aO bn nn s9 lo : Nat) (nf : List Value) (sa la bE : Nat → Nat) (F : Nat → Nat → Int64) (g : Nat → Int64) (w9 : Nat → Int32) (fS fL fR fT : Nat → Option Nat) (sp : Nat → Nat) (fO : Nat → Int64) (hD : DK G μ d aS aL aR aT aO bn nn s9 lo 0 nf sa la bE F g w9 fS fL fR fT sp fO) (hFS : FS F bE g) : Met l yX6_erase wsX6_erase rm_X6_erase (va_Pc [.ref d] (KW G B μ)) (va_Qi (fun r μ2 => r = 0 ∧ DR μ μ2 (OW d aO s9 lo sa la sp)) (BB G B) (fun q => B ≤ q)) 0 0 (fun q => B ≤ q) := by
  refine Met.ofW (cc := cX6_erase) (maxL := 2) (ret := (some .int)) (by decide) rfl ?_
  intro p e s m args below meth c s₁ B9 hml hv
  obtain ⟨hargs, hBs, hP, hKK⟩ := hv
  have hx := B9.exec
  have hb := B9.bytes
  have hr := B9.returns
  have hts := atoms_spec (ws := wsX6_erase) B9.pre
  have hown : s.vm.findClass RX6 = some m.cls := findClass_of_methodNamed B9.named
  have hlocks := B9.notSynchronized
  have hK := hKK.k
  have hS : va_S (fun q => B ≤ q) s.heap s.heap [] := va_S.rf
  obtain ⟨Q, hQ⟩ : ∃ Q, Q = MQ below (va_Qi (fun r μ2 => r = 0 ∧ DR μ μ2 (OW d aO s9 lo sa la sp)) (BB G B) (fun q => B ≤ q)) args s 0 0 (fun q => B ≤ q) := ⟨_, rfl⟩
  rw [← hQ]
  have in_X6_erase_X6 : ∀ w ∈ wsX60, w ∈ wsX6_erase := by decide +kernel
  have hl := lv_entry ([.ref d]) (n := 2) (Nat.le_of_ble_eq_true rfl)
  have he9 : entryFrame m args 2 = entryFrame m ([.ref d] : List Value).toArray 2 := by rw [hargs]
  rw [he9, lg_entry_eq]
  generalize (lg_sl ([.ref d]) ++ List.replicate (2 - (lg_sl ([.ref d])).length) Slot.unset).toArray = ls at hl ⊢
  have hl : lv_has ls 2 [(0, .ref d)] := hl
  refine lv_aload_n hx hb dX6_erase_0 rfl (lv_at hl 0 rfl) ?_
  refine mw_get (C := RX6) (T := TX6) (N := 7) hx hb hts in_X6_erase_X6 hown hK hP (hD.1) rfl 4 (by decide) (hts (.fieldLink RX6 42 "OctagonDesk" "stepCount" "I") (by decide +kernel)) (fun _ h9 => h9) rfl dX6_erase_1 ?_
  refine lv_istore_n (lv' := [(1, .int (nI 0)), (0, .ref d)]) hx hb dX6_erase_4 rfl hl (by decide) rfl (fun ls hl => ?_)
  refine lv_aload_n hx hb dX6_erase_5 rfl (lv_at hl 1 rfl) ?_
  refine lv_iconst (v := nI 0) hx hb dX6_erase_6 (by decide) ?_
  refine mw_put (ty := .int) (v := .int (nI 0)) (C := RX6) (T := TX6) (N := 7) hx hb hts in_X6_erase_X6 tyX6 tyX6_ok nmX6 hown hK hP hS (hD.1) rfl 4 (by decide) (hts (.fieldLink RX6 42 "OctagonDesk" "stepCount" "I") (by decide +kernel)) (fun _ h9 => h9) rfl (by decide +kernel) (by first | rfl | decide +kernel) (by first | rfl | decide +kernel) (Nat.le_of_ble_eq_true rfl) dX6_erase_7 (fun H locs hP hS => ?_)
  have hP : mw G.1 vwCl B (mu μ d (.inr (6, [.ref aS, .ref (sa 22), .ref aT, .ref aO, .int (nI 0), .ref aL, .ref aR]))) _ := hP
  refine lv_iload_n hx hb dX6_erase_10 rfl (lv_at hl 0 rfl) ?_
  rw [hQ]
  exact W.iret (v := nI 0) hx hb hr (fun t99 ht99 hW99 => ⟨⟨nI 0, mu μ d (.inr (6, [.ref aS, .ref (sa 22), .ref aT, .ref aO, .int (nI 0), .ref aL, .ref aR])), rfl, (⟨rfl, ((DR.rf μ _).set OW.d)⟩), by show mw _ _ _ _ t99.heap; rw [ht99]; exact hP⟩, hS.F ht99⟩) hS.2.2 dX6_erase_11

abbrev rm_X6_forget : Room := { frames := 7, cells := 2, slots := 12, locals := 120 }
set_option maxHeartbeats 4000000 in
set_option maxRecDepth 100000 in
theorem c_X6_forget (l : Launch) (hlt : l.stackTraces = false) (G : GG) (B : Nat) (μ : mp) (d aS aL aR aT aO bn nn s9 lo sc : Nat) (nf : List Value) (sa la bE : Nat → Nat) (F : Nat → Nat → Int64) (g : Nat → Int64) (w9 : Nat → Int32) (fS fL fR fT : Nat → Option Nat) (sp : Nat → Nat) (fO : Nat → Int64) (x9 y9 : Int32) (hD : DK G μ d aS aL aR aT aO bn nn s9 lo sc nf sa la bE F g w9 fS fL fR fT sp fO) (hFS : FS F bE g) : vx_Met l yX6_forget wsX6_forget rm_X6_forget (va_Pc [.ref d, .int x9, .int y9] (KX G B μ)) (va_Qv (fun μ2 => okS x9 ∧ okS y9 ∧ DR μ μ2 (OW d aO s9 lo sa la sp)) (BB G B) (fun q => B ≤ q)) (XX G B μ (fun E => E = exA ∧ ¬ (okS x9 ∧ okS y9))) 2 12 (fun q => B ≤ q) := by
  refine vx_ofW (cc := cX6_forget) (maxL := 3) (ret := none) (by decide) rfl ?_
  intro p e s m args below meth c s₁ B9 hml hout hv
  obtain ⟨hargs, ⟨hBs, hP, hKK⟩, hDc⟩ := hv
  have hx := B9.exec
  have hb := B9.bytes
  have hr := B9.returns
  have hts := atoms_spec (ws := wsX6_forget) B9.pre
  have hown : s.vm.findClass RX6 = some m.cls := findClass_of_methodNamed B9.named
  have hlocks := B9.notSynchronized
  have hK := hKK.k
  have hS : va_S (fun q => B ≤ q) s.heap s.heap [] := va_S.rf
  obtain ⟨Q, hQ⟩ : ∃ Q, Q = vx_MQ below (va_Qv (fun μ2 => okS x9 ∧ okS y9 ∧ DR μ μ2 (OW d aO s9 lo sa la sp)) (BB G B) (fun q => B ≤ q)) (XX G B μ (fun E => E = exA ∧ ¬ (okS x9 ∧ okS y9))) args s 2 12 (fun q => B ≤ q) := ⟨_, rfl⟩
  rw [← hQ]
  have in_X6_forget_X6 : ∀ w ∈ wsX60, w ∈ wsX6_forget := by decide +kernel
  have hl := lv_entry ([.ref d, .int x9, .int y9]) (n := 3) (Nat.le_of_ble_eq_true rfl)
  have he9 : entryFrame m args 3 = entryFrame m ([.ref d, .int x9, .int y9] : List Value).toArray 3 := by rw [hargs]
  rw [he9, lg_entry_eq]
  generalize (lg_sl ([.ref d, .int x9, .int y9]) ++ List.replicate (3 - (lg_sl ([.ref d, .int x9, .int y9])).length) Slot.unset).toArray = ls at hl ⊢
  have hl : lv_has ls 3 [(0, .ref d), (1, .int x9), (2, .int y9)] := hl
  refine lv_iload_n hx hb dX6_forget_0 rfl (lv_at hl 1 rfl) ?_
  refine kx_v (vx_runS (As := [.int x9]) (rest := []) ⟨hx, hb, hml, hown, hts⟩ (c_X6_requireSlot l hlt G B (μ) x9) (va_cwS 1 hts gX6_forget_X6_requireSlot rfl rfl rfl (by decide +kernel) ⟨Nat.le_of_ble_eq_true rfl, Nat.le_of_ble_eq_true rfl⟩) ⟨KX.blind, fun U9 hU9 hW9 => ⟨rfl, KW.pre hBs hKK hS hP U9 hU9 hW9, hDc.at hW9⟩⟩ rfl rfl hl.1 rfl (lv_room (Nat.le_of_ble_eq_true rfl)) dX6_forget_1 ⟨(Nat.le_of_ble_eq_true rfl), (Nat.le_of_ble_eq_true rfl)⟩) hS (fun E ce q9 H locs hce hP hS h91 h92 h93 => ?_) (fun m1 H locs hq9 hP hz9 hS => ?_)
  · rw [hQ]
    exact kx_out hout hlocks h91 h92 h93 (⟨hce.1, fun h9 => hce.2 h9.1⟩) hP hS (Nat.le_of_ble_eq_true rfl) (Nat.le_of_ble_eq_true rfl)
  obtain ⟨he9, hk1⟩ := hq9
  rw [he9] at hP
  have hx1 := hk1
  obtain ⟨j1, hj1, ej1⟩ := ok_nat (by decide) hk1
  subst ej1
  refine lv_iload_n hx hb dX6_forget_4 rfl (lv_at hl 2 rfl) ?_
  refine kx_v (vx_runS (As := [.int y9]) (rest := []) ⟨hx, hb, hml, hown, hts⟩ (c_X6_requireVariable l hlt G B (μ) y9) (va_cwS 1 hts gX6_forget_X6_requireVariable rfl rfl rfl (by decide +kernel) ⟨Nat.le_of_ble_eq_true rfl, Nat.le_of_ble_eq_true rfl⟩) ⟨KX.blind, fun U9 hU9 hW9 => ⟨rfl, KW.pre hBs hKK hS hP U9 hU9 hW9, hDc.at hW9⟩⟩ rfl rfl hl.1 rfl (lv_room (Nat.le_of_ble_eq_true rfl)) dX6_forget_5 ⟨(Nat.le_of_ble_eq_true rfl), (Nat.le_of_ble_eq_true rfl)⟩) hS (fun E ce q9 H locs hce hP hS h91 h92 h93 => ?_) (fun m5 H locs hq9 hP hz9 hS => ?_)
  · rw [hQ]
    exact kx_out hout hlocks h91 h92 h93 (⟨hce.1, fun h9 => hce.2 h9.2⟩) hP hS (Nat.le_of_ble_eq_true rfl) (Nat.le_of_ble_eq_true rfl)
  obtain ⟨he9, hk5⟩ := hq9
  rw [he9] at hP
  have hx5 := hk5
  obtain ⟨j5, hj5, ej5⟩ := ok_nat (by decide) hk5
  subst ej5
  refine lv_aload_n hx hb dX6_forget_8 rfl (lv_at hl 0 rfl) ?_
  refine mw_get (C := RX6) (T := TX6) (N := 7) hx hb hts in_X6_forget_X6 hown hK hP (hD.1) rfl 0 (by decide) (hts (.fieldLink RX6 16 "OctagonDesk" "slots" "[LOctagonDesk$Shape;") (by decide +kernel)) (fun _ h9 => h9) rfl dX6_forget_9 ?_
  refine lv_iload_n hx hb dX6_forget_12 rfl (lv_at hl 1 rfl) ?_
  refine mw_aldq hx hb hK hP 3 (hD.2.1.1) rfl (by omega) (by omega) (hD.2.1.2.2.2.2.1 j1 (by omega)) dX6_forget_13 ?_
  refine lv_iload_n hx hb dX6_forget_14 rfl (lv_at hl 2 rfl) ?_
  refine kc_v (va_runV (As := [.int (nI j5)]) (rest := []) ⟨hx, hb, hml, hown, hts⟩ (c_X4_release l G B (μ) (sa j1) bn nn (la j1) s9 lo nf (F j1) g w9 j5 ((hD.s0 hFS j1 (by omega))) (hD.2.2.2.2.1.1.1) (hD.2.2.2.2.1.1.2.1) ((hD.2.2.2.2.1.2.1 j1 (by omega)).1.2) (hD.2.2.2.2.1.1.2.2.1) (hD.2.2.2.2.1.1.2.2.2) (by omega) (((hFS.za j1 (by omega))).ps)) (cwV 1 hts gX6_forget_X4_release rfl rfl rfl (by decide +kernel) ⟨Nat.le_of_ble_eq_true rfl, Nat.le_of_ble_eq_true rfl⟩) ⟨KW.blind, hP.recv hK rfl ((hD.s0 hFS j1 (by omega))), fun U9 hU9 hW9 => ⟨rfl, KW.pre hBs hKK hS hP U9 hU9 hW9⟩⟩ rfl rfl hl.1 rfl (lv_room (Nat.le_of_ble_eq_true rfl)) dX6_forget_15 ⟨(Nat.le_of_ble_eq_true rfl), (Nat.le_of_ble_eq_true rfl)⟩) hS (fun m15 H locs hq9 hP hz9 hS => ?_)
  obtain ⟨f15, rfl, hf15⟩ := hq9
  have hP : mw G.1 vwCl B (mu μ (la j1) (.inl (G.2 0, 78, .inr (.inl f15)))) _ := hP
  rw [hQ]
  refine vx_ret ?_
  refine W.widen (k := 2) (n := 12) (by omega) (by omega) ?_
  exact W.vret hx hb hr (fun t99 ht99 hW99 => ⟨⟨mu μ (la j1) (.inl (G.2 0, 78, .inr (.inl f15))), rfl, (⟨hx1, hx5, ((DR.rf μ _).set (OW.la (j := j1) (by omega)))⟩), by show mw _ _ _ _ t99.heap; rw [ht99]; exact hP⟩, hS.F ht99⟩) hS.2.2 dX6_forget_18

abbrev rm_X6_join : Room := { frames := 8, cells := 3, slots := 18, locals := 142 }
set_option maxHeartbeats 4000000 in
set_option maxRecDepth 100000 in
theorem c_X6_join (l : Launch) (hlt : l.stackTraces = false) (G : GG) (B : Nat) (μ : mp) (d aS aL aR aT aO bn nn s9 lo sc : Nat) (nf : List Value) (sa la bE : Nat → Nat) (F : Nat → Nat → Int64) (g : Nat → Int64) (w9 : Nat → Int32) (fS fL fR fT : Nat → Option Nat) (sp : Nat → Nat) (fO : Nat → Int64) (x9 y9 z9 : Int32) (hD : DK G μ d aS aL aR aT aO bn nn s9 lo sc nf sa la bE F g w9 fS fL fR fT sp fO) (hFS : FS F bE g) : vx_Met l yX6_join wsX6_join rm_X6_join (va_Pc [.ref d, .int x9, .int y9, .int z9] (KX G B μ)) (va_Qv (fun μ2 => (okS x9 ∧ okS y9 ∧ okS z9) ∧ DR μ μ2 (OW d aO s9 lo sa la sp)) (BB G B) (fun q => B ≤ q)) (XX G B μ (fun E => E = exA ∧ ¬ (okS x9 ∧ okS y9 ∧ okS z9))) 3 18 (fun q => B ≤ q) := by
  refine vx_ofW (cc := cX6_join) (maxL := 4) (ret := none) (by decide) rfl ?_
  intro p e s m args below meth c s₁ B9 hml hout hv
  obtain ⟨hargs, ⟨hBs, hP, hKK⟩, hDc⟩ := hv
  have hx := B9.exec
  have hb := B9.bytes
  have hr := B9.returns
  have hts := atoms_spec (ws := wsX6_join) B9.pre
  have hown : s.vm.findClass RX6 = some m.cls := findClass_of_methodNamed B9.named
  have hlocks := B9.notSynchronized
  have hK := hKK.k
  have hS : va_S (fun q => B ≤ q) s.heap s.heap [] := va_S.rf
  obtain ⟨Q, hQ⟩ : ∃ Q, Q = vx_MQ below (va_Qv (fun μ2 => (okS x9 ∧ okS y9 ∧ okS z9) ∧ DR μ μ2 (OW d aO s9 lo sa la sp)) (BB G B) (fun q => B ≤ q)) (XX G B μ (fun E => E = exA ∧ ¬ (okS x9 ∧ okS y9 ∧ okS z9))) args s 3 18 (fun q => B ≤ q) := ⟨_, rfl⟩
  rw [← hQ]
  have in_X6_join_X6 : ∀ w ∈ wsX60, w ∈ wsX6_join := by decide +kernel
  have hl := lv_entry ([.ref d, .int x9, .int y9, .int z9]) (n := 4) (Nat.le_of_ble_eq_true rfl)
  have he9 : entryFrame m args 4 = entryFrame m ([.ref d, .int x9, .int y9, .int z9] : List Value).toArray 4 := by rw [hargs]
  rw [he9, lg_entry_eq]
  generalize (lg_sl ([.ref d, .int x9, .int y9, .int z9]) ++ List.replicate (4 - (lg_sl ([.ref d, .int x9, .int y9, .int z9])).length) Slot.unset).toArray = ls at hl ⊢
  have hl : lv_has ls 4 [(0, .ref d), (1, .int x9), (2, .int y9), (3, .int z9)] := hl
  refine lv_iload_n hx hb dX6_join_0 rfl (lv_at hl 1 rfl) ?_
  refine lv_iload_n hx hb dX6_join_1 rfl (lv_at hl 2 rfl) ?_
  refine lv_iload_n hx hb dX6_join_2 rfl (lv_at hl 3 rfl) ?_
  refine kx_v (vx_runS (As := [.int x9, .int y9, .int z9]) (rest := []) ⟨hx, hb, hml, hown, hts⟩ (c_X6_requireThreeSlots l hlt G B (μ) x9 y9 z9) (va_cwS 3 hts gX6_join_X6_requireThreeSlots rfl rfl rfl (by decide +kernel) ⟨Nat.le_of_ble_eq_true rfl, Nat.le_of_ble_eq_true rfl⟩) ⟨KX.blind, fun U9 hU9 hW9 => ⟨rfl, KW.pre hBs hKK hS hP U9 hU9 hW9, hDc.at hW9⟩⟩ rfl rfl hl.1 rfl (lv_room (Nat.le_of_ble_eq_true rfl)) dX6_join_3 ⟨(Nat.le_of_ble_eq_true rfl), (Nat.le_of_ble_eq_true rfl)⟩) hS (fun E ce q9 H locs hce hP hS h91 h92 h93 => ?_) (fun m3 H locs hq9 hP hz9 hS => ?_)
  · rw [hQ]
    exact kx_out hout hlocks h91 h92 h93 (hce) hP hS (Nat.le_of_ble_eq_true rfl) (Nat.le_of_ble_eq_true rfl)
  obtain ⟨he9, hk3⟩ := hq9
  rw [he9] at hP
  have hx3 := hk3
  obtain ⟨hka3, hkb3, hkc3⟩ := hk3
  obtain ⟨ja3, hja3, eja3⟩ := ok_nat (by decide) hka3
  subst eja3
  obtain ⟨jb3, hjb3, ejb3⟩ := ok_nat (by decide) hkb3
  subst ejb3
  obtain ⟨jc3, hjc3, ejc3⟩ := ok_nat (by decide) hkc3
  subst ejc3
  refine lv_aload_n hx hb dX6_join_6 rfl (lv_at hl 0 rfl) ?_
  refine mw_get (C := RX6) (T := TX6) (N := 7) hx hb hts in_X6_join_X6 hown hK hP (hD.1) rfl 1 (by decide) (hts (.fieldLink RX6 34 "OctagonDesk" "made" "LOctagonDesk$Shape;") (by decide +kernel)) (fun _ h9 => h9) rfl dX6_join_7 ?_
  refine lv_aload_n hx hb dX6_join_10 rfl (lv_at hl 0 rfl) ?_
  refine mw_get (C := RX6) (T := TX6) (N := 7) hx hb hts in_X6_join_X6 hown hK hP (hD.1) rfl 0 (by decide) (hts (.fieldLink RX6 16 "OctagonDesk" "slots" "[LOctagonDesk$Shape;") (by decide +kernel)) (fun _ h9 => h9) rfl dX6_join_11 ?_
  refine lv_iload_n hx hb dX6_join_14 rfl (lv_at hl 2 rfl) ?_
  refine mw_aldq hx hb hK hP 3 (hD.2.1.1) rfl (by omega) (by omega) (hD.2.1.2.2.2.2.1 jb3 (by omega)) dX6_join_15 ?_
  refine kc_v (va_runV (As := [.ref (sa jb3)]) (rest := []) ⟨hx, hb, hml, hown, hts⟩ (c_X4_takeOver l G B (μ) (sa 22) bn nn (la 22) s9 lo 1 nf (F 22) g w9 (sa jb3) (la jb3) 0 (F jb3)  ((hD.s1 hFS 22 (by omega) (by omega))) (hD.2.2.2.2.1.1.1) (hD.2.2.2.2.1.1.2.1) ((hD.2.2.2.2.1.2.1 22 (by omega)).1.2) (hD.2.2.2.2.1.1.2.2.1) (hD.2.2.2.2.1.1.2.2.2) ((hD.s0 hFS jb3 (by omega))) ((hD.2.2.2.2.1.2.1 jb3 (by omega)).1.2) (by omega) (((hFS.za 22 (by omega))).ps) (((hFS.za jb3 (by omega))).ps) (((hD.2.2.2.2.1.2.2 22 jb3 (by omega) (by omega) (by omega)).2)) (((hD.2.2.2.2.1.2.2 22 jb3 (by omega) (by omega) (by omega)).1))) (cwV 1 hts gX6_join_X4_takeOver rfl rfl rfl (by decide +kernel) ⟨Nat.le_of_ble_eq_true rfl, Nat.le_of_ble_eq_true rfl⟩) ⟨KW.blind, hP.recv hK rfl ((hD.s1 hFS 22 (by omega) (by omega))), fun U9 hU9 hW9 => ⟨rfl, KW.pre hBs hKK hS hP U9 hU9 hW9⟩⟩ rfl rfl hl.1 rfl (lv_room (Nat.le_of_ble_eq_true rfl)) dX6_join_16 ⟨(Nat.le_of_ble_eq_true rfl), (Nat.le_of_ble_eq_true rfl)⟩) hS (fun m16 H locs hq9 hP hz9 hS => ?_)
  obtain ⟨f16, rfl, hf16⟩ := hq9
  have hP : mw G.1 vwCl B (mu (mu μ (sa 22) (.inr (4, [.ref bn, .ref nn, .ref (la 22), .int (nI 0)]))) (la 22) (.inl (G.2 0, 78, .inr (.inl f16)))) _ := mw_eq (congrArg (fun z => mu z (la 22) (.inl (G.2 0, 78, .inr (.inl f16)))) (rfl)) hP
  refine lv_aload_n hx hb dX6_join_19 rfl (lv_at hl 0 rfl) ?_
  refine mw_get (C := RX6) (T := TX6) (N := 7) hx hb hts in_X6_join_X6 hown hK hP ((mu_n ((mp_ne hD.1 ((hD.2.2.2.2.1.2.1 22 (by omega)).1.2) (by simp)))).trans ((mu_n ((mp_ne hD.1 ((hD.s1 hFS 22 (by omega) (by omega))) (by simp)))).trans (hD.1))) rfl 1 (by decide) (hts (.fieldLink RX6 34 "OctagonDesk" "made" "LOctagonDesk$Shape;") (by decide +kernel)) (fun _ h9 => h9) rfl dX6_join_20 ?_
  refine lv_aload_n hx hb dX6_join_23 rfl (lv_at hl 0 rfl) ?_
  refine mw_get (C := RX6) (T := TX6) (N := 7) hx hb hts in_X6_join_X6 hown hK hP ((mu_n ((mp_ne hD.1 ((hD.2.2.2.2.1.2.1 22 (by omega)).1.2) (by simp)))).trans ((mu_n ((mp_ne hD.1 ((hD.s1 hFS 22 (by omega) (by omega))) (by simp)))).trans (hD.1))) rfl 0 (by decide) (hts (.fieldLink RX6 16 "OctagonDesk" "slots" "[LOctagonDesk$Shape;") (by decide +kernel)) (fun _ h9 => h9) rfl dX6_join_24 ?_
  refine lv_iload_n hx hb dX6_join_27 rfl (lv_at hl 3 rfl) ?_
  refine mw_aldq hx hb hK hP 3 ((mu_n ((mp_ne hD.2.1.1 ((hD.2.2.2.2.1.2.1 22 (by omega)).1.2) (by simp)))).trans ((mu_n ((mp_ne hD.2.1.1 ((hD.s1 hFS 22 (by omega) (by omega))) (by simp)))).trans (hD.2.1.1))) rfl (by omega) (by omega) (hD.2.1.2.2.2.2.1 jc3 (by omega)) dX6_join_28 ?_
  refine kc_v (va_runV (As := [.ref (sa jc3)]) (rest := []) ⟨hx, hb, hml, hown, hts⟩ (c_X4_stretchOver l G B (mu (mu μ (sa 22) (.inr (4, [.ref bn, .ref nn, .ref (la 22), .int (nI 0)]))) (la 22) (.inl (G.2 0, 78, .inr (.inl f16)))) (sa 22) bn nn (la 22) s9 lo nf f16 g w9 (sa jc3) (la jc3) (F jc3)  ((mu_n ((mp_ne ((hD.s1 hFS 22 (by omega) (by omega))) ((hD.2.2.2.2.1.2.1 22 (by omega)).1.2) (by simp)))).trans (mu_s _ _ _)) ((mu_n ((mp_ne hD.2.2.2.2.1.1.1 ((hD.2.2.2.2.1.2.1 22 (by omega)).1.2) (by simp)))).trans ((mu_n ((mp_ne hD.2.2.2.2.1.1.1 ((hD.s1 hFS 22 (by omega) (by omega))) (by simp)))).trans (hD.2.2.2.2.1.1.1))) ((mu_n ((mp_ne hD.2.2.2.2.1.1.2.1 ((hD.2.2.2.2.1.2.1 22 (by omega)).1.2) (by simp)))).trans ((mu_n ((mp_ne hD.2.2.2.2.1.1.2.1 ((hD.s1 hFS 22 (by omega) (by omega))) (by simp)))).trans (hD.2.2.2.2.1.1.2.1))) (mu_s _ _ _) ((mu_n ((mp_ne hD.2.2.2.2.1.1.2.2.1 ((hD.2.2.2.2.1.2.1 22 (by omega)).1.2) (by simp)))).trans ((mu_n ((mp_ne hD.2.2.2.2.1.1.2.2.1 ((hD.s1 hFS 22 (by omega) (by omega))) (by simp)))).trans (hD.2.2.2.2.1.1.2.2.1))) ((mu_n ((mp_ne hD.2.2.2.2.1.1.2.2.2 ((hD.2.2.2.2.1.2.1 22 (by omega)).1.2) (by simp)))).trans ((mu_n ((mp_ne hD.2.2.2.2.1.1.2.2.2 ((hD.s1 hFS 22 (by omega) (by omega))) (by simp)))).trans (hD.2.2.2.2.1.1.2.2.2))) ((mu_n ((mp_ne ((hD.s0 hFS jc3 (by omega))) ((hD.2.2.2.2.1.2.1 22 (by omega)).1.2) (by simp)))).trans ((mu_n (((hD.2.2.2.2.1.2.2 jc3 22 (by omega) (by omega) (by omega)).1))).trans ((hD.s0 hFS jc3 (by omega))))) ((mu_n (((hD.2.2.2.2.1.2.2 jc3 22 (by omega) (by omega) (by omega)).2))).trans ((mu_n ((mp_ne ((hD.2.2.2.2.1.2.1 jc3 (by omega)).1.2) ((hD.s1 hFS 22 (by omega) (by omega))) (by simp)))).trans ((hD.2.2.2.2.1.2.1 jc3 (by omega)).1.2))) (((hD.2.2.2.2.1.2.2 22 jc3 (by omega) (by omega) (by omega)).2)) (((hD.2.2.2.2.1.2.2 22 jc3 (by omega) (by omega) (by omega)).1)) (((hFS.za jb3 (by omega)).of hf16)) ((hFS.za jc3 (by omega))) (hFS.2.2)) (cwV 1 hts gX6_join_X4_stretchOver rfl rfl rfl (by decide +kernel) ⟨Nat.le_of_ble_eq_true rfl, Nat.le_of_ble_eq_true rfl⟩) ⟨KW.blind, hP.recv hK rfl ((mu_n ((mp_ne ((hD.s1 hFS 22 (by omega) (by omega))) ((hD.2.2.2.2.1.2.1 22 (by omega)).1.2) (by simp)))).trans (mu_s _ _ _)), fun U9 hU9 hW9 => ⟨rfl, KW.pre hBs hKK hS hP U9 hU9 hW9⟩⟩ rfl rfl hl.1 rfl (lv_room (Nat.le_of_ble_eq_true rfl)) dX6_join_29 ⟨(Nat.le_of_ble_eq_true rfl), (Nat.le_of_ble_eq_true rfl)⟩) hS (fun m29 H locs hq9 hP hz9 hS => ?_)
  obtain ⟨f29, g29, v29, rfl, hZ29, hN29⟩ := hq9
  have hP : mw G.1 vwCl B (mu (mu (mu (mu μ (sa 22) (.inr (4, [.ref bn, .ref nn, .ref (la 22), .int (nI 0)]))) (la 22) (.inl (G.2 0, 78, .inr (.inl f29)))) s9 (.inl (G.2 0, 13, .inr (.inl g29)))) lo (.inl (G.2 2, 78, .inl v29))) _ := mw_eq (congrArg (fun z => mu z lo (.inl (G.2 2, 78, .inl v29))) (congrArg (fun z => mu z s9 (.inl (G.2 0, 13, .inr (.inl g29)))) (mu_u _ _ _ _))) hP
  refine lv_aload_n hx hb dX6_join_32 rfl (lv_at hl 0 rfl) ?_
  refine mw_get (C := RX6) (T := TX6) (N := 7) hx hb hts in_X6_join_X6 hown hK hP ((mu_n ((mp_ne hD.1 hD.2.2.2.2.1.1.2.2.2 (by simp)))).trans ((mu_n ((mp_ne hD.1 hD.2.2.2.2.1.1.2.2.1 (by simp)))).trans ((mu_n ((mp_ne hD.1 ((hD.2.2.2.2.1.2.1 22 (by omega)).1.2) (by simp)))).trans ((mu_n ((mp_ne hD.1 ((hD.s1 hFS 22 (by omega) (by omega))) (by simp)))).trans (hD.1))))) rfl 0 (by decide) (hts (.fieldLink RX6 16 "OctagonDesk" "slots" "[LOctagonDesk$Shape;") (by decide +kernel)) (fun _ h9 => h9) rfl dX6_join_33 ?_
  refine lv_iload_n hx hb dX6_join_36 rfl (lv_at hl 1 rfl) ?_
  refine mw_aldq hx hb hK hP 3 ((mu_n ((mp_ne hD.2.1.1 hD.2.2.2.2.1.1.2.2.2 (by simp)))).trans ((mu_n ((mp_ne hD.2.1.1 hD.2.2.2.2.1.1.2.2.1 (by simp)))).trans ((mu_n ((mp_ne hD.2.1.1 ((hD.2.2.2.2.1.2.1 22 (by omega)).1.2) (by simp)))).trans ((mu_n ((mp_ne hD.2.1.1 ((hD.s1 hFS 22 (by omega) (by omega))) (by simp)))).trans (hD.2.1.1))))) rfl (by omega) (by omega) (hD.2.1.2.2.2.2.1 ja3 (by omega)) dX6_join_37 ?_
  refine lv_aload_n hx hb dX6_join_38 rfl (lv_at hl 0 rfl) ?_
  refine mw_get (C := RX6) (T := TX6) (N := 7) hx hb hts in_X6_join_X6 hown hK hP ((mu_n ((mp_ne hD.1 hD.2.2.2.2.1.1.2.2.2 (by simp)))).trans ((mu_n ((mp_ne hD.1 hD.2.2.2.2.1.1.2.2.1 (by simp)))).trans ((mu_n ((mp_ne hD.1 ((hD.2.2.2.2.1.2.1 22 (by omega)).1.2) (by simp)))).trans ((mu_n ((mp_ne hD.1 ((hD.s1 hFS 22 (by omega) (by omega))) (by simp)))).trans (hD.1))))) rfl 1 (by decide) (hts (.fieldLink RX6 34 "OctagonDesk" "made" "LOctagonDesk$Shape;") (by decide +kernel)) (fun _ h9 => h9) rfl dX6_join_39 ?_
  refine kc_v (va_runV (As := [.ref (sa 22)]) (rest := []) ⟨hx, hb, hml, hown, hts⟩ (c_X4_takeOver l G B (mu (mu (mu (mu μ (sa 22) (.inr (4, [.ref bn, .ref nn, .ref (la 22), .int (nI 0)]))) (la 22) (.inl (G.2 0, 78, .inr (.inl f29)))) s9 (.inl (G.2 0, 13, .inr (.inl g29)))) lo (.inl (G.2 2, 78, .inl v29))) (sa ja3) bn nn (la ja3) s9 lo 0 nf (F ja3) g29 v29 (sa 22) (la 22) 0 f29  ((mu_n ((mp_ne ((hD.s0 hFS ja3 (by omega))) hD.2.2.2.2.1.1.2.2.2 (by simp)))).trans ((mu_n ((mp_ne ((hD.s0 hFS ja3 (by omega))) hD.2.2.2.2.1.1.2.2.1 (by simp)))).trans ((mu_n ((mp_ne ((hD.s0 hFS ja3 (by omega))) ((hD.2.2.2.2.1.2.1 22 (by omega)).1.2) (by simp)))).trans ((mu_n (((hD.2.2.2.2.1.2.2 ja3 22 (by omega) (by omega) (by omega)).1))).trans ((hD.s0 hFS ja3 (by omega))))))) ((mu_n ((mp_ne hD.2.2.2.2.1.1.1 hD.2.2.2.2.1.1.2.2.2 (by simp)))).trans ((mu_n ((mp_ne hD.2.2.2.2.1.1.1 hD.2.2.2.2.1.1.2.2.1 (by simp)))).trans ((mu_n ((mp_ne hD.2.2.2.2.1.1.1 ((hD.2.2.2.2.1.2.1 22 (by omega)).1.2) (by simp)))).trans ((mu_n ((mp_ne hD.2.2.2.2.1.1.1 ((hD.s1 hFS 22 (by omega) (by omega))) (by simp)))).trans (hD.2.2.2.2.1.1.1))))) ((mu_n ((mp_ne hD.2.2.2.2.1.1.2.1 hD.2.2.2.2.1.1.2.2.2 (by simp)))).trans ((mu_n ((mp_ne hD.2.2.2.2.1.1.2.1 hD.2.2.2.2.1.1.2.2.1 (by simp)))).trans ((mu_n ((mp_ne hD.2.2.2.2.1.1.2.1 ((hD.2.2.2.2.1.2.1 22 (by omega)).1.2) (by simp)))).trans ((mu_n ((mp_ne hD.2.2.2.2.1.1.2.1 ((hD.s1 hFS 22 (by omega) (by omega))) (by simp)))).trans (hD.2.2.2.2.1.1.2.1))))) ((mu_n ((mp_ne ((hD.2.2.2.2.1.2.1 ja3 (by omega)).1.2) hD.2.2.2.2.1.1.2.2.2 (by simp)))).trans ((mu_n ((mp_ne ((hD.2.2.2.2.1.2.1 ja3 (by omega)).1.2) hD.2.2.2.2.1.1.2.2.1 (by simp)))).trans ((mu_n (((hD.2.2.2.2.1.2.2 ja3 22 (by omega) (by omega) (by omega)).2))).trans ((mu_n ((mp_ne ((hD.2.2.2.2.1.2.1 ja3 (by omega)).1.2) ((hD.s1 hFS 22 (by omega) (by omega))) (by simp)))).trans ((hD.2.2.2.2.1.2.1 ja3 (by omega)).1.2))))) ((mu_n ((mp_ne hD.2.2.2.2.1.1.2.2.1 hD.2.2.2.2.1.1.2.2.2 (by simp)))).trans (mu_s _ _ _)) (mu_s _ _ _) ((mu_n ((mp_ne ((hD.s1 hFS 22 (by omega) (by omega))) hD.2.2.2.2.1.1.2.2.2 (by simp)))).trans ((mu_n ((mp_ne ((hD.s1 hFS 22 (by omega) (by omega))) hD.2.2.2.2.1.1.2.2.1 (by simp)))).trans ((mu_n ((mp_ne ((hD.s1 hFS 22 (by omega) (by omega))) ((hD.2.2.2.2.1.2.1 22 (by omega)).1.2) (by simp)))).trans (mu_s _ _ _)))) ((mu_n ((mp_ne ((hD.2.2.2.2.1.2.1 22 (by omega)).1.2) hD.2.2.2.2.1.1.2.2.2 (by simp)))).trans ((mu_n ((mp_ne ((hD.2.2.2.2.1.2.1 22 (by omega)).1.2) hD.2.2.2.2.1.1.2.2.1 (by simp)))).trans (mu_s _ _ _))) (by omega) (((hFS.za ja3 (by omega))).ps) ((hZ29).ps) (((hD.2.2.2.2.1.2.2 ja3 22 (by omega) (by omega) (by omega)).2)) (((hD.2.2.2.2.1.2.2 ja3 22 (by omega) (by omega) (by omega)).1))) (cwV 1 hts gX6_join_X4_takeOver rfl rfl rfl (by decide +kernel) ⟨Nat.le_of_ble_eq_true rfl, Nat.le_of_ble_eq_true rfl⟩) ⟨KW.blind, hP.recv hK rfl ((mu_n ((mp_ne ((hD.s0 hFS ja3 (by omega))) hD.2.2.2.2.1.1.2.2.2 (by simp)))).trans ((mu_n ((mp_ne ((hD.s0 hFS ja3 (by omega))) hD.2.2.2.2.1.1.2.2.1 (by simp)))).trans ((mu_n ((mp_ne ((hD.s0 hFS ja3 (by omega))) ((hD.2.2.2.2.1.2.1 22 (by omega)).1.2) (by simp)))).trans ((mu_n (((hD.2.2.2.2.1.2.2 ja3 22 (by omega) (by omega) (by omega)).1))).trans ((hD.s0 hFS ja3 (by omega))))))), fun U9 hU9 hW9 => ⟨rfl, KW.pre hBs hKK hS hP U9 hU9 hW9⟩⟩ rfl rfl hl.1 rfl (lv_room (Nat.le_of_ble_eq_true rfl)) dX6_join_42 ⟨(Nat.le_of_ble_eq_true rfl), (Nat.le_of_ble_eq_true rfl)⟩) hS (fun m42 H locs hq9 hP hz9 hS => ?_)
  obtain ⟨f42, rfl, hf42⟩ := hq9
  have hP : mw G.1 vwCl B (mu (mu (mu (mu (mu (mu μ (sa 22) (.inr (4, [.ref bn, .ref nn, .ref (la 22), .int (nI 0)]))) (la 22) (.inl (G.2 0, 78, .inr (.inl f29)))) s9 (.inl (G.2 0, 13, .inr (.inl g29)))) lo (.inl (G.2 2, 78, .inl v29))) (sa ja3) (.inr (4, [.ref bn, .ref nn, .ref (la ja3), .int (nI 0)]))) (la ja3) (.inl (G.2 0, 78, .inr (.inl f42)))) _ := mw_eq (congrArg (fun z => mu z (la ja3) (.inl (G.2 0, 78, .inr (.inl f42)))) (rfl)) hP
  rw [hQ]
  refine vx_ret ?_
  refine W.widen (k := 3) (n := 18) (by omega) (by omega) ?_
  exact W.vret hx hb hr (fun t99 ht99 hW99 => ⟨⟨mu (mu (mu (mu (mu (mu μ (sa 22) (.inr (4, [.ref bn, .ref nn, .ref (la 22), .int (nI 0)]))) (la 22) (.inl (G.2 0, 78, .inr (.inl f29)))) s9 (.inl (G.2 0, 13, .inr (.inl g29)))) lo (.inl (G.2 2, 78, .inl v29))) (sa ja3) (.inr (4, [.ref bn, .ref nn, .ref (la ja3), .int (nI 0)]))) (la ja3) (.inl (G.2 0, 78, .inr (.inl f42))), rfl, (⟨hx3, (((((((DR.rf μ _).set (OW.sa (j := 22) (by omega))).set (OW.la (j := 22) (by omega))).set OW.s).set OW.l).set (OW.sa (j := ja3) (by omega))).set (OW.la (j := ja3) (by omega)))⟩), by show mw _ _ _ _ t99.heap; rw [ht99]; exact hP⟩, hS.F ht99⟩) hS.2.2 dX6_join_45

abbrev rm_X6_widen : Room := { frames := 8, cells := 3, slots := 18, locals := 142 }
set_option maxHeartbeats 4000000 in
set_option maxRecDepth 100000 in
theorem c_X6_widen (l : Launch) (hlt : l.stackTraces = false) (G : GG) (B : Nat) (μ : mp) (d aS aL aR aT aO bn nn s9 lo sc : Nat) (nf : List Value) (sa la bE : Nat → Nat) (F : Nat → Nat → Int64) (g : Nat → Int64) (w9 : Nat → Int32) (fS fL fR fT : Nat → Option Nat) (sp : Nat → Nat) (fO : Nat → Int64) (x9 y9 z9 : Int32) (hD : DK G μ d aS aL aR aT aO bn nn s9 lo sc nf sa la bE F g w9 fS fL fR fT sp fO) (hFS : FS F bE g) : vx_Met l yX6_widen wsX6_widen rm_X6_widen (va_Pc [.ref d, .int x9, .int y9, .int z9] (KX G B μ)) (va_Qv (fun μ2 => (okS x9 ∧ okS y9 ∧ okS z9) ∧ DR μ μ2 (OW d aO s9 lo sa la sp)) (BB G B) (fun q => B ≤ q)) (XX G B μ (fun E => E = exA ∧ ¬ (okS x9 ∧ okS y9 ∧ okS z9))) 3 18 (fun q => B ≤ q) := by
  refine vx_ofW (cc := cX6_widen) (maxL := 4) (ret := none) (by decide) rfl ?_
  intro p e s m args below meth c s₁ B9 hml hout hv
  obtain ⟨hargs, ⟨hBs, hP, hKK⟩, hDc⟩ := hv
  have hx := B9.exec
  have hb := B9.bytes
  have hr := B9.returns
  have hts := atoms_spec (ws := wsX6_widen) B9.pre
  have hown : s.vm.findClass RX6 = some m.cls := findClass_of_methodNamed B9.named
  have hlocks := B9.notSynchronized
  have hK := hKK.k
  have hS : va_S (fun q => B ≤ q) s.heap s.heap [] := va_S.rf
  obtain ⟨Q, hQ⟩ : ∃ Q, Q = vx_MQ below (va_Qv (fun μ2 => (okS x9 ∧ okS y9 ∧ okS z9) ∧ DR μ μ2 (OW d aO s9 lo sa la sp)) (BB G B) (fun q => B ≤ q)) (XX G B μ (fun E => E = exA ∧ ¬ (okS x9 ∧ okS y9 ∧ okS z9))) args s 3 18 (fun q => B ≤ q) := ⟨_, rfl⟩
  rw [← hQ]
  have in_X6_widen_X6 : ∀ w ∈ wsX60, w ∈ wsX6_widen := by decide +kernel
  have hl := lv_entry ([.ref d, .int x9, .int y9, .int z9]) (n := 4) (Nat.le_of_ble_eq_true rfl)
  have he9 : entryFrame m args 4 = entryFrame m ([.ref d, .int x9, .int y9, .int z9] : List Value).toArray 4 := by rw [hargs]
  rw [he9, lg_entry_eq]
  generalize (lg_sl ([.ref d, .int x9, .int y9, .int z9]) ++ List.replicate (4 - (lg_sl ([.ref d, .int x9, .int y9, .int z9])).length) Slot.unset).toArray = ls at hl ⊢
  have hl : lv_has ls 4 [(0, .ref d), (1, .int x9), (2, .int y9), (3, .int z9)] := hl
  refine lv_iload_n hx hb dX6_widen_0 rfl (lv_at hl 1 rfl) ?_
  refine lv_iload_n hx hb dX6_widen_1 rfl (lv_at hl 2 rfl) ?_
  refine lv_iload_n hx hb dX6_widen_2 rfl (lv_at hl 3 rfl) ?_
  refine kx_v (vx_runS (As := [.int x9, .int y9, .int z9]) (rest := []) ⟨hx, hb, hml, hown, hts⟩ (c_X6_requireThreeSlots l hlt G B (μ) x9 y9 z9) (va_cwS 3 hts gX6_widen_X6_requireThreeSlots rfl rfl rfl (by decide +kernel) ⟨Nat.le_of_ble_eq_true rfl, Nat.le_of_ble_eq_true rfl⟩) ⟨KX.blind, fun U9 hU9 hW9 => ⟨rfl, KW.pre hBs hKK hS hP U9 hU9 hW9, hDc.at hW9⟩⟩ rfl rfl hl.1 rfl (lv_room (Nat.le_of_ble_eq_true rfl)) dX6_widen_3 ⟨(Nat.le_of_ble_eq_true rfl), (Nat.le_of_ble_eq_true rfl)⟩) hS (fun E ce q9 H locs hce hP hS h91 h92 h93 => ?_) (fun m3 H locs hq9 hP hz9 hS => ?_)
  · rw [hQ]
    exact kx_out hout hlocks h91 h92 h93 (hce) hP hS (Nat.le_of_ble_eq_true rfl) (Nat.le_of_ble_eq_true rfl)
  obtain ⟨he9, hk3⟩ := hq9
  rw [he9] at hP
  have hx3 := hk3
  obtain ⟨hka3, hkb3, hkc3⟩ := hk3
  obtain ⟨ja3, hja3, eja3⟩ := ok_nat (by decide) hka3
  subst eja3
  obtain ⟨jb3, hjb3, ejb3⟩ := ok_nat (by decide) hkb3
  subst ejb3
  obtain ⟨jc3, hjc3, ejc3⟩ := ok_nat (by decide) hkc3
  subst ejc3
  refine lv_aload_n hx hb dX6_widen_6 rfl (lv_at hl 0 rfl) ?_
  refine mw_get (C := RX6) (T := TX6) (N := 7) hx hb hts in_X6_widen_X6 hown hK hP (hD.1) rfl 1 (by decide) (hts (.fieldLink RX6 34 "OctagonDesk" "made" "LOctagonDesk$Shape;") (by decide +kernel)) (fun _ h9 => h9) rfl dX6_widen_7 ?_
  refine lv_aload_n hx hb dX6_widen_10 rfl (lv_at hl 0 rfl) ?_
  refine mw_get (C := RX6) (T := TX6) (N := 7) hx hb hts in_X6_widen_X6 hown hK hP (hD.1) rfl 0 (by decide) (hts (.fieldLink RX6 16 "OctagonDesk" "slots" "[LOctagonDesk$Shape;") (by decide +kernel)) (fun _ h9 => h9) rfl dX6_widen_11 ?_
  refine lv_iload_n hx hb dX6_widen_14 rfl (lv_at hl 2 rfl) ?_
  refine mw_aldq hx hb hK hP 3 (hD.2.1.1) rfl (by omega) (by omega) (hD.2.1.2.2.2.2.1 jb3 (by omega)) dX6_widen_15 ?_
  refine kc_v (va_runV (As := [.ref (sa jb3)]) (rest := []) ⟨hx, hb, hml, hown, hts⟩ (c_X4_takeOver l G B (μ) (sa 22) bn nn (la 22) s9 lo 1 nf (F 22) g w9 (sa jb3) (la jb3) 0 (F jb3)  ((hD.s1 hFS 22 (by omega) (by omega))) (hD.2.2.2.2.1.1.1) (hD.2.2.2.2.1.1.2.1) ((hD.2.2.2.2.1.2.1 22 (by omega)).1.2) (hD.2.2.2.2.1.1.2.2.1) (hD.2.2.2.2.1.1.2.2.2) ((hD.s0 hFS jb3 (by omega))) ((hD.2.2.2.2.1.2.1 jb3 (by omega)).1.2) (by omega) (((hFS.za 22 (by omega))).ps) (((hFS.za jb3 (by omega))).ps) (((hD.2.2.2.2.1.2.2 22 jb3 (by omega) (by omega) (by omega)).2)) (((hD.2.2.2.2.1.2.2 22 jb3 (by omega) (by omega) (by omega)).1))) (cwV 1 hts gX6_widen_X4_takeOver rfl rfl rfl (by decide +kernel) ⟨Nat.le_of_ble_eq_true rfl, Nat.le_of_ble_eq_true rfl⟩) ⟨KW.blind, hP.recv hK rfl ((hD.s1 hFS 22 (by omega) (by omega))), fun U9 hU9 hW9 => ⟨rfl, KW.pre hBs hKK hS hP U9 hU9 hW9⟩⟩ rfl rfl hl.1 rfl (lv_room (Nat.le_of_ble_eq_true rfl)) dX6_widen_16 ⟨(Nat.le_of_ble_eq_true rfl), (Nat.le_of_ble_eq_true rfl)⟩) hS (fun m16 H locs hq9 hP hz9 hS => ?_)
  obtain ⟨f16, rfl, hf16⟩ := hq9
  have hP : mw G.1 vwCl B (mu (mu μ (sa 22) (.inr (4, [.ref bn, .ref nn, .ref (la 22), .int (nI 0)]))) (la 22) (.inl (G.2 0, 78, .inr (.inl f16)))) _ := mw_eq (congrArg (fun z => mu z (la 22) (.inl (G.2 0, 78, .inr (.inl f16)))) (rfl)) hP
  refine lv_aload_n hx hb dX6_widen_19 rfl (lv_at hl 0 rfl) ?_
  refine mw_get (C := RX6) (T := TX6) (N := 7) hx hb hts in_X6_widen_X6 hown hK hP ((mu_n ((mp_ne hD.1 ((hD.2.2.2.2.1.2.1 22 (by omega)).1.2) (by simp)))).trans ((mu_n ((mp_ne hD.1 ((hD.s1 hFS 22 (by omega) (by omega))) (by simp)))).trans (hD.1))) rfl 1 (by decide) (hts (.fieldLink RX6 34 "OctagonDesk" "made" "LOctagonDesk$Shape;") (by decide +kernel)) (fun _ h9 => h9) rfl dX6_widen_20 ?_
  refine lv_aload_n hx hb dX6_widen_23 rfl (lv_at hl 0 rfl) ?_
  refine mw_get (C := RX6) (T := TX6) (N := 7) hx hb hts in_X6_widen_X6 hown hK hP ((mu_n ((mp_ne hD.1 ((hD.2.2.2.2.1.2.1 22 (by omega)).1.2) (by simp)))).trans ((mu_n ((mp_ne hD.1 ((hD.s1 hFS 22 (by omega) (by omega))) (by simp)))).trans (hD.1))) rfl 0 (by decide) (hts (.fieldLink RX6 16 "OctagonDesk" "slots" "[LOctagonDesk$Shape;") (by decide +kernel)) (fun _ h9 => h9) rfl dX6_widen_24 ?_
  refine lv_iload_n hx hb dX6_widen_27 rfl (lv_at hl 3 rfl) ?_
  refine mw_aldq hx hb hK hP 3 ((mu_n ((mp_ne hD.2.1.1 ((hD.2.2.2.2.1.2.1 22 (by omega)).1.2) (by simp)))).trans ((mu_n ((mp_ne hD.2.1.1 ((hD.s1 hFS 22 (by omega) (by omega))) (by simp)))).trans (hD.2.1.1))) rfl (by omega) (by omega) (hD.2.1.2.2.2.2.1 jc3 (by omega)) dX6_widen_28 ?_
  refine kc_v (va_runV (As := [.ref (sa jc3)]) (rest := []) ⟨hx, hb, hml, hown, hts⟩ (c_X4_loosenBy l G B (mu (mu μ (sa 22) (.inr (4, [.ref bn, .ref nn, .ref (la 22), .int (nI 0)]))) (la 22) (.inl (G.2 0, 78, .inr (.inl f16)))) (sa 22) bn nn (la 22) s9 lo nf f16 g w9 (sa jc3) (la jc3) (F jc3)  ((mu_n ((mp_ne ((hD.s1 hFS 22 (by omega) (by omega))) ((hD.2.2.2.2.1.2.1 22 (by omega)).1.2) (by simp)))).trans (mu_s _ _ _)) ((mu_n ((mp_ne hD.2.2.2.2.1.1.1 ((hD.2.2.2.2.1.2.1 22 (by omega)).1.2) (by simp)))).trans ((mu_n ((mp_ne hD.2.2.2.2.1.1.1 ((hD.s1 hFS 22 (by omega) (by omega))) (by simp)))).trans (hD.2.2.2.2.1.1.1))) ((mu_n ((mp_ne hD.2.2.2.2.1.1.2.1 ((hD.2.2.2.2.1.2.1 22 (by omega)).1.2) (by simp)))).trans ((mu_n ((mp_ne hD.2.2.2.2.1.1.2.1 ((hD.s1 hFS 22 (by omega) (by omega))) (by simp)))).trans (hD.2.2.2.2.1.1.2.1))) (mu_s _ _ _) ((mu_n ((mp_ne hD.2.2.2.2.1.1.2.2.1 ((hD.2.2.2.2.1.2.1 22 (by omega)).1.2) (by simp)))).trans ((mu_n ((mp_ne hD.2.2.2.2.1.1.2.2.1 ((hD.s1 hFS 22 (by omega) (by omega))) (by simp)))).trans (hD.2.2.2.2.1.1.2.2.1))) ((mu_n ((mp_ne hD.2.2.2.2.1.1.2.2.2 ((hD.2.2.2.2.1.2.1 22 (by omega)).1.2) (by simp)))).trans ((mu_n ((mp_ne hD.2.2.2.2.1.1.2.2.2 ((hD.s1 hFS 22 (by omega) (by omega))) (by simp)))).trans (hD.2.2.2.2.1.1.2.2.2))) ((mu_n ((mp_ne ((hD.s0 hFS jc3 (by omega))) ((hD.2.2.2.2.1.2.1 22 (by omega)).1.2) (by simp)))).trans ((mu_n (((hD.2.2.2.2.1.2.2 jc3 22 (by omega) (by omega) (by omega)).1))).trans ((hD.s0 hFS jc3 (by omega))))) ((mu_n (((hD.2.2.2.2.1.2.2 jc3 22 (by omega) (by omega) (by omega)).2))).trans ((mu_n ((mp_ne ((hD.2.2.2.2.1.2.1 jc3 (by omega)).1.2) ((hD.s1 hFS 22 (by omega) (by omega))) (by simp)))).trans ((hD.2.2.2.2.1.2.1 jc3 (by omega)).1.2))) (((hD.2.2.2.2.1.2.2 22 jc3 (by omega) (by omega) (by omega)).2)) (((hD.2.2.2.2.1.2.2 22 jc3 (by omega) (by omega) (by omega)).1)) (((hFS.za jb3 (by omega)).of hf16)) ((hFS.za jc3 (by omega))) (hFS.2.2)) (cwV 1 hts gX6_widen_X4_loosenBy rfl rfl rfl (by decide +kernel) ⟨Nat.le_of_ble_eq_true rfl, Nat.le_of_ble_eq_true rfl⟩) ⟨KW.blind, hP.recv hK rfl ((mu_n ((mp_ne ((hD.s1 hFS 22 (by omega) (by omega))) ((hD.2.2.2.2.1.2.1 22 (by omega)).1.2) (by simp)))).trans (mu_s _ _ _)), fun U9 hU9 hW9 => ⟨rfl, KW.pre hBs hKK hS hP U9 hU9 hW9⟩⟩ rfl rfl hl.1 rfl (lv_room (Nat.le_of_ble_eq_true rfl)) dX6_widen_29 ⟨(Nat.le_of_ble_eq_true rfl), (Nat.le_of_ble_eq_true rfl)⟩) hS (fun m29 H locs hq9 hP hz9 hS => ?_)
  obtain ⟨f29, g29, v29, rfl, hZ29, hN29⟩ := hq9
  have hP : mw G.1 vwCl B (mu (mu (mu (mu μ (sa 22) (.inr (4, [.ref bn, .ref nn, .ref (la 22), .int (nI 0)]))) (la 22) (.inl (G.2 0, 78, .inr (.inl f29)))) s9 (.inl (G.2 0, 13, .inr (.inl g29)))) lo (.inl (G.2 2, 78, .inl v29))) _ := mw_eq (congrArg (fun z => mu z lo (.inl (G.2 2, 78, .inl v29))) (congrArg (fun z => mu z s9 (.inl (G.2 0, 13, .inr (.inl g29)))) (mu_u _ _ _ _))) hP
  refine lv_aload_n hx hb dX6_widen_32 rfl (lv_at hl 0 rfl) ?_
  refine mw_get (C := RX6) (T := TX6) (N := 7) hx hb hts in_X6_widen_X6 hown hK hP ((mu_n ((mp_ne hD.1 hD.2.2.2.2.1.1.2.2.2 (by simp)))).trans ((mu_n ((mp_ne hD.1 hD.2.2.2.2.1.1.2.2.1 (by simp)))).trans ((mu_n ((mp_ne hD.1 ((hD.2.2.2.2.1.2.1 22 (by omega)).1.2) (by simp)))).trans ((mu_n ((mp_ne hD.1 ((hD.s1 hFS 22 (by omega) (by omega))) (by simp)))).trans (hD.1))))) rfl 0 (by decide) (hts (.fieldLink RX6 16 "OctagonDesk" "slots" "[LOctagonDesk$Shape;") (by decide +kernel)) (fun _ h9 => h9) rfl dX6_widen_33 ?_
  refine lv_iload_n hx hb dX6_widen_36 rfl (lv_at hl 1 rfl) ?_
  refine mw_aldq hx hb hK hP 3 ((mu_n ((mp_ne hD.2.1.1 hD.2.2.2.2.1.1.2.2.2 (by simp)))).trans ((mu_n ((mp_ne hD.2.1.1 hD.2.2.2.2.1.1.2.2.1 (by simp)))).trans ((mu_n ((mp_ne hD.2.1.1 ((hD.2.2.2.2.1.2.1 22 (by omega)).1.2) (by simp)))).trans ((mu_n ((mp_ne hD.2.1.1 ((hD.s1 hFS 22 (by omega) (by omega))) (by simp)))).trans (hD.2.1.1))))) rfl (by omega) (by omega) (hD.2.1.2.2.2.2.1 ja3 (by omega)) dX6_widen_37 ?_
  refine lv_aload_n hx hb dX6_widen_38 rfl (lv_at hl 0 rfl) ?_
  refine mw_get (C := RX6) (T := TX6) (N := 7) hx hb hts in_X6_widen_X6 hown hK hP ((mu_n ((mp_ne hD.1 hD.2.2.2.2.1.1.2.2.2 (by simp)))).trans ((mu_n ((mp_ne hD.1 hD.2.2.2.2.1.1.2.2.1 (by simp)))).trans ((mu_n ((mp_ne hD.1 ((hD.2.2.2.2.1.2.1 22 (by omega)).1.2) (by simp)))).trans ((mu_n ((mp_ne hD.1 ((hD.s1 hFS 22 (by omega) (by omega))) (by simp)))).trans (hD.1))))) rfl 1 (by decide) (hts (.fieldLink RX6 34 "OctagonDesk" "made" "LOctagonDesk$Shape;") (by decide +kernel)) (fun _ h9 => h9) rfl dX6_widen_39 ?_
  refine kc_v (va_runV (As := [.ref (sa 22)]) (rest := []) ⟨hx, hb, hml, hown, hts⟩ (c_X4_takeOver l G B (mu (mu (mu (mu μ (sa 22) (.inr (4, [.ref bn, .ref nn, .ref (la 22), .int (nI 0)]))) (la 22) (.inl (G.2 0, 78, .inr (.inl f29)))) s9 (.inl (G.2 0, 13, .inr (.inl g29)))) lo (.inl (G.2 2, 78, .inl v29))) (sa ja3) bn nn (la ja3) s9 lo 0 nf (F ja3) g29 v29 (sa 22) (la 22) 0 f29  ((mu_n ((mp_ne ((hD.s0 hFS ja3 (by omega))) hD.2.2.2.2.1.1.2.2.2 (by simp)))).trans ((mu_n ((mp_ne ((hD.s0 hFS ja3 (by omega))) hD.2.2.2.2.1.1.2.2.1 (by simp)))).trans ((mu_n ((mp_ne ((hD.s0 hFS ja3 (by omega))) ((hD.2.2.2.2.1.2.1 22 (by omega)).1.2) (by simp)))).trans ((mu_n (((hD.2.2.2.2.1.2.2 ja3 22 (by omega) (by omega) (by omega)).1))).trans ((hD.s0 hFS ja3 (by omega))))))) ((mu_n ((mp_ne hD.2.2.2.2.1.1.1 hD.2.2.2.2.1.1.2.2.2 (by simp)))).trans ((mu_n ((mp_ne hD.2.2.2.2.1.1.1 hD.2.2.2.2.1.1.2.2.1 (by simp)))).trans ((mu_n ((mp_ne hD.2.2.2.2.1.1.1 ((hD.2.2.2.2.1.2.1 22 (by omega)).1.2) (by simp)))).trans ((mu_n ((mp_ne hD.2.2.2.2.1.1.1 ((hD.s1 hFS 22 (by omega) (by omega))) (by simp)))).trans (hD.2.2.2.2.1.1.1))))) ((mu_n ((mp_ne hD.2.2.2.2.1.1.2.1 hD.2.2.2.2.1.1.2.2.2 (by simp)))).trans ((mu_n ((mp_ne hD.2.2.2.2.1.1.2.1 hD.2.2.2.2.1.1.2.2.1 (by simp)))).trans ((mu_n ((mp_ne hD.2.2.2.2.1.1.2.1 ((hD.2.2.2.2.1.2.1 22 (by omega)).1.2) (by simp)))).trans ((mu_n ((mp_ne hD.2.2.2.2.1.1.2.1 ((hD.s1 hFS 22 (by omega) (by omega))) (by simp)))).trans (hD.2.2.2.2.1.1.2.1))))) ((mu_n ((mp_ne ((hD.2.2.2.2.1.2.1 ja3 (by omega)).1.2) hD.2.2.2.2.1.1.2.2.2 (by simp)))).trans ((mu_n ((mp_ne ((hD.2.2.2.2.1.2.1 ja3 (by omega)).1.2) hD.2.2.2.2.1.1.2.2.1 (by simp)))).trans ((mu_n (((hD.2.2.2.2.1.2.2 ja3 22 (by omega) (by omega) (by omega)).2))).trans ((mu_n ((mp_ne ((hD.2.2.2.2.1.2.1 ja3 (by omega)).1.2) ((hD.s1 hFS 22 (by omega) (by omega))) (by simp)))).trans ((hD.2.2.2.2.1.2.1 ja3 (by omega)).1.2))))) ((mu_n ((mp_ne hD.2.2.2.2.1.1.2.2.1 hD.2.2.2.2.1.1.2.2.2 (by simp)))).trans (mu_s _ _ _)) (mu_s _ _ _) ((mu_n ((mp_ne ((hD.s1 hFS 22 (by omega) (by omega))) hD.2.2.2.2.1.1.2.2.2 (by simp)))).trans ((mu_n ((mp_ne ((hD.s1 hFS 22 (by omega) (by omega))) hD.2.2.2.2.1.1.2.2.1 (by simp)))).trans ((mu_n ((mp_ne ((hD.s1 hFS 22 (by omega) (by omega))) ((hD.2.2.2.2.1.2.1 22 (by omega)).1.2) (by simp)))).trans (mu_s _ _ _)))) ((mu_n ((mp_ne ((hD.2.2.2.2.1.2.1 22 (by omega)).1.2) hD.2.2.2.2.1.1.2.2.2 (by simp)))).trans ((mu_n ((mp_ne ((hD.2.2.2.2.1.2.1 22 (by omega)).1.2) hD.2.2.2.2.1.1.2.2.1 (by simp)))).trans (mu_s _ _ _))) (by omega) (((hFS.za ja3 (by omega))).ps) ((hZ29).ps) (((hD.2.2.2.2.1.2.2 ja3 22 (by omega) (by omega) (by omega)).2)) (((hD.2.2.2.2.1.2.2 ja3 22 (by omega) (by omega) (by omega)).1))) (cwV 1 hts gX6_widen_X4_takeOver rfl rfl rfl (by decide +kernel) ⟨Nat.le_of_ble_eq_true rfl, Nat.le_of_ble_eq_true rfl⟩) ⟨KW.blind, hP.recv hK rfl ((mu_n ((mp_ne ((hD.s0 hFS ja3 (by omega))) hD.2.2.2.2.1.1.2.2.2 (by simp)))).trans ((mu_n ((mp_ne ((hD.s0 hFS ja3 (by omega))) hD.2.2.2.2.1.1.2.2.1 (by simp)))).trans ((mu_n ((mp_ne ((hD.s0 hFS ja3 (by omega))) ((hD.2.2.2.2.1.2.1 22 (by omega)).1.2) (by simp)))).trans ((mu_n (((hD.2.2.2.2.1.2.2 ja3 22 (by omega) (by omega) (by omega)).1))).trans ((hD.s0 hFS ja3 (by omega))))))), fun U9 hU9 hW9 => ⟨rfl, KW.pre hBs hKK hS hP U9 hU9 hW9⟩⟩ rfl rfl hl.1 rfl (lv_room (Nat.le_of_ble_eq_true rfl)) dX6_widen_42 ⟨(Nat.le_of_ble_eq_true rfl), (Nat.le_of_ble_eq_true rfl)⟩) hS (fun m42 H locs hq9 hP hz9 hS => ?_)
  obtain ⟨f42, rfl, hf42⟩ := hq9
  have hP : mw G.1 vwCl B (mu (mu (mu (mu (mu (mu μ (sa 22) (.inr (4, [.ref bn, .ref nn, .ref (la 22), .int (nI 0)]))) (la 22) (.inl (G.2 0, 78, .inr (.inl f29)))) s9 (.inl (G.2 0, 13, .inr (.inl g29)))) lo (.inl (G.2 2, 78, .inl v29))) (sa ja3) (.inr (4, [.ref bn, .ref nn, .ref (la ja3), .int (nI 0)]))) (la ja3) (.inl (G.2 0, 78, .inr (.inl f42)))) _ := mw_eq (congrArg (fun z => mu z (la ja3) (.inl (G.2 0, 78, .inr (.inl f42)))) (rfl)) hP
  rw [hQ]
  refine vx_ret ?_
  refine W.widen (k := 3) (n := 18) (by omega) (by omega) ?_
  exact W.vret hx hb hr (fun t99 ht99 hW99 => ⟨⟨mu (mu (mu (mu (mu (mu μ (sa 22) (.inr (4, [.ref bn, .ref nn, .ref (la 22), .int (nI 0)]))) (la 22) (.inl (G.2 0, 78, .inr (.inl f29)))) s9 (.inl (G.2 0, 13, .inr (.inl g29)))) lo (.inl (G.2 2, 78, .inl v29))) (sa ja3) (.inr (4, [.ref bn, .ref nn, .ref (la ja3), .int (nI 0)]))) (la ja3) (.inl (G.2 0, 78, .inr (.inl f42))), rfl, (⟨hx3, (((((((DR.rf μ _).set (OW.sa (j := 22) (by omega))).set (OW.la (j := 22) (by omega))).set OW.s).set OW.l).set (OW.sa (j := ja3) (by omega))).set (OW.la (j := ja3) (by omega)))⟩), by show mw _ _ _ _ t99.heap; rw [ht99]; exact hP⟩, hS.F ht99⟩) hS.2.2 dX6_widen_45

abbrev rm_X6_meet : Room := { frames := 8, cells := 3, slots := 18, locals := 142 }
set_option maxHeartbeats 4000000 in
set_option maxRecDepth 100000 in
theorem c_X6_meet (l : Launch) (hlt : l.stackTraces = false) (G : GG) (B : Nat) (μ : mp) (d aS aL aR aT aO bn nn s9 lo sc : Nat) (nf : List Value) (sa la bE : Nat → Nat) (F : Nat → Nat → Int64) (g : Nat → Int64) (w9 : Nat → Int32) (fS fL fR fT : Nat → Option Nat) (sp : Nat → Nat) (fO : Nat → Int64) (x9 y9 z9 : Int32) (hD : DK G μ d aS aL aR aT aO bn nn s9 lo sc nf sa la bE F g w9 fS fL fR fT sp fO) (hFS : FS F bE g) : vx_Met l yX6_meet wsX6_meet rm_X6_meet (va_Pc [.ref d, .int x9, .int y9, .int z9] (KX G B μ)) (va_Qi (fun r μ2 => (okS x9 ∧ okS y9 ∧ okS z9) ∧ r = 1 ∧ DR μ μ2 (OW d aO s9 lo sa la sp)) (BB G B) (fun q => B ≤ q)) (XX G B μ (fun E => E = exA ∧ ¬ (okS x9 ∧ okS y9 ∧ okS z9))) 3 18 (fun q => B ≤ q) := by
  refine vx_ofW (cc := cX6_meet) (maxL := 4) (ret := (some .boolean)) (by decide) rfl ?_
  intro p e s m args below meth c s₁ B9 hml hout hv
  obtain ⟨hargs, ⟨hBs, hP, hKK⟩, hDc⟩ := hv
  have hx := B9.exec
  have hb := B9.bytes
  have hr := B9.returns
  have hts := atoms_spec (ws := wsX6_meet) B9.pre
  have hown : s.vm.findClass RX6 = some m.cls := findClass_of_methodNamed B9.named
  have hlocks := B9.notSynchronized
  have hK := hKK.k
  have hS : va_S (fun q => B ≤ q) s.heap s.heap [] := va_S.rf
  obtain ⟨Q, hQ⟩ : ∃ Q, Q = vx_MQ below (va_Qi (fun r μ2 => (okS x9 ∧ okS y9 ∧ okS z9) ∧ r = 1 ∧ DR μ μ2 (OW d aO s9 lo sa la sp)) (BB G B) (fun q => B ≤ q)) (XX G B μ (fun E => E = exA ∧ ¬ (okS x9 ∧ okS y9 ∧ okS z9))) args s 3 18 (fun q => B ≤ q) := ⟨_, rfl⟩
  rw [← hQ]
  have in_X6_meet_X4 : ∀ w ∈ wsX40, w ∈ wsX6_meet := by decide +kernel
  have in_X6_meet_X6 : ∀ w ∈ wsX60, w ∈ wsX6_meet := by decide +kernel
  have hl := lv_entry ([.ref d, .int x9, .int y9, .int z9]) (n := 4) (Nat.le_of_ble_eq_true rfl)
  have he9 : entryFrame m args 4 = entryFrame m ([.ref d, .int x9, .int y9, .int z9] : List Value).toArray 4 := by rw [hargs]
  rw [he9, lg_entry_eq]
  generalize (lg_sl ([.ref d, .int x9, .int y9, .int z9]) ++ List.replicate (4 - (lg_sl ([.ref d, .int x9, .int y9, .int z9])).length) Slot.unset).toArray = ls at hl ⊢
  have hl : lv_has ls 4 [(0, .ref d), (1, .int x9), (2, .int y9), (3, .int z9)] := hl
  refine lv_iload_n hx hb dX6_meet_0 rfl (lv_at hl 1 rfl) ?_
  refine lv_iload_n hx hb dX6_meet_1 rfl (lv_at hl 2 rfl) ?_
  refine lv_iload_n hx hb dX6_meet_2 rfl (lv_at hl 3 rfl) ?_
  refine kx_v (vx_runS (As := [.int x9, .int y9, .int z9]) (rest := []) ⟨hx, hb, hml, hown, hts⟩ (c_X6_requireThreeSlots l hlt G B (μ) x9 y9 z9) (va_cwS 3 hts gX6_meet_X6_requireThreeSlots rfl rfl rfl (by decide +kernel) ⟨Nat.le_of_ble_eq_true rfl, Nat.le_of_ble_eq_true rfl⟩) ⟨KX.blind, fun U9 hU9 hW9 => ⟨rfl, KW.pre hBs hKK hS hP U9 hU9 hW9, hDc.at hW9⟩⟩ rfl rfl hl.1 rfl (lv_room (Nat.le_of_ble_eq_true rfl)) dX6_meet_3 ⟨(Nat.le_of_ble_eq_true rfl), (Nat.le_of_ble_eq_true rfl)⟩) hS (fun E ce q9 H locs hce hP hS h91 h92 h93 => ?_) (fun m3 H locs hq9 hP hz9 hS => ?_)
  · rw [hQ]
    exact kx_out hout hlocks h91 h92 h93 (hce) hP hS (Nat.le_of_ble_eq_true rfl) (Nat.le_of_ble_eq_true rfl)
  obtain ⟨he9, hk3⟩ := hq9
  rw [he9] at hP
  have hx3 := hk3
  obtain ⟨hka3, hkb3, hkc3⟩ := hk3
  obtain ⟨ja3, hja3, eja3⟩ := ok_nat (by decide) hka3
  subst eja3
  obtain ⟨jb3, hjb3, ejb3⟩ := ok_nat (by decide) hkb3
  subst ejb3
  obtain ⟨jc3, hjc3, ejc3⟩ := ok_nat (by decide) hkc3
  subst ejc3
  refine lv_aload_n hx hb dX6_meet_6 rfl (lv_at hl 0 rfl) ?_
  refine mw_get (C := RX6) (T := TX6) (N := 7) hx hb hts in_X6_meet_X6 hown hK hP (hD.1) rfl 1 (by decide) (hts (.fieldLink RX6 34 "OctagonDesk" "made" "LOctagonDesk$Shape;") (by decide +kernel)) (fun _ h9 => h9) rfl dX6_meet_7 ?_
  refine lv_aload_n hx hb dX6_meet_10 rfl (lv_at hl 0 rfl) ?_
  refine mw_get (C := RX6) (T := TX6) (N := 7) hx hb hts in_X6_meet_X6 hown hK hP (hD.1) rfl 0 (by decide) (hts (.fieldLink RX6 16 "OctagonDesk" "slots" "[LOctagonDesk$Shape;") (by decide +kernel)) (fun _ h9 => h9) rfl dX6_meet_11 ?_
  refine lv_iload_n hx hb dX6_meet_14 rfl (lv_at hl 2 rfl) ?_
  refine mw_aldq hx hb hK hP 3 (hD.2.1.1) rfl (by omega) (by omega) (hD.2.1.2.2.2.2.1 jb3 (by omega)) dX6_meet_15 ?_
  refine kc_v (va_runV (As := [.ref (sa jb3)]) (rest := []) ⟨hx, hb, hml, hown, hts⟩ (c_X4_takeOver l G B (μ) (sa 22) bn nn (la 22) s9 lo 1 nf (F 22) g w9 (sa jb3) (la jb3) 0 (F jb3)  ((hD.s1 hFS 22 (by omega) (by omega))) (hD.2.2.2.2.1.1.1) (hD.2.2.2.2.1.1.2.1) ((hD.2.2.2.2.1.2.1 22 (by omega)).1.2) (hD.2.2.2.2.1.1.2.2.1) (hD.2.2.2.2.1.1.2.2.2) ((hD.s0 hFS jb3 (by omega))) ((hD.2.2.2.2.1.2.1 jb3 (by omega)).1.2) (by omega) (((hFS.za 22 (by omega))).ps) (((hFS.za jb3 (by omega))).ps) (((hD.2.2.2.2.1.2.2 22 jb3 (by omega) (by omega) (by omega)).2)) (((hD.2.2.2.2.1.2.2 22 jb3 (by omega) (by omega) (by omega)).1))) (cwV 1 hts gX6_meet_X4_takeOver rfl rfl rfl (by decide +kernel) ⟨Nat.le_of_ble_eq_true rfl, Nat.le_of_ble_eq_true rfl⟩) ⟨KW.blind, hP.recv hK rfl ((hD.s1 hFS 22 (by omega) (by omega))), fun U9 hU9 hW9 => ⟨rfl, KW.pre hBs hKK hS hP U9 hU9 hW9⟩⟩ rfl rfl hl.1 rfl (lv_room (Nat.le_of_ble_eq_true rfl)) dX6_meet_16 ⟨(Nat.le_of_ble_eq_true rfl), (Nat.le_of_ble_eq_true rfl)⟩) hS (fun m16 H locs hq9 hP hz9 hS => ?_)
  obtain ⟨f16, rfl, hf16⟩ := hq9
  have hP : mw G.1 vwCl B (mu (mu μ (sa 22) (.inr (4, [.ref bn, .ref nn, .ref (la 22), .int (nI 0)]))) (la 22) (.inl (G.2 0, 78, .inr (.inl f16)))) _ := mw_eq (congrArg (fun z => mu z (la 22) (.inl (G.2 0, 78, .inr (.inl f16)))) (rfl)) hP
  refine lv_aload_n hx hb dX6_meet_19 rfl (lv_at hl 0 rfl) ?_
  refine mw_get (C := RX6) (T := TX6) (N := 7) hx hb hts in_X6_meet_X6 hown hK hP ((mu_n ((mp_ne hD.1 ((hD.2.2.2.2.1.2.1 22 (by omega)).1.2) (by simp)))).trans ((mu_n ((mp_ne hD.1 ((hD.s1 hFS 22 (by omega) (by omega))) (by simp)))).trans (hD.1))) rfl 1 (by decide) (hts (.fieldLink RX6 34 "OctagonDesk" "made" "LOctagonDesk$Shape;") (by decide +kernel)) (fun _ h9 => h9) rfl dX6_meet_20 ?_
  refine lv_aload_n hx hb dX6_meet_23 rfl (lv_at hl 0 rfl) ?_
  refine mw_get (C := RX6) (T := TX6) (N := 7) hx hb hts in_X6_meet_X6 hown hK hP ((mu_n ((mp_ne hD.1 ((hD.2.2.2.2.1.2.1 22 (by omega)).1.2) (by simp)))).trans ((mu_n ((mp_ne hD.1 ((hD.s1 hFS 22 (by omega) (by omega))) (by simp)))).trans (hD.1))) rfl 0 (by decide) (hts (.fieldLink RX6 16 "OctagonDesk" "slots" "[LOctagonDesk$Shape;") (by decide +kernel)) (fun _ h9 => h9) rfl dX6_meet_24 ?_
  refine lv_iload_n hx hb dX6_meet_27 rfl (lv_at hl 3 rfl) ?_
  refine mw_aldq hx hb hK hP 3 ((mu_n ((mp_ne hD.2.1.1 ((hD.2.2.2.2.1.2.1 22 (by omega)).1.2) (by simp)))).trans ((mu_n ((mp_ne hD.2.1.1 ((hD.s1 hFS 22 (by omega) (by omega))) (by simp)))).trans (hD.2.1.1))) rfl (by omega) (by omega) (hD.2.1.2.2.2.2.1 jc3 (by omega)) dX6_meet_28 ?_
  refine kc_v (va_runV (As := [.ref (sa jc3)]) (rest := []) ⟨hx, hb, hml, hown, hts⟩ (c_X4_cutTo l G B (mu (mu μ (sa 22) (.inr (4, [.ref bn, .ref nn, .ref (la 22), .int (nI 0)]))) (la 22) (.inl (G.2 0, 78, .inr (.inl f16)))) (sa 22) bn nn (la 22) s9 lo nf f16 g w9 (sa jc3) (la jc3) (F jc3)  ((mu_n ((mp_ne ((hD.s1 hFS 22 (by omega) (by omega))) ((hD.2.2.2.2.1.2.1 22 (by omega)).1.2) (by simp)))).trans (mu_s _ _ _)) ((mu_n ((mp_ne hD.2.2.2.2.1.1.1 ((hD.2.2.2.2.1.2.1 22 (by omega)).1.2) (by simp)))).trans ((mu_n ((mp_ne hD.2.2.2.2.1.1.1 ((hD.s1 hFS 22 (by omega) (by omega))) (by simp)))).trans (hD.2.2.2.2.1.1.1))) ((mu_n ((mp_ne hD.2.2.2.2.1.1.2.1 ((hD.2.2.2.2.1.2.1 22 (by omega)).1.2) (by simp)))).trans ((mu_n ((mp_ne hD.2.2.2.2.1.1.2.1 ((hD.s1 hFS 22 (by omega) (by omega))) (by simp)))).trans (hD.2.2.2.2.1.1.2.1))) (mu_s _ _ _) ((mu_n ((mp_ne hD.2.2.2.2.1.1.2.2.1 ((hD.2.2.2.2.1.2.1 22 (by omega)).1.2) (by simp)))).trans ((mu_n ((mp_ne hD.2.2.2.2.1.1.2.2.1 ((hD.s1 hFS 22 (by omega) (by omega))) (by simp)))).trans (hD.2.2.2.2.1.1.2.2.1))) ((mu_n ((mp_ne hD.2.2.2.2.1.1.2.2.2 ((hD.2.2.2.2.1.2.1 22 (by omega)).1.2) (by simp)))).trans ((mu_n ((mp_ne hD.2.2.2.2.1.1.2.2.2 ((hD.s1 hFS 22 (by omega) (by omega))) (by simp)))).trans (hD.2.2.2.2.1.1.2.2.2))) ((mu_n ((mp_ne ((hD.s0 hFS jc3 (by omega))) ((hD.2.2.2.2.1.2.1 22 (by omega)).1.2) (by simp)))).trans ((mu_n (((hD.2.2.2.2.1.2.2 jc3 22 (by omega) (by omega) (by omega)).1))).trans ((hD.s0 hFS jc3 (by omega))))) ((mu_n (((hD.2.2.2.2.1.2.2 jc3 22 (by omega) (by omega) (by omega)).2))).trans ((mu_n ((mp_ne ((hD.2.2.2.2.1.2.1 jc3 (by omega)).1.2) ((hD.s1 hFS 22 (by omega) (by omega))) (by simp)))).trans ((hD.2.2.2.2.1.2.1 jc3 (by omega)).1.2))) (((hD.2.2.2.2.1.2.2 22 jc3 (by omega) (by omega) (by omega)).2)) (((hD.2.2.2.2.1.2.2 22 jc3 (by omega) (by omega) (by omega)).1)) (((hFS.za jb3 (by omega)).of hf16)) ((hFS.za jc3 (by omega))) (hFS.2.2)) (cwV 1 hts gX6_meet_X4_cutTo rfl rfl rfl (by decide +kernel) ⟨Nat.le_of_ble_eq_true rfl, Nat.le_of_ble_eq_true rfl⟩) ⟨KW.blind, hP.recv hK rfl ((mu_n ((mp_ne ((hD.s1 hFS 22 (by omega) (by omega))) ((hD.2.2.2.2.1.2.1 22 (by omega)).1.2) (by simp)))).trans (mu_s _ _ _)), fun U9 hU9 hW9 => ⟨rfl, KW.pre hBs hKK hS hP U9 hU9 hW9⟩⟩ rfl rfl hl.1 rfl (lv_room (Nat.le_of_ble_eq_true rfl)) dX6_meet_29 ⟨(Nat.le_of_ble_eq_true rfl), (Nat.le_of_ble_eq_true rfl)⟩) hS (fun m29 H locs hq9 hP hz9 hS => ?_)
  obtain ⟨f29, g29, v29, rfl, hZ29, hN29⟩ := hq9
  have hP : mw G.1 vwCl B (mu (mu (mu (mu μ (sa 22) (.inr (4, [.ref bn, .ref nn, .ref (la 22), .int (nI 0)]))) (la 22) (.inl (G.2 0, 78, .inr (.inl f29)))) s9 (.inl (G.2 0, 13, .inr (.inl g29)))) lo (.inl (G.2 2, 78, .inl v29))) _ := mw_eq (congrArg (fun z => mu z lo (.inl (G.2 2, 78, .inl v29))) (congrArg (fun z => mu z s9 (.inl (G.2 0, 13, .inr (.inl g29)))) (mu_u _ _ _ _))) hP
  refine lv_aload_n hx hb dX6_meet_32 rfl (lv_at hl 0 rfl) ?_
  refine mw_get (C := RX6) (T := TX6) (N := 7) hx hb hts in_X6_meet_X6 hown hK hP ((mu_n ((mp_ne hD.1 hD.2.2.2.2.1.1.2.2.2 (by simp)))).trans ((mu_n ((mp_ne hD.1 hD.2.2.2.2.1.1.2.2.1 (by simp)))).trans ((mu_n ((mp_ne hD.1 ((hD.2.2.2.2.1.2.1 22 (by omega)).1.2) (by simp)))).trans ((mu_n ((mp_ne hD.1 ((hD.s1 hFS 22 (by omega) (by omega))) (by simp)))).trans (hD.1))))) rfl 0 (by decide) (hts (.fieldLink RX6 16 "OctagonDesk" "slots" "[LOctagonDesk$Shape;") (by decide +kernel)) (fun _ h9 => h9) rfl dX6_meet_33 ?_
  refine lv_iload_n hx hb dX6_meet_36 rfl (lv_at hl 1 rfl) ?_
  refine mw_aldq hx hb hK hP 3 ((mu_n ((mp_ne hD.2.1.1 hD.2.2.2.2.1.1.2.2.2 (by simp)))).trans ((mu_n ((mp_ne hD.2.1.1 hD.2.2.2.2.1.1.2.2.1 (by simp)))).trans ((mu_n ((mp_ne hD.2.1.1 ((hD.2.2.2.2.1.2.1 22 (by omega)).1.2) (by simp)))).trans ((mu_n ((mp_ne hD.2.1.1 ((hD.s1 hFS 22 (by omega) (by omega))) (by simp)))).trans (hD.2.1.1))))) rfl (by omega) (by omega) (hD.2.1.2.2.2.2.1 ja3 (by omega)) dX6_meet_37 ?_
  refine lv_aload_n hx hb dX6_meet_38 rfl (lv_at hl 0 rfl) ?_
  refine mw_get (C := RX6) (T := TX6) (N := 7) hx hb hts in_X6_meet_X6 hown hK hP ((mu_n ((mp_ne hD.1 hD.2.2.2.2.1.1.2.2.2 (by simp)))).trans ((mu_n ((mp_ne hD.1 hD.2.2.2.2.1.1.2.2.1 (by simp)))).trans ((mu_n ((mp_ne hD.1 ((hD.2.2.2.2.1.2.1 22 (by omega)).1.2) (by simp)))).trans ((mu_n ((mp_ne hD.1 ((hD.s1 hFS 22 (by omega) (by omega))) (by simp)))).trans (hD.1))))) rfl 1 (by decide) (hts (.fieldLink RX6 34 "OctagonDesk" "made" "LOctagonDesk$Shape;") (by decide +kernel)) (fun _ h9 => h9) rfl dX6_meet_39 ?_
  refine kc_v (va_runV (As := [.ref (sa 22)]) (rest := []) ⟨hx, hb, hml, hown, hts⟩ (c_X4_takeOver l G B (mu (mu (mu (mu μ (sa 22) (.inr (4, [.ref bn, .ref nn, .ref (la 22), .int (nI 0)]))) (la 22) (.inl (G.2 0, 78, .inr (.inl f29)))) s9 (.inl (G.2 0, 13, .inr (.inl g29)))) lo (.inl (G.2 2, 78, .inl v29))) (sa ja3) bn nn (la ja3) s9 lo 0 nf (F ja3) g29 v29 (sa 22) (la 22) 0 f29  ((mu_n ((mp_ne ((hD.s0 hFS ja3 (by omega))) hD.2.2.2.2.1.1.2.2.2 (by simp)))).trans ((mu_n ((mp_ne ((hD.s0 hFS ja3 (by omega))) hD.2.2.2.2.1.1.2.2.1 (by simp)))).trans ((mu_n ((mp_ne ((hD.s0 hFS ja3 (by omega))) ((hD.2.2.2.2.1.2.1 22 (by omega)).1.2) (by simp)))).trans ((mu_n (((hD.2.2.2.2.1.2.2 ja3 22 (by omega) (by omega) (by omega)).1))).trans ((hD.s0 hFS ja3 (by omega))))))) ((mu_n ((mp_ne hD.2.2.2.2.1.1.1 hD.2.2.2.2.1.1.2.2.2 (by simp)))).trans ((mu_n ((mp_ne hD.2.2.2.2.1.1.1 hD.2.2.2.2.1.1.2.2.1 (by simp)))).trans ((mu_n ((mp_ne hD.2.2.2.2.1.1.1 ((hD.2.2.2.2.1.2.1 22 (by omega)).1.2) (by simp)))).trans ((mu_n ((mp_ne hD.2.2.2.2.1.1.1 ((hD.s1 hFS 22 (by omega) (by omega))) (by simp)))).trans (hD.2.2.2.2.1.1.1))))) ((mu_n ((mp_ne hD.2.2.2.2.1.1.2.1 hD.2.2.2.2.1.1.2.2.2 (by simp)))).trans ((mu_n ((mp_ne hD.2.2.2.2.1.1.2.1 hD.2.2.2.2.1.1.2.2.1 (by simp)))).trans ((mu_n ((mp_ne hD.2.2.2.2.1.1.2.1 ((hD.2.2.2.2.1.2.1 22 (by omega)).1.2) (by simp)))).trans ((mu_n ((mp_ne hD.2.2.2.2.1.1.2.1 ((hD.s1 hFS 22 (by omega) (by omega))) (by simp)))).trans (hD.2.2.2.2.1.1.2.1))))) ((mu_n ((mp_ne ((hD.2.2.2.2.1.2.1 ja3 (by omega)).1.2) hD.2.2.2.2.1.1.2.2.2 (by simp)))).trans ((mu_n ((mp_ne ((hD.2.2.2.2.1.2.1 ja3 (by omega)).1.2) hD.2.2.2.2.1.1.2.2.1 (by simp)))).trans ((mu_n (((hD.2.2.2.2.1.2.2 ja3 22 (by omega) (by omega) (by omega)).2))).trans ((mu_n ((mp_ne ((hD.2.2.2.2.1.2.1 ja3 (by omega)).1.2) ((hD.s1 hFS 22 (by omega) (by omega))) (by simp)))).trans ((hD.2.2.2.2.1.2.1 ja3 (by omega)).1.2))))) ((mu_n ((mp_ne hD.2.2.2.2.1.1.2.2.1 hD.2.2.2.2.1.1.2.2.2 (by simp)))).trans (mu_s _ _ _)) (mu_s _ _ _) ((mu_n ((mp_ne ((hD.s1 hFS 22 (by omega) (by omega))) hD.2.2.2.2.1.1.2.2.2 (by simp)))).trans ((mu_n ((mp_ne ((hD.s1 hFS 22 (by omega) (by omega))) hD.2.2.2.2.1.1.2.2.1 (by simp)))).trans ((mu_n ((mp_ne ((hD.s1 hFS 22 (by omega) (by omega))) ((hD.2.2.2.2.1.2.1 22 (by omega)).1.2) (by simp)))).trans (mu_s _ _ _)))) ((mu_n ((mp_ne ((hD.2.2.2.2.1.2.1 22 (by omega)).1.2) hD.2.2.2.2.1.1.2.2.2 (by simp)))).trans ((mu_n ((mp_ne ((hD.2.2.2.2.1.2.1 22 (by omega)).1.2) hD.2.2.2.2.1.1.2.2.1 (by simp)))).trans (mu_s _ _ _))) (by omega) (((hFS.za ja3 (by omega))).ps) ((hZ29).ps) (((hD.2.2.2.2.1.2.2 ja3 22 (by omega) (by omega) (by omega)).2)) (((hD.2.2.2.2.1.2.2 ja3 22 (by omega) (by omega) (by omega)).1))) (cwV 1 hts gX6_meet_X4_takeOver rfl rfl rfl (by decide +kernel) ⟨Nat.le_of_ble_eq_true rfl, Nat.le_of_ble_eq_true rfl⟩) ⟨KW.blind, hP.recv hK rfl ((mu_n ((mp_ne ((hD.s0 hFS ja3 (by omega))) hD.2.2.2.2.1.1.2.2.2 (by simp)))).trans ((mu_n ((mp_ne ((hD.s0 hFS ja3 (by omega))) hD.2.2.2.2.1.1.2.2.1 (by simp)))).trans ((mu_n ((mp_ne ((hD.s0 hFS ja3 (by omega))) ((hD.2.2.2.2.1.2.1 22 (by omega)).1.2) (by simp)))).trans ((mu_n (((hD.2.2.2.2.1.2.2 ja3 22 (by omega) (by omega) (by omega)).1))).trans ((hD.s0 hFS ja3 (by omega))))))), fun U9 hU9 hW9 => ⟨rfl, KW.pre hBs hKK hS hP U9 hU9 hW9⟩⟩ rfl rfl hl.1 rfl (lv_room (Nat.le_of_ble_eq_true rfl)) dX6_meet_42 ⟨(Nat.le_of_ble_eq_true rfl), (Nat.le_of_ble_eq_true rfl)⟩) hS (fun m42 H locs hq9 hP hz9 hS => ?_)
  obtain ⟨f42, rfl, hf42⟩ := hq9
  have hP : mw G.1 vwCl B (mu (mu (mu (mu (mu (mu μ (sa 22) (.inr (4, [.ref bn, .ref nn, .ref (la 22), .int (nI 0)]))) (la 22) (.inl (G.2 0, 78, .inr (.inl f29)))) s9 (.inl (G.2 0, 13, .inr (.inl g29)))) lo (.inl (G.2 2, 78, .inl v29))) (sa ja3) (.inr (4, [.ref bn, .ref nn, .ref (la ja3), .int (nI 0)]))) (la ja3) (.inl (G.2 0, 78, .inr (.inl f42)))) _ := mw_eq (congrArg (fun z => mu z (la ja3) (.inl (G.2 0, 78, .inr (.inl f42)))) (rfl)) hP
  refine lv_aload_n hx hb dX6_meet_45 rfl (lv_at hl 0 rfl) ?_
  refine mw_get (C := RX6) (T := TX6) (N := 7) hx hb hts in_X6_meet_X6 hown hK hP ((mu_n ((mp_ne hD.1 ((hD.2.2.2.2.1.2.1 ja3 (by omega)).1.2) (by simp)))).trans ((mu_n ((mp_ne hD.1 ((hD.s0 hFS ja3 (by omega))) (by simp)))).trans ((mu_n ((mp_ne hD.1 hD.2.2.2.2.1.1.2.2.2 (by simp)))).trans ((mu_n ((mp_ne hD.1 hD.2.2.2.2.1.1.2.2.1 (by simp)))).trans ((mu_n ((mp_ne hD.1 ((hD.2.2.2.2.1.2.1 22 (by omega)).1.2) (by simp)))).trans ((mu_n ((mp_ne hD.1 ((hD.s1 hFS 22 (by omega) (by omega))) (by simp)))).trans (hD.1))))))) rfl 0 (by decide) (hts (.fieldLink RX6 16 "OctagonDesk" "slots" "[LOctagonDesk$Shape;") (by decide +kernel)) (fun _ h9 => h9) rfl dX6_meet_46 ?_
  refine lv_iload_n hx hb dX6_meet_49 rfl (lv_at hl 1 rfl) ?_
  refine mw_aldq hx hb hK hP 3 ((mu_n ((mp_ne hD.2.1.1 ((hD.2.2.2.2.1.2.1 ja3 (by omega)).1.2) (by simp)))).trans ((mu_n ((mp_ne hD.2.1.1 ((hD.s0 hFS ja3 (by omega))) (by simp)))).trans ((mu_n ((mp_ne hD.2.1.1 hD.2.2.2.2.1.1.2.2.2 (by simp)))).trans ((mu_n ((mp_ne hD.2.1.1 hD.2.2.2.2.1.1.2.2.1 (by simp)))).trans ((mu_n ((mp_ne hD.2.1.1 ((hD.2.2.2.2.1.2.1 22 (by omega)).1.2) (by simp)))).trans ((mu_n ((mp_ne hD.2.1.1 ((hD.s1 hFS 22 (by omega) (by omega))) (by simp)))).trans (hD.2.1.1))))))) rfl (by omega) (by omega) (hD.2.1.2.2.2.2.1 ja3 (by omega)) dX6_meet_50 ?_
  refine mw_get (C := RX4) (T := TX4) (N := 4) hx hb hts in_X6_meet_X4 hown hK hP ((mu_n ((mp_ne ((hD.s0 hFS ja3 (by omega))) ((hD.2.2.2.2.1.2.1 ja3 (by omega)).1.2) (by simp)))).trans (mu_s _ _ _)) rfl 3 (by decide) (hts (.fieldLink RX6 69 "OctagonDesk$Shape" "empty" "Z") (by decide +kernel)) (fun _ h9 => h9) rfl dX6_meet_51 ?_
  refine lv_if_ne (tgt := 61) hx hb dX6_meet_54 (by decide) (fun hc54 => ?_) (fun hc54 => ?_)
  · exact absurd rfl hc54
  · refine lv_iconst (v := nI 1) hx hb dX6_meet_57 (by decide) ?_
    refine lv_goto (tgt := 62) hx hb dX6_meet_58 (by decide) ?_
    rw [hQ]
    refine vx_ret ?_
    refine W.widen (k := 3) (n := 18) (by omega) (by omega) ?_
    exact W.zret (v := nI 1) (ty := .boolean) hx hb hr (by first | rfl | decide) (fun t99 ht99 hW99 => ⟨⟨nI 1, mu (mu (mu (mu (mu (mu μ (sa 22) (.inr (4, [.ref bn, .ref nn, .ref (la 22), .int (nI 0)]))) (la 22) (.inl (G.2 0, 78, .inr (.inl f29)))) s9 (.inl (G.2 0, 13, .inr (.inl g29)))) lo (.inl (G.2 2, 78, .inl v29))) (sa ja3) (.inr (4, [.ref bn, .ref nn, .ref (la ja3), .int (nI 0)]))) (la ja3) (.inl (G.2 0, 78, .inr (.inl f42))), rfl, (⟨hx3, rfl, (((((((DR.rf μ _).set (OW.sa (j := 22) (by omega))).set (OW.la (j := 22) (by omega))).set OW.s).set OW.l).set (OW.sa (j := ja3) (by omega))).set (OW.la (j := ja3) (by omega)))⟩), by show mw _ _ _ _ t99.heap; rw [ht99]; exact hP⟩, hS.F ht99⟩) hS.2.2 dX6_meet_62

abbrev rm_X6_most : Room := { frames := 8, cells := 4, slots := 24, locals := 141 }
set_option maxHeartbeats 4000000 in
set_option maxRecDepth 100000 in
theorem c_X6_most (l : Launch) (hlt : l.stackTraces = false) (G : GG) (B : Nat) (μ : mp) (d aS aL aR aT aO bn nn s9 lo sc : Nat) (nf : List Value) (sa la bE : Nat → Nat) (F : Nat → Nat → Int64) (g : Nat → Int64) (w9 : Nat → Int32) (fS fL fR fT : Nat → Option Nat) (sp : Nat → Nat) (fO : Nat → Int64) (x9 y9 z9 : Int32) (hD : DK G μ d aS aL aR aT aO bn nn s9 lo sc nf sa la bE F g w9 fS fL fR fT sp fO) (hFS : FS F bE g) : vx_Met l yX6_most wsX6_most rm_X6_most (va_Pc [.ref d, .int x9, .int y9, .int z9] (KX G B μ)) (va_Ql (fun r μ2 => okS x9 ∧ okP y9 z9 ∧ r = INF ∧ DR μ μ2 (OW d aO s9 lo sa la sp)) (BB G B) (fun q => B ≤ q)) (XX G B μ (fun E => E = exA ∧ ¬ (okS x9 ∧ okP y9 z9))) 4 24 (fun q => B ≤ q) := by
  refine vx_ofW (cc := cX6_most) (maxL := 4) (ret := (some .long)) (by decide) rfl ?_
  intro p e s m args below meth c s₁ B9 hml hout hv
  obtain ⟨hargs, ⟨hBs, hP, hKK⟩, hDc⟩ := hv
  have hx := B9.exec
  have hb := B9.bytes
  have hr := B9.returns
  have hts := atoms_spec (ws := wsX6_most) B9.pre
  have hown : s.vm.findClass RX6 = some m.cls := findClass_of_methodNamed B9.named
  have hlocks := B9.notSynchronized
  have hK := hKK.k
  have hS : va_S (fun q => B ≤ q) s.heap s.heap [] := va_S.rf
  obtain ⟨Q, hQ⟩ : ∃ Q, Q = vx_MQ below (va_Ql (fun r μ2 => okS x9 ∧ okP y9 z9 ∧ r = INF ∧ DR μ μ2 (OW d aO s9 lo sa la sp)) (BB G B) (fun q => B ≤ q)) (XX G B μ (fun E => E = exA ∧ ¬ (okS x9 ∧ okP y9 z9))) args s 4 24 (fun q => B ≤ q) := ⟨_, rfl⟩
  rw [← hQ]
  have in_X6_most_X6 : ∀ w ∈ wsX60, w ∈ wsX6_most := by decide +kernel
  have hl := lv_entry ([.ref d, .int x9, .int y9, .int z9]) (n := 4) (Nat.le_of_ble_eq_true rfl)
  have he9 : entryFrame m args 4 = entryFrame m ([.ref d, .int x9, .int y9, .int z9] : List Value).toArray 4 := by rw [hargs]
  rw [he9, lg_entry_eq]
  generalize (lg_sl ([.ref d, .int x9, .int y9, .int z9]) ++ List.replicate (4 - (lg_sl ([.ref d, .int x9, .int y9, .int z9])).length) Slot.unset).toArray = ls at hl ⊢
  have hl : lv_has ls 4 [(0, .ref d), (1, .int x9), (2, .int y9), (3, .int z9)] := hl
  refine lv_iload_n hx hb dX6_most_0 rfl (lv_at hl 1 rfl) ?_
  refine kx_v (vx_runS (As := [.int x9]) (rest := []) ⟨hx, hb, hml, hown, hts⟩ (c_X6_requireSlot l hlt G B (μ) x9) (va_cwS 1 hts gX6_most_X6_requireSlot rfl rfl rfl (by decide +kernel) ⟨Nat.le_of_ble_eq_true rfl, Nat.le_of_ble_eq_true rfl⟩) ⟨KX.blind, fun U9 hU9 hW9 => ⟨rfl, KW.pre hBs hKK hS hP U9 hU9 hW9, hDc.at hW9⟩⟩ rfl rfl hl.1 rfl (lv_room (Nat.le_of_ble_eq_true rfl)) dX6_most_1 ⟨(Nat.le_of_ble_eq_true rfl), (Nat.le_of_ble_eq_true rfl)⟩) hS (fun E ce q9 H locs hce hP hS h91 h92 h93 => ?_) (fun m1 H locs hq9 hP hz9 hS => ?_)
  · rw [hQ]
    exact kx_out hout hlocks h91 h92 h93 (⟨hce.1, fun h9 => hce.2 h9.1⟩) hP hS (Nat.le_of_ble_eq_true rfl) (Nat.le_of_ble_eq_true rfl)
  obtain ⟨he9, hk1⟩ := hq9
  rw [he9] at hP
  have hx1 := hk1
  obtain ⟨j1, hj1, ej1⟩ := ok_nat (by decide) hk1
  subst ej1
  refine lv_iload_n hx hb dX6_most_4 rfl (lv_at hl 2 rfl) ?_
  refine lv_iload_n hx hb dX6_most_5 rfl (lv_at hl 3 rfl) ?_
  refine kx_v (vx_runS (As := [.int y9, .int z9]) (rest := []) ⟨hx, hb, hml, hown, hts⟩ (c_X6_requireTerms l hlt G B (μ) y9 z9) (va_cwS 2 hts gX6_most_X6_requireTerms rfl rfl rfl (by decide +kernel) ⟨Nat.le_of_ble_eq_true rfl, Nat.le_of_ble_eq_true rfl⟩) ⟨KX.blind, fun U9 hU9 hW9 => ⟨rfl, KW.pre hBs hKK hS hP U9 hU9 hW9, hDc.at hW9⟩⟩ rfl rfl hl.1 rfl (lv_room (Nat.le_of_ble_eq_true rfl)) dX6_most_6 ⟨(Nat.le_of_ble_eq_true rfl), (Nat.le_of_ble_eq_true rfl)⟩) hS (fun E ce q9 H locs hce hP hS h91 h92 h93 => ?_) (fun m6 H locs hq9 hP hz9 hS => ?_)
  · rw [hQ]
    exact kx_out hout hlocks h91 h92 h93 (⟨hce.1, fun h9 => hce.2 h9.2⟩) hP hS (Nat.le_of_ble_eq_true rfl) (Nat.le_of_ble_eq_true rfl)
  obtain ⟨he9, hk6⟩ := hq9
  rw [he9] at hP
  have hkk := hk6
  obtain ⟨hp1, hp2, hp3⟩ := hk6
  obtain ⟨ny9, hny9, eny9⟩ := ok_nat (n := 12) (by decide) hp1
  subst eny9
  obtain ⟨nz9, hnz9, enz9⟩ := ok_nat (n := 12) (by decide) hp2
  subst enz9
  refine lv_aload_n hx hb dX6_most_9 rfl (lv_at hl 0 rfl) ?_
  refine lv_iload_n hx hb dX6_most_10 rfl (lv_at hl 1 rfl) ?_
  refine kc_v (va_runV (As := [.int (nI j1)]) (rest := []) ⟨hx, hb, hml, hown, hts⟩ (c_X6_requirePlace l G B (μ) d aS (sa 22) aT aO sc aL aR j1 (sa j1) bn nn (la j1) fS (hD.1) (hD.2.1.1) ((hD.s0 hFS j1 (by omega))) (by omega) (hD.2.1.2.2.2.2.1 j1 (by omega))) (cwV 1 hts gX6_most_X6_requirePlace rfl rfl rfl (by decide +kernel) ⟨Nat.le_of_ble_eq_true rfl, Nat.le_of_ble_eq_true rfl⟩) ⟨KW.blind, hP.recv hK rfl (hD.1), fun U9 hU9 hW9 => ⟨rfl, KW.pre hBs hKK hS hP U9 hU9 hW9⟩⟩ rfl rfl hl.1 rfl (lv_room (Nat.le_of_ble_eq_true rfl)) dX6_most_11 ⟨(Nat.le_of_ble_eq_true rfl), (Nat.le_of_ble_eq_true rfl)⟩) hS (fun m11 H locs hq9 hP hz9 hS => ?_)
  rw [hq9] at hP
  refine lv_aload_n hx hb dX6_most_14 rfl (lv_at hl 0 rfl) ?_
  refine mw_get (C := RX6) (T := TX6) (N := 7) hx hb hts in_X6_most_X6 hown hK hP (hD.1) rfl 0 (by decide) (hts (.fieldLink RX6 16 "OctagonDesk" "slots" "[LOctagonDesk$Shape;") (by decide +kernel)) (fun _ h9 => h9) rfl dX6_most_15 ?_
  refine lv_iload_n hx hb dX6_most_18 rfl (lv_at hl 1 rfl) ?_
  refine mw_aldq hx hb hK hP 3 (hD.2.1.1) rfl (by omega) (by omega) (hD.2.1.2.2.2.2.1 j1 (by omega)) dX6_most_19 ?_
  refine lv_iload_n hx hb dX6_most_20 rfl (lv_at hl 2 rfl) ?_
  refine lv_iload_n hx hb dX6_most_21 rfl (lv_at hl 3 rfl) ?_
  refine kc_l (va_runV (As := [.int (nI ny9), .int (nI nz9)]) (rest := []) ⟨hx, hb, hml, hown, hts⟩ (c_X4_mostOf l G B (μ) (sa j1) bn nn (la j1) s9 lo 0 nf (F j1) g w9 ny9 nz9 ((hD.s0 hFS j1 (by omega))) (hD.2.2.2.2.1.1.1) (hD.2.2.2.2.1.1.2.1) ((hD.2.2.2.2.1.2.1 j1 (by omega)).1.2) (hD.2.2.2.2.1.1.2.2.1) (hD.2.2.2.2.1.1.2.2.2) (by omega) (by omega) ((hFS.za j1 (by omega))) (hFS.2.2)) (cwV 2 hts gX6_most_X4_mostOf rfl rfl rfl (by decide +kernel) ⟨Nat.le_of_ble_eq_true rfl, Nat.le_of_ble_eq_true rfl⟩) ⟨KW.blind, hP.recv hK rfl ((hD.s0 hFS j1 (by omega))), fun U9 hU9 hW9 => ⟨rfl, KW.pre hBs hKK hS hP U9 hU9 hW9⟩⟩ rfl rfl hl.1 rfl (lv_room (Nat.le_of_ble_eq_true rfl)) dX6_most_22 ⟨(Nat.le_of_ble_eq_true rfl), (Nat.le_of_ble_eq_true rfl)⟩) hS (fun r22 m22 H locs hq9 hP hz9 hS => ?_)
  obtain ⟨g22, rfl, hN22, hr22⟩ := hq9
  have hP : mw G.1 vwCl B (mu μ s9 (.inl (G.2 0, 13, .inr (.inl g22)))) _ := hP
  rw [hQ]
  refine vx_ret ?_
  refine W.widen (k := 4) (n := 24) (by omega) (by omega) ?_
  exact W.lret (v := r22) hx hb hr (fun t99 ht99 hW99 => ⟨⟨r22, mu μ s9 (.inl (G.2 0, 13, .inr (.inl g22))), rfl, (⟨hx1, hkk, hr22.trans ((hFS.1 j1 (by omega)).most (by omega) (by omega) hp3), ((DR.rf μ _).set OW.s)⟩), by show mw _ _ _ _ t99.heap; rw [ht99]; exact hP⟩, hS.F ht99⟩) hS.2.2 dX6_most_25

abbrev rm_X6_inside : Room := { frames := 7, cells := 2, slots := 12, locals := 120 }
set_option maxHeartbeats 4000000 in
set_option maxRecDepth 100000 in
theorem c_X6_inside (l : Launch) (hlt : l.stackTraces = false) (G : GG) (B : Nat) (μ : mp) (d aS aL aR aT aO bn nn s9 lo sc : Nat) (nf : List Value) (sa la bE : Nat → Nat) (F : Nat → Nat → Int64) (g : Nat → Int64) (w9 : Nat → Int32) (fS fL fR fT : Nat → Option Nat) (sp : Nat → Nat) (fO : Nat → Int64) (x9 y9 : Int32) (hD : DK G μ d aS aL aR aT aO bn nn s9 lo sc nf sa la bE F g w9 fS fL fR fT sp fO) (hFS : FS F bE g) : vx_Met l yX6_inside wsX6_inside rm_X6_inside (va_Pc [.ref d, .int x9, .int y9] (KX G B μ)) (va_Qi (fun r μ2 => okS x9 ∧ okS y9 ∧ r = 1 ∧ DR μ μ2 (OW d aO s9 lo sa la sp)) (BB G B) (fun q => B ≤ q)) (XX G B μ (fun E => E = exA ∧ ¬ (okS x9 ∧ okS y9))) 2 12 (fun q => B ≤ q) := by
  refine vx_ofW (cc := cX6_inside) (maxL := 3) (ret := (some .boolean)) (by decide) rfl ?_
  intro p e s m args below meth c s₁ B9 hml hout hv
  obtain ⟨hargs, ⟨hBs, hP, hKK⟩, hDc⟩ := hv
  have hx := B9.exec
  have hb := B9.bytes
  have hr := B9.returns
  have hts := atoms_spec (ws := wsX6_inside) B9.pre
  have hown : s.vm.findClass RX6 = some m.cls := findClass_of_methodNamed B9.named
  have hlocks := B9.notSynchronized
  have hK := hKK.k
  have hS : va_S (fun q => B ≤ q) s.heap s.heap [] := va_S.rf
  obtain ⟨Q, hQ⟩ : ∃ Q, Q = vx_MQ below (va_Qi (fun r μ2 => okS x9 ∧ okS y9 ∧ r = 1 ∧ DR μ μ2 (OW d aO s9 lo sa la sp)) (BB G B) (fun q => B ≤ q)) (XX G B μ (fun E => E = exA ∧ ¬ (okS x9 ∧ okS y9))) args s 2 12 (fun q => B ≤ q) := ⟨_, rfl⟩
  rw [← hQ]
  have in_X6_inside_X6 : ∀ w ∈ wsX60, w ∈ wsX6_inside := by decide +kernel
  have hl := lv_entry ([.ref d, .int x9, .int y9]) (n := 3) (Nat.le_of_ble_eq_true rfl)
  have he9 : entryFrame m args 3 = entryFrame m ([.ref d, .int x9, .int y9] : List Value).toArray 3 := by rw [hargs]
  rw [he9, lg_entry_eq]
  generalize (lg_sl ([.ref d, .int x9, .int y9]) ++ List.replicate (3 - (lg_sl ([.ref d, .int x9, .int y9])).length) Slot.unset).toArray = ls at hl ⊢
  have hl : lv_has ls 3 [(0, .ref d), (1, .int x9), (2, .int y9)] := hl
  refine lv_iload_n hx hb dX6_inside_0 rfl (lv_at hl 1 rfl) ?_
  refine kx_v (vx_runS (As := [.int x9]) (rest := []) ⟨hx, hb, hml, hown, hts⟩ (c_X6_requireSlot l hlt G B (μ) x9) (va_cwS 1 hts gX6_inside_X6_requireSlot rfl rfl rfl (by decide +kernel) ⟨Nat.le_of_ble_eq_true rfl, Nat.le_of_ble_eq_true rfl⟩) ⟨KX.blind, fun U9 hU9 hW9 => ⟨rfl, KW.pre hBs hKK hS hP U9 hU9 hW9, hDc.at hW9⟩⟩ rfl rfl hl.1 rfl (lv_room (Nat.le_of_ble_eq_true rfl)) dX6_inside_1 ⟨(Nat.le_of_ble_eq_true rfl), (Nat.le_of_ble_eq_true rfl)⟩) hS (fun E ce q9 H locs hce hP hS h91 h92 h93 => ?_) (fun m1 H locs hq9 hP hz9 hS => ?_)
  · rw [hQ]
    exact kx_out hout hlocks h91 h92 h93 (⟨hce.1, fun h9 => hce.2 h9.1⟩) hP hS (Nat.le_of_ble_eq_true rfl) (Nat.le_of_ble_eq_true rfl)
  obtain ⟨he9, hk1⟩ := hq9
  rw [he9] at hP
  have hx1 := hk1
  obtain ⟨j1, hj1, ej1⟩ := ok_nat (by decide) hk1
  subst ej1
  refine lv_iload_n hx hb dX6_inside_4 rfl (lv_at hl 2 rfl) ?_
  refine kx_v (vx_runS (As := [.int y9]) (rest := []) ⟨hx, hb, hml, hown, hts⟩ (c_X6_requireSlot l hlt G B (μ) y9) (va_cwS 1 hts gX6_inside_X6_requireSlot rfl rfl rfl (by decide +kernel) ⟨Nat.le_of_ble_eq_true rfl, Nat.le_of_ble_eq_true rfl⟩) ⟨KX.blind, fun U9 hU9 hW9 => ⟨rfl, KW.pre hBs hKK hS hP U9 hU9 hW9, hDc.at hW9⟩⟩ rfl rfl hl.1 rfl (lv_room (Nat.le_of_ble_eq_true rfl)) dX6_inside_5 ⟨(Nat.le_of_ble_eq_true rfl), (Nat.le_of_ble_eq_true rfl)⟩) hS (fun E ce q9 H locs hce hP hS h91 h92 h93 => ?_) (fun m5 H locs hq9 hP hz9 hS => ?_)
  · rw [hQ]
    exact kx_out hout hlocks h91 h92 h93 (⟨hce.1, fun h9 => hce.2 h9.2⟩) hP hS (Nat.le_of_ble_eq_true rfl) (Nat.le_of_ble_eq_true rfl)
  obtain ⟨he9, hk5⟩ := hq9
  rw [he9] at hP
  have hx5 := hk5
  obtain ⟨j5, hj5, ej5⟩ := ok_nat (by decide) hk5
  subst ej5
  refine lv_aload_n hx hb dX6_inside_8 rfl (lv_at hl 0 rfl) ?_
  refine mw_get (C := RX6) (T := TX6) (N := 7) hx hb hts in_X6_inside_X6 hown hK hP (hD.1) rfl 0 (by decide) (hts (.fieldLink RX6 16 "OctagonDesk" "slots" "[LOctagonDesk$Shape;") (by decide +kernel)) (fun _ h9 => h9) rfl dX6_inside_9 ?_
  refine lv_iload_n hx hb dX6_inside_12 rfl (lv_at hl 1 rfl) ?_
  refine mw_aldq hx hb hK hP 3 (hD.2.1.1) rfl (by omega) (by omega) (hD.2.1.2.2.2.2.1 j1 (by omega)) dX6_inside_13 ?_
  refine lv_aload_n hx hb dX6_inside_14 rfl (lv_at hl 0 rfl) ?_
  refine mw_get (C := RX6) (T := TX6) (N := 7) hx hb hts in_X6_inside_X6 hown hK hP (hD.1) rfl 0 (by decide) (hts (.fieldLink RX6 16 "OctagonDesk" "slots" "[LOctagonDesk$Shape;") (by decide +kernel)) (fun _ h9 => h9) rfl dX6_inside_15 ?_
  refine lv_iload_n hx hb dX6_inside_18 rfl (lv_at hl 2 rfl) ?_
  refine mw_aldq hx hb hK hP 3 (hD.2.1.1) rfl (by omega) (by omega) (hD.2.1.2.2.2.2.1 j5 (by omega)) dX6_inside_19 ?_
  refine kc_i (va_runV (As := [.ref (sa j5)]) (rest := []) ⟨hx, hb, hml, hown, hts⟩ (c_X4_isWithin l G B (μ) (sa j1) bn nn (la j1) s9 lo nf (F j1) g w9 (sa j5) (la j5) (F j5)  ((hD.s0 hFS j1 (by omega))) (hD.2.2.2.2.1.1.1) (hD.2.2.2.2.1.1.2.1) ((hD.2.2.2.2.1.2.1 j1 (by omega)).1.2) (hD.2.2.2.2.1.1.2.2.1) (hD.2.2.2.2.1.1.2.2.2) ((hD.s0 hFS j5 (by omega))) ((hD.2.2.2.2.1.2.1 j5 (by omega)).1.2) ((hFS.za j1 (by omega))) ((hFS.za j5 (by omega))) ((hFS.1 j1 (by omega)).le (hFS.1 j5 (by omega)))) (cwV 1 hts gX6_inside_X4_isWithin rfl rfl rfl (by decide +kernel) ⟨Nat.le_of_ble_eq_true rfl, Nat.le_of_ble_eq_true rfl⟩) ⟨KW.blind, hP.recv hK rfl ((hD.s0 hFS j1 (by omega))), fun U9 hU9 hW9 => ⟨rfl, KW.pre hBs hKK hS hP U9 hU9 hW9⟩⟩ rfl rfl hl.1 rfl (lv_room (Nat.le_of_ble_eq_true rfl)) dX6_inside_20 ⟨(Nat.le_of_ble_eq_true rfl), (Nat.le_of_ble_eq_true rfl)⟩) hS (fun r20 m20 H locs hq9 hP hz9 hS => ?_)
  obtain ⟨he9, hr20⟩ := hq9
  rw [he9] at hP
  obtain rfl : r20 = nI 1 := hr20
  rw [hQ]
  refine vx_ret ?_
  refine W.widen (k := 2) (n := 12) (by omega) (by omega) ?_
  exact W.zret (v := nI 1) (ty := .boolean) hx hb hr (by first | rfl | decide) (fun t99 ht99 hW99 => ⟨⟨nI 1, μ, rfl, (⟨hx1, hx5, rfl, (DR.rf μ _)⟩), by show mw _ _ _ _ t99.heap; rw [ht99]; exact hP⟩, hS.F ht99⟩) hS.2.2 dX6_inside_23

abbrev rm_X6_bounds : Room := { frames := 7, cells := 1, slots := 6, locals := 120 }
set_option maxHeartbeats 4000000 in
set_option maxRecDepth 100000 in
theorem c_X6_bounds (l : Launch) (hlt : l.stackTraces = false) (G : GG) (B : Nat) (μ : mp) (d aS aL aR aT aO bn nn s9 lo sc : Nat) (nf : List Value) (sa la bE : Nat → Nat) (F : Nat → Nat → Int64) (g : Nat → Int64) (w9 : Nat → Int32) (fS fL fR fT : Nat → Option Nat) (sp : Nat → Nat) (fO : Nat → Int64) (x9 : Int32) (hD : DK G μ d aS aL aR aT aO bn nn s9 lo sc nf sa la bE F g w9 fS fL fR fT sp fO) (hFS : FS F bE g) : vx_Met l yX6_bounds wsX6_bounds rm_X6_bounds (va_Pc [.ref d, .int x9] (KX G B μ)) (va_Qi (fun r μ2 => okS x9 ∧ r = 0 ∧ DR μ μ2 (OW d aO s9 lo sa la sp)) (BB G B) (fun q => B ≤ q)) (XX G B μ (fun E => E = exA ∧ ¬ okS x9)) 1 6 (fun q => B ≤ q) := by
  refine vx_ofW (cc := cX6_bounds) (maxL := 2) (ret := (some .int)) (by decide) rfl ?_
  intro p e s m args below meth c s₁ B9 hml hout hv
  obtain ⟨hargs, ⟨hBs, hP, hKK⟩, hDc⟩ := hv
  have hx := B9.exec
  have hb := B9.bytes
  have hr := B9.returns
  have hts := atoms_spec (ws := wsX6_bounds) B9.pre
  have hown : s.vm.findClass RX6 = some m.cls := findClass_of_methodNamed B9.named
  have hlocks := B9.notSynchronized
  have hK := hKK.k
  have hS : va_S (fun q => B ≤ q) s.heap s.heap [] := va_S.rf
  obtain ⟨Q, hQ⟩ : ∃ Q, Q = vx_MQ below (va_Qi (fun r μ2 => okS x9 ∧ r = 0 ∧ DR μ μ2 (OW d aO s9 lo sa la sp)) (BB G B) (fun q => B ≤ q)) (XX G B μ (fun E => E = exA ∧ ¬ okS x9)) args s 1 6 (fun q => B ≤ q) := ⟨_, rfl⟩
  rw [← hQ]
  have in_X6_bounds_X4 : ∀ w ∈ wsX40, w ∈ wsX6_bounds := by decide +kernel
  have in_X6_bounds_X6 : ∀ w ∈ wsX60, w ∈ wsX6_bounds := by decide +kernel
  have hl := lv_entry ([.ref d, .int x9]) (n := 2) (Nat.le_of_ble_eq_true rfl)
  have he9 : entryFrame m args 2 = entryFrame m ([.ref d, .int x9] : List Value).toArray 2 := by rw [hargs]
  rw [he9, lg_entry_eq]
  generalize (lg_sl ([.ref d, .int x9]) ++ List.replicate (2 - (lg_sl ([.ref d, .int x9])).length) Slot.unset).toArray = ls at hl ⊢
  have hl : lv_has ls 2 [(0, .ref d), (1, .int x9)] := hl
  refine lv_iload_n hx hb dX6_bounds_0 rfl (lv_at hl 1 rfl) ?_
  refine kx_v (vx_runS (As := [.int x9]) (rest := []) ⟨hx, hb, hml, hown, hts⟩ (c_X6_requireSlot l hlt G B (μ) x9) (va_cwS 1 hts gX6_bounds_X6_requireSlot rfl rfl rfl (by decide +kernel) ⟨Nat.le_of_ble_eq_true rfl, Nat.le_of_ble_eq_true rfl⟩) ⟨KX.blind, fun U9 hU9 hW9 => ⟨rfl, KW.pre hBs hKK hS hP U9 hU9 hW9, hDc.at hW9⟩⟩ rfl rfl hl.1 rfl (lv_room (Nat.le_of_ble_eq_true rfl)) dX6_bounds_1 ⟨(Nat.le_of_ble_eq_true rfl), (Nat.le_of_ble_eq_true rfl)⟩) hS (fun E ce q9 H locs hce hP hS h91 h92 h93 => ?_) (fun m1 H locs hq9 hP hz9 hS => ?_)
  · rw [hQ]
    exact kx_out hout hlocks h91 h92 h93 (hce) hP hS (Nat.le_of_ble_eq_true rfl) (Nat.le_of_ble_eq_true rfl)
  obtain ⟨he9, hk1⟩ := hq9
  rw [he9] at hP
  have hx1 := hk1
  obtain ⟨j1, hj1, ej1⟩ := ok_nat (by decide) hk1
  subst ej1
  refine lv_aload_n hx hb dX6_bounds_4 rfl (lv_at hl 0 rfl) ?_
  refine mw_get (C := RX6) (T := TX6) (N := 7) hx hb hts in_X6_bounds_X6 hown hK hP (hD.1) rfl 0 (by decide) (hts (.fieldLink RX6 16 "OctagonDesk" "slots" "[LOctagonDesk$Shape;") (by decide +kernel)) (fun _ h9 => h9) rfl dX6_bounds_5 ?_
  refine lv_iload_n hx hb dX6_bounds_8 rfl (lv_at hl 1 rfl) ?_
  refine mw_aldq hx hb hK hP 3 (hD.2.1.1) rfl (by omega) (by omega) (hD.2.1.2.2.2.2.1 j1 (by omega)) dX6_bounds_9 ?_
  refine mw_get (C := RX4) (T := TX4) (N := 4) hx hb hts in_X6_bounds_X4 hown hK hP ((hD.s0 hFS j1 (by omega))) rfl 3 (by decide) (hts (.fieldLink RX6 69 "OctagonDesk$Shape" "empty" "Z") (by decide +kernel)) (fun _ h9 => h9) rfl dX6_bounds_10 ?_
  refine lv_if_eq (tgt := 20) hx hb dX6_bounds_13 (by decide) (fun hc13 => ?_) (fun hc13 => ?_)
  · refine lv_aload_n hx hb dX6_bounds_20 rfl (lv_at hl 0 rfl) ?_
    refine mw_get (C := RX6) (T := TX6) (N := 7) hx hb hts in_X6_bounds_X6 hown hK hP (hD.1) rfl 0 (by decide) (hts (.fieldLink RX6 16 "OctagonDesk" "slots" "[LOctagonDesk$Shape;") (by decide +kernel)) (fun _ h9 => h9) rfl dX6_bounds_21 ?_
    refine lv_iload_n hx hb dX6_bounds_24 rfl (lv_at hl 1 rfl) ?_
    refine mw_aldq hx hb hK hP 3 (hD.2.1.1) rfl (by omega) (by omega) (hD.2.1.2.2.2.2.1 j1 (by omega)) dX6_bounds_25 ?_
    refine kc_i (va_runV (As := []) (rest := []) ⟨hx, hb, hml, hown, hts⟩ (c_X4_countBounds l G B (μ) (sa j1) bn nn (la j1) s9 lo 0 nf (F j1) g w9  ((hD.s0 hFS j1 (by omega))) (hD.2.2.2.2.1.1.1) (hD.2.2.2.2.1.1.2.1) ((hD.2.2.2.2.1.2.1 j1 (by omega)).1.2) (hD.2.2.2.2.1.1.2.2.1) (hD.2.2.2.2.1.1.2.2.2) (fun p q hp hq hne => (hFS.1 j1 (by omega)).inf hp hq hne)) (cwV 0 hts gX6_bounds_X4_countBounds rfl rfl rfl (by decide +kernel) ⟨Nat.le_of_ble_eq_true rfl, Nat.le_of_ble_eq_true rfl⟩) ⟨KW.blind, hP.recv hK rfl ((hD.s0 hFS j1 (by omega))), fun U9 hU9 hW9 => ⟨rfl, KW.pre hBs hKK hS hP U9 hU9 hW9⟩⟩ rfl rfl hl.1 rfl (lv_room (Nat.le_of_ble_eq_true rfl)) dX6_bounds_26 ⟨(Nat.le_of_ble_eq_true rfl), (Nat.le_of_ble_eq_true rfl)⟩) hS (fun r26 m26 H locs hq9 hP hz9 hS => ?_)
    obtain ⟨he9, hr26⟩ := hq9
    rw [he9] at hP
    obtain rfl : r26 = nI 0 := hr26
    rw [hQ]
    refine vx_ret ?_
    refine W.widen (k := 1) (n := 6) (by omega) (by omega) ?_
    exact W.iret (v := nI 0) hx hb hr (fun t99 ht99 hW99 => ⟨⟨nI 0, μ, rfl, (⟨hx1, rfl, (DR.rf μ _)⟩), by show mw _ _ _ _ t99.heap; rw [ht99]; exact hP⟩, hS.F ht99⟩) hS.2.2 dX6_bounds_29
  · exact absurd rfl hc13

abbrev rm_X6_places : Room := { frames := 7, cells := 1, slots := 6, locals := 120 }
set_option maxHeartbeats 4000000 in
set_option maxRecDepth 100000 in
theorem c_X6_places (l : Launch) (hlt : l.stackTraces = false) (G : GG) (B : Nat) (μ : mp) (d aS aL aR aT aO bn nn s9 lo sc : Nat) (nf : List Value) (sa la bE : Nat → Nat) (F : Nat → Nat → Int64) (g : Nat → Int64) (w9 : Nat → Int32) (fS fL fR fT : Nat → Option Nat) (sp : Nat → Nat) (fO : Nat → Int64) (x9 : Int32) (hD : DK G μ d aS aL aR aT aO bn nn s9 lo sc nf sa la bE F g w9 fS fL fR fT sp fO) (hFS : FS F bE g) : vx_Met l yX6_places wsX6_places rm_X6_places (va_Pc [.ref d, .int x9] (KX G B μ)) (va_Qi (fun r μ2 => okS x9 ∧ r = -1 ∧ DR μ μ2 (OW d aO s9 lo sa la sp)) (BB G B) (fun q => B ≤ q)) (XX G B μ (fun E => E = exA ∧ ¬ okS x9)) 1 6 (fun q => B ≤ q) := by
  refine vx_ofW (cc := cX6_places) (maxL := 2) (ret := (some .int)) (by decide) rfl ?_
  intro p e s m args below meth c s₁ B9 hml hout hv
  obtain ⟨hargs, ⟨hBs, hP, hKK⟩, hDc⟩ := hv
  have hx := B9.exec
  have hb := B9.bytes
  have hr := B9.returns
  have hts := atoms_spec (ws := wsX6_places) B9.pre
  have hown : s.vm.findClass RX6 = some m.cls := findClass_of_methodNamed B9.named
  have hlocks := B9.notSynchronized
  have hK := hKK.k
  have hS : va_S (fun q => B ≤ q) s.heap s.heap [] := va_S.rf
  obtain ⟨Q, hQ⟩ : ∃ Q, Q = vx_MQ below (va_Qi (fun r μ2 => okS x9 ∧ r = -1 ∧ DR μ μ2 (OW d aO s9 lo sa la sp)) (BB G B) (fun q => B ≤ q)) (XX G B μ (fun E => E = exA ∧ ¬ okS x9)) args s 1 6 (fun q => B ≤ q) := ⟨_, rfl⟩
  rw [← hQ]
  have in_X6_places_X4 : ∀ w ∈ wsX40, w ∈ wsX6_places := by decide +kernel
  have in_X6_places_X6 : ∀ w ∈ wsX60, w ∈ wsX6_places := by decide +kernel
  have hl := lv_entry ([.ref d, .int x9]) (n := 2) (Nat.le_of_ble_eq_true rfl)
  have he9 : entryFrame m args 2 = entryFrame m ([.ref d, .int x9] : List Value).toArray 2 := by rw [hargs]
  rw [he9, lg_entry_eq]
  generalize (lg_sl ([.ref d, .int x9]) ++ List.replicate (2 - (lg_sl ([.ref d, .int x9])).length) Slot.unset).toArray = ls at hl ⊢
  have hl : lv_has ls 2 [(0, .ref d), (1, .int x9)] := hl
  refine lv_iload_n hx hb dX6_places_0 rfl (lv_at hl 1 rfl) ?_
  refine kx_v (vx_runS (As := [.int x9]) (rest := []) ⟨hx, hb, hml, hown, hts⟩ (c_X6_requireSlot l hlt G B (μ) x9) (va_cwS 1 hts gX6_places_X6_requireSlot rfl rfl rfl (by decide +kernel) ⟨Nat.le_of_ble_eq_true rfl, Nat.le_of_ble_eq_true rfl⟩) ⟨KX.blind, fun U9 hU9 hW9 => ⟨rfl, KW.pre hBs hKK hS hP U9 hU9 hW9, hDc.at hW9⟩⟩ rfl rfl hl.1 rfl (lv_room (Nat.le_of_ble_eq_true rfl)) dX6_places_1 ⟨(Nat.le_of_ble_eq_true rfl), (Nat.le_of_ble_eq_true rfl)⟩) hS (fun E ce q9 H locs hce hP hS h91 h92 h93 => ?_) (fun m1 H locs hq9 hP hz9 hS => ?_)
  · rw [hQ]
    exact kx_out hout hlocks h91 h92 h93 (hce) hP hS (Nat.le_of_ble_eq_true rfl) (Nat.le_of_ble_eq_true rfl)
  obtain ⟨he9, hk1⟩ := hq9
  rw [he9] at hP
  have hx1 := hk1
  obtain ⟨j1, hj1, ej1⟩ := ok_nat (by decide) hk1
  subst ej1
  refine lv_aload_n hx hb dX6_places_4 rfl (lv_at hl 0 rfl) ?_
  refine mw_get (C := RX6) (T := TX6) (N := 7) hx hb hts in_X6_places_X6 hown hK hP (hD.1) rfl 0 (by decide) (hts (.fieldLink RX6 16 "OctagonDesk" "slots" "[LOctagonDesk$Shape;") (by decide +kernel)) (fun _ h9 => h9) rfl dX6_places_5 ?_
  refine lv_iload_n hx hb dX6_places_8 rfl (lv_at hl 1 rfl) ?_
  refine mw_aldq hx hb hK hP 3 (hD.2.1.1) rfl (by omega) (by omega) (hD.2.1.2.2.2.2.1 j1 (by omega)) dX6_places_9 ?_
  refine mw_get (C := RX4) (T := TX4) (N := 4) hx hb hts in_X6_places_X4 hown hK hP ((hD.s0 hFS j1 (by omega))) rfl 3 (by decide) (hts (.fieldLink RX6 69 "OctagonDesk$Shape" "empty" "Z") (by decide +kernel)) (fun _ h9 => h9) rfl dX6_places_10 ?_
  refine lv_if_eq (tgt := 18) hx hb dX6_places_13 (by decide) (fun hc13 => ?_) (fun hc13 => ?_)
  · refine lv_aload_n hx hb dX6_places_18 rfl (lv_at hl 0 rfl) ?_
    refine mw_get (C := RX6) (T := TX6) (N := 7) hx hb hts in_X6_places_X6 hown hK hP (hD.1) rfl 1 (by decide) (hts (.fieldLink RX6 34 "OctagonDesk" "made" "LOctagonDesk$Shape;") (by decide +kernel)) (fun _ h9 => h9) rfl dX6_places_19 ?_
    refine lv_aload_n hx hb dX6_places_22 rfl (lv_at hl 0 rfl) ?_
    refine mw_get (C := RX6) (T := TX6) (N := 7) hx hb hts in_X6_places_X6 hown hK hP (hD.1) rfl 0 (by decide) (hts (.fieldLink RX6 16 "OctagonDesk" "slots" "[LOctagonDesk$Shape;") (by decide +kernel)) (fun _ h9 => h9) rfl dX6_places_23 ?_
    refine lv_iload_n hx hb dX6_places_26 rfl (lv_at hl 1 rfl) ?_
    refine mw_aldq hx hb hK hP 3 (hD.2.1.1) rfl (by omega) (by omega) (hD.2.1.2.2.2.2.1 j1 (by omega)) dX6_places_27 ?_
    refine kc_v (va_runV (As := [.ref (sa j1)]) (rest := []) ⟨hx, hb, hml, hown, hts⟩ (c_X4_takeOver l G B (μ) (sa 22) bn nn (la 22) s9 lo 1 nf (F 22) g w9 (sa j1) (la j1) 0 (F j1)  ((hD.s1 hFS 22 (by omega) (by omega))) (hD.2.2.2.2.1.1.1) (hD.2.2.2.2.1.1.2.1) ((hD.2.2.2.2.1.2.1 22 (by omega)).1.2) (hD.2.2.2.2.1.1.2.2.1) (hD.2.2.2.2.1.1.2.2.2) ((hD.s0 hFS j1 (by omega))) ((hD.2.2.2.2.1.2.1 j1 (by omega)).1.2) (by omega) (((hFS.za 22 (by omega))).ps) (((hFS.za j1 (by omega))).ps) (((hD.2.2.2.2.1.2.2 22 j1 (by omega) (by omega) (by omega)).2)) (((hD.2.2.2.2.1.2.2 22 j1 (by omega) (by omega) (by omega)).1))) (cwV 1 hts gX6_places_X4_takeOver rfl rfl rfl (by decide +kernel) ⟨Nat.le_of_ble_eq_true rfl, Nat.le_of_ble_eq_true rfl⟩) ⟨KW.blind, hP.recv hK rfl ((hD.s1 hFS 22 (by omega) (by omega))), fun U9 hU9 hW9 => ⟨rfl, KW.pre hBs hKK hS hP U9 hU9 hW9⟩⟩ rfl rfl hl.1 rfl (lv_room (Nat.le_of_ble_eq_true rfl)) dX6_places_28 ⟨(Nat.le_of_ble_eq_true rfl), (Nat.le_of_ble_eq_true rfl)⟩) hS (fun m28 H locs hq9 hP hz9 hS => ?_)
    obtain ⟨f28, rfl, hf28⟩ := hq9
    have hP : mw G.1 vwCl B (mu (mu μ (sa 22) (.inr (4, [.ref bn, .ref nn, .ref (la 22), .int (nI 0)]))) (la 22) (.inl (G.2 0, 78, .inr (.inl f28)))) _ := mw_eq (congrArg (fun z => mu z (la 22) (.inl (G.2 0, 78, .inr (.inl f28)))) (rfl)) hP
    refine lv_aload_n hx hb dX6_places_31 rfl (lv_at hl 0 rfl) ?_
    refine mw_get (C := RX6) (T := TX6) (N := 7) hx hb hts in_X6_places_X6 hown hK hP ((mu_n ((mp_ne hD.1 ((hD.2.2.2.2.1.2.1 22 (by omega)).1.2) (by simp)))).trans ((mu_n ((mp_ne hD.1 ((hD.s1 hFS 22 (by omega) (by omega))) (by simp)))).trans (hD.1))) rfl 1 (by decide) (hts (.fieldLink RX6 34 "OctagonDesk" "made" "LOctagonDesk$Shape;") (by decide +kernel)) (fun _ h9 => h9) rfl dX6_places_32 ?_
    refine kc_i (va_runV (As := []) (rest := []) ⟨hx, hb, hml, hown, hts⟩ (c_X4_shiftToLeast l G B (mu (mu μ (sa 22) (.inr (4, [.ref bn, .ref nn, .ref (la 22), .int (nI 0)]))) (la 22) (.inl (G.2 0, 78, .inr (.inl f28)))) (sa 22) bn nn (la 22) s9 lo 0 nf f28 g w9  ((mu_n ((mp_ne ((hD.s1 hFS 22 (by omega) (by omega))) ((hD.2.2.2.2.1.2.1 22 (by omega)).1.2) (by simp)))).trans (mu_s _ _ _)) ((mu_n ((mp_ne hD.2.2.2.2.1.1.1 ((hD.2.2.2.2.1.2.1 22 (by omega)).1.2) (by simp)))).trans ((mu_n ((mp_ne hD.2.2.2.2.1.1.1 ((hD.s1 hFS 22 (by omega) (by omega))) (by simp)))).trans (hD.2.2.2.2.1.1.1))) ((mu_n ((mp_ne hD.2.2.2.2.1.1.2.1 ((hD.2.2.2.2.1.2.1 22 (by omega)).1.2) (by simp)))).trans ((mu_n ((mp_ne hD.2.2.2.2.1.1.2.1 ((hD.s1 hFS 22 (by omega) (by omega))) (by simp)))).trans (hD.2.2.2.2.1.1.2.1))) (mu_s _ _ _) ((mu_n ((mp_ne hD.2.2.2.2.1.1.2.2.1 ((hD.2.2.2.2.1.2.1 22 (by omega)).1.2) (by simp)))).trans ((mu_n ((mp_ne hD.2.2.2.2.1.1.2.2.1 ((hD.s1 hFS 22 (by omega) (by omega))) (by simp)))).trans (hD.2.2.2.2.1.1.2.2.1))) ((mu_n ((mp_ne hD.2.2.2.2.1.1.2.2.2 ((hD.2.2.2.2.1.2.1 22 (by omega)).1.2) (by simp)))).trans ((mu_n ((mp_ne hD.2.2.2.2.1.1.2.2.2 ((hD.s1 hFS 22 (by omega) (by omega))) (by simp)))).trans (hD.2.2.2.2.1.1.2.2.2))) ((hf28 _ (ix_lt (by omega) (by omega))).trans ((hFS.1 j1 (by omega)).inf (by omega) (by omega) (by decide)))) (cwV 0 hts gX6_places_X4_shiftToLeast rfl rfl rfl (by decide +kernel) ⟨Nat.le_of_ble_eq_true rfl, Nat.le_of_ble_eq_true rfl⟩) ⟨KW.blind, hP.recv hK rfl ((mu_n ((mp_ne ((hD.s1 hFS 22 (by omega) (by omega))) ((hD.2.2.2.2.1.2.1 22 (by omega)).1.2) (by simp)))).trans (mu_s _ _ _)), fun U9 hU9 hW9 => ⟨rfl, KW.pre hBs hKK hS hP U9 hU9 hW9⟩⟩ rfl rfl hl.1 rfl (lv_room (Nat.le_of_ble_eq_true rfl)) dX6_places_35 ⟨(Nat.le_of_ble_eq_true rfl), (Nat.le_of_ble_eq_true rfl)⟩) hS (fun r35 m35 H locs hq9 hP hz9 hS => ?_)
    obtain ⟨he9, hr35⟩ := hq9
    rw [he9] at hP
    obtain rfl : r35 = nI 0 := hr35
    refine lv_if_eq (tgt := 48) hx hb dX6_places_38 (by decide) (fun hc38 => ?_) (fun hc38 => ?_)
    · refine lv_iconst (v := (-1)) hx hb dX6_places_48 (by decide) ?_
      rw [hQ]
      refine vx_ret ?_
      refine W.widen (k := 1) (n := 6) (by omega) (by omega) ?_
      exact W.iret (v := (-1)) hx hb hr (fun t99 ht99 hW99 => ⟨⟨(-1), mu (mu μ (sa 22) (.inr (4, [.ref bn, .ref nn, .ref (la 22), .int (nI 0)]))) (la 22) (.inl (G.2 0, 78, .inr (.inl f28))), rfl, (⟨hx1, rfl, (((DR.rf μ _).set (OW.sa (j := 22) (by omega))).set (OW.la (j := 22) (by omega)))⟩), by show mw _ _ _ _ t99.heap; rw [ht99]; exact hP⟩, hS.F ht99⟩) hS.2.2 dX6_places_49
    · exact absurd rfl hc38
  · exact absurd rfl hc13

abbrev rm_X6_step : Room := { frames := 9, cells := 5, slots := 30, locals := 164 }
set_option maxHeartbeats 4000000 in
set_option maxRecDepth 100000 in
theorem c_X6_step (l : Launch) (hlt : l.stackTraces = false) (G : GG) (B : Nat) (μ : mp) (d aS aL aR aT aO bn nn s9 lo : Nat) (nf : List Value) (sa la bE : Nat → Nat) (F : Nat → Nat → Int64) (g : Nat → Int64) (w9 : Nat → Int32) (fS fL fR fT : Nat → Option Nat) (sp : Nat → Nat) (fO : Nat → Int64) (x9 k9 a9 b9 c9 : Int32) (hD : DK G μ d aS aL aR aT aO bn nn s9 lo 0 nf sa la bE F g w9 fS fL fR fT sp fO) (hFS : FS F bE g) : vx_Met l yX6_step wsX6_step rm_X6_step (va_Pc [.ref d, .int x9, .int k9, .int a9, .int b9, .int c9] (KX G B μ)) (va_Qi (fun r μ2 => okW x9 ∧ okA k9 a9 b9 c9 ∧ r = 0 ∧ DR μ μ2 (OW d aO s9 lo sa la sp)) (BB G B) (fun q => B ≤ q)) (XX G B μ (fun E => E = exA ∧ ¬ (okW x9 ∧ okA k9 a9 b9 c9))) 5 30 (fun q => B ≤ q) := by
  refine vx_ofW (cc := cX6_step) (maxL := 6) (ret := (some .int)) (by decide) rfl ?_
  intro p e s m args below meth c s₁ B9 hml hout hv
  obtain ⟨hargs, ⟨hBs, hP, hKK⟩, hDc⟩ := hv
  have hx := B9.exec
  have hb := B9.bytes
  have hr := B9.returns
  have hts := atoms_spec (ws := wsX6_step) B9.pre
  have hown : s.vm.findClass RX6 = some m.cls := findClass_of_methodNamed B9.named
  have hlocks := B9.notSynchronized
  have hK := hKK.k
  have hS : va_S (fun q => B ≤ q) s.heap s.heap [] := va_S.rf
  obtain ⟨Q, hQ⟩ : ∃ Q, Q = vx_MQ below (va_Qi (fun r μ2 => okW x9 ∧ okA k9 a9 b9 c9 ∧ r = 0 ∧ DR μ μ2 (OW d aO s9 lo sa la sp)) (BB G B) (fun q => B ≤ q)) (XX G B μ (fun E => E = exA ∧ ¬ (okW x9 ∧ okA k9 a9 b9 c9))) args s 5 30 (fun q => B ≤ q) := ⟨_, rfl⟩
  rw [← hQ]
  have in_X6_step_X6 : ∀ w ∈ wsX60, w ∈ wsX6_step := by decide +kernel
  have hl := lv_entry ([.ref d, .int x9, .int k9, .int a9, .int b9, .int c9]) (n := 6) (Nat.le_of_ble_eq_true rfl)
  have he9 : entryFrame m args 6 = entryFrame m ([.ref d, .int x9, .int k9, .int a9, .int b9, .int c9] : List Value).toArray 6 := by rw [hargs]
  rw [he9, lg_entry_eq]
  generalize (lg_sl ([.ref d, .int x9, .int k9, .int a9, .int b9, .int c9]) ++ List.replicate (6 - (lg_sl ([.ref d, .int x9, .int k9, .int a9, .int b9, .int c9])).length) Slot.unset).toArray = ls at hl ⊢
  have hl : lv_has ls 6 [(0, .ref d), (1, .int x9), (2, .int k9), (3, .int a9), (4, .int b9), (5, .int c9)] := hl
  refine lv_iload_n hx hb dX6_step_0 rfl (lv_at hl 1 rfl) ?_
  refine lv_if_lt (tgt := 10) hx hb dX6_step_1 (by decide) (fun hc1 => ?_) (fun hc1 => ?_)
  · rw [hQ]
    exact kx_throw (is := 127) hx hb hlt hown (by decide +kernel) (hts (.classLink RX6 125 exA) (by decide +kernel)) (hts (.initialized exA) (by decide +kernel)) (List.mem_of_getElem? (i := 0) rfl) hKK.2.2.2.2.1.1 hDc (fun w9 h9 => hts w9 (List.mem_cons_of_mem _ (List.mem_append_left _ (List.mem_append_right _ h9)))) (by decide +kernel) (by decide +kernel) hKK hP hS (hl.1.trans hml.symm) dX6_step_10 dX6_step_13 dX6_step_14 dX6_step_16 dX6_step_19 hout (Nat.le_of_ble_eq_true rfl) (Nat.le_of_ble_eq_true rfl) (Nat.le_of_ble_eq_true rfl) (Nat.le_of_ble_eq_true rfl) (Nat.le_of_ble_eq_true rfl) hlocks (⟨rfl, fun h9 => by first | exact h9.1.1 hc1 | exact hc7 h9.1.2⟩) (Nat.le_of_ble_eq_true rfl) (Nat.le_of_ble_eq_true rfl)
  · refine lv_iload_n hx hb dX6_step_4 rfl (lv_at hl 1 rfl) ?_
    refine lv_bipush (v := nI 64) hx hb dX6_step_5 (by decide) ?_
    refine lv_icmp_lt (tgt := 20) hx hb dX6_step_7 (by decide) (fun hc7 => ?_) (fun hc7 => ?_)
    · have hw9 : okW x9 := ⟨hc1, hc7⟩
      obtain ⟨nx9, hnx9, enx9⟩ := ok_nat (n := 64) (by decide) hw9
      subst enx9
      have hw9 : okW (nI nx9) := ⟨hc1, hc7⟩
      refine lv_iload_n hx hb dX6_step_20 rfl (lv_at hl 2 rfl) ?_
      refine lv_iload_n hx hb dX6_step_21 rfl (lv_at hl 3 rfl) ?_
      refine lv_iload hx hb dX6_step_22 (lv_at hl 4 rfl) ?_
      refine lv_iload hx hb dX6_step_24 (lv_at hl 5 rfl) ?_
      refine kx_v (vx_runS (As := [.int k9, .int a9, .int b9, .int c9]) (rest := []) ⟨hx, hb, hml, hown, hts⟩ (c_X6_requireAction l hlt G B (μ) k9 a9 b9 c9) (va_cwS 4 hts gX6_step_X6_requireAction rfl rfl rfl (by decide +kernel) ⟨Nat.le_of_ble_eq_true rfl, Nat.le_of_ble_eq_true rfl⟩) ⟨KX.blind, fun U9 hU9 hW9 => ⟨rfl, KW.pre hBs hKK hS hP U9 hU9 hW9, hDc.at hW9⟩⟩ rfl rfl hl.1 rfl (lv_room (Nat.le_of_ble_eq_true rfl)) dX6_step_26 ⟨(Nat.le_of_ble_eq_true rfl), (Nat.le_of_ble_eq_true rfl)⟩) hS (fun E ce q9 H locs hce hP hS h91 h92 h93 => ?_) (fun m26 H locs hq9 hP hz9 hS => ?_)
      · rw [hQ]
        exact kx_out hout hlocks h91 h92 h93 (⟨hce.1, fun h9 => hce.2 h9.2⟩) hP hS (Nat.le_of_ble_eq_true rfl) (Nat.le_of_ble_eq_true rfl)
      obtain ⟨he9, hk26⟩ := hq9
      rw [he9] at hP
      refine lv_aload_n hx hb dX6_step_29 rfl (lv_at hl 0 rfl) ?_
      refine mw_get (C := RX6) (T := TX6) (N := 7) hx hb hts in_X6_step_X6 hown hK hP (hD.1) rfl 4 (by decide) (hts (.fieldLink RX6 42 "OctagonDesk" "stepCount" "I") (by decide +kernel)) (fun _ h9 => h9) rfl dX6_step_30 ?_
      refine lv_bipush (v := nI 20) hx hb dX6_step_33 (by decide) ?_
      refine nv_icmp_lt (tgt := 48) hx hb (by omega) (by omega) dX6_step_35 (by decide) (fun hc35 => ?_) (fun hc35 => ?_)
      · refine lv_aload_n hx hb dX6_step_48 rfl (lv_at hl 0 rfl) ?_
        obtain ⟨hs9, x1, x2, x3, x4, x5, x6, hsp⟩ := hD.2.2.2.1 0 (by omega)
        refine mw_get (C := RX6) (T := TX6) (N := 7) hx hb hts in_X6_step_X6 hown hK hP (hD.1) rfl 2 (by decide) (hts (.fieldLink RX6 48 "OctagonDesk" "steps" "[LOctagonDesk$Step;") (by decide +kernel)) (fun _ h9 => h9) rfl dX6_step_49 ?_
        refine lv_aload_n hx hb dX6_step_52 rfl (lv_at hl 0 rfl) ?_
        refine mw_get (C := RX6) (T := TX6) (N := 7) hx hb hts in_X6_step_X6 hown hK hP (hD.1) rfl 4 (by decide) (hts (.fieldLink RX6 42 "OctagonDesk" "stepCount" "I") (by decide +kernel)) (fun _ h9 => h9) rfl dX6_step_53 ?_
        refine mw_aldq hx hb hK hP 4 (hD.2.2.1) rfl (by omega) (by omega) hs9 dX6_step_56 ?_
        refine lv_iload_n hx hb dX6_step_57 rfl (lv_at hl 1 rfl) ?_
        refine lv_iload_n hx hb dX6_step_58 rfl (lv_at hl 2 rfl) ?_
        refine lv_iload_n hx hb dX6_step_59 rfl (lv_at hl 3 rfl) ?_
        refine lv_iload hx hb dX6_step_60 (lv_at hl 4 rfl) ?_
        refine lv_iload hx hb dX6_step_62 (lv_at hl 5 rfl) ?_
        refine kc_v (va_runV (As := [.int (nI nx9), .int k9, .int a9, .int b9, .int c9]) (rest := []) ⟨hx, hb, hml, hown, hts⟩ (c_X5_write l G B (μ) (sp 0) nx9 x1 x2 x3 x4 x5 x6 k9 a9 b9 c9 (hsp) (by omega)) (cwV 5 hts gX6_step_X5_write rfl rfl rfl (by decide +kernel) ⟨Nat.le_of_ble_eq_true rfl, Nat.le_of_ble_eq_true rfl⟩) ⟨KW.blind, hP.recv hK rfl (hsp), fun U9 hU9 hW9 => ⟨rfl, KW.pre hBs hKK hS hP U9 hU9 hW9⟩⟩ rfl rfl hl.1 rfl (lv_room (Nat.le_of_ble_eq_true rfl)) dX6_step_64 ⟨(Nat.le_of_ble_eq_true rfl), (Nat.le_of_ble_eq_true rfl)⟩) hS (fun m64 H locs hq9 hP hz9 hS => ?_)
        rw [hq9] at hP
        have hP : mw G.1 vwCl B (mu μ (sp 0) (.inr (5, [.int (nI (nx9 / 8)), .int (nI (nx9 % 8)), .int k9, .int a9, .int b9, .int c9]))) _ := hP
        refine lv_aload_n hx hb dX6_step_67 rfl (lv_at hl 0 rfl) ?_
        refine lv_dup hx hb dX6_step_68 rfl ?_
        refine mw_get (C := RX6) (T := TX6) (N := 7) hx hb hts in_X6_step_X6 hown hK hP ((mu_n ((mp_ne hD.1 hsp (by simp)))).trans (hD.1)) rfl 4 (by decide) (hts (.fieldLink RX6 42 "OctagonDesk" "stepCount" "I") (by decide +kernel)) (fun _ h9 => h9) rfl dX6_step_69 ?_
        refine lv_iconst (v := nI 1) hx hb dX6_step_72 (by decide) ?_
        refine nv_iadd hx hb dX6_step_73 ?_
        refine mw_put (ty := .int) (v := .int (nI 1)) (C := RX6) (T := TX6) (N := 7) hx hb hts in_X6_step_X6 tyX6 tyX6_ok nmX6 hown hK hP hS ((mu_n ((mp_ne hD.1 hsp (by simp)))).trans (hD.1)) rfl 4 (by decide) (hts (.fieldLink RX6 42 "OctagonDesk" "stepCount" "I") (by decide +kernel)) (fun _ h9 => h9) rfl (by decide +kernel) (by first | rfl | decide +kernel) (by first | rfl | decide +kernel) (Nat.le_of_ble_eq_true rfl) dX6_step_74 (fun H locs hP hS => ?_)
        have hP : mw G.1 vwCl B (mu (mu μ (sp 0) (.inr (5, [.int (nI (nx9 / 8)), .int (nI (nx9 % 8)), .int k9, .int a9, .int b9, .int c9]))) d (.inr (6, [.ref aS, .ref (sa 22), .ref aT, .ref aO, .int (nI 1), .ref aL, .ref aR]))) _ := hP
        refine lv_aload_n hx hb dX6_step_77 rfl (lv_at hl 0 rfl) ?_
        refine mw_get (C := RX6) (T := TX6) (N := 7) hx hb hts in_X6_step_X6 hown hK hP (mu_s _ _ _) rfl 4 (by decide) (hts (.fieldLink RX6 42 "OctagonDesk" "stepCount" "I") (by decide +kernel)) (fun _ h9 => h9) rfl dX6_step_78 ?_
        refine lv_iconst (v := nI 1) hx hb dX6_step_81 (by decide) ?_
        refine nv_isub hx hb (by omega) dX6_step_82 ?_
        rw [hQ]
        refine vx_ret ?_
        refine W.widen (k := 5) (n := 30) (by omega) (by omega) ?_
        exact W.iret (v := nI 0) hx hb hr (fun t99 ht99 hW99 => ⟨⟨nI 0, mu (mu μ (sp 0) (.inr (5, [.int (nI (nx9 / 8)), .int (nI (nx9 % 8)), .int k9, .int a9, .int b9, .int c9]))) d (.inr (6, [.ref aS, .ref (sa 22), .ref aT, .ref aO, .int (nI 1), .ref aL, .ref aR])), rfl, (⟨hw9, hk26, rfl, (((DR.rf μ _).set (OW.sp (j := 0) (by omega))).set OW.d)⟩), by show mw _ _ _ _ t99.heap; rw [ht99]; exact hP⟩, hS.F ht99⟩) hS.2.2 dX6_step_83
      · exact absurd hc35 (by omega)
    · rw [hQ]
      exact kx_throw (is := 127) hx hb hlt hown (by decide +kernel) (hts (.classLink RX6 125 exA) (by decide +kernel)) (hts (.initialized exA) (by decide +kernel)) (List.mem_of_getElem? (i := 0) rfl) hKK.2.2.2.2.1.1 hDc (fun w9 h9 => hts w9 (List.mem_cons_of_mem _ (List.mem_append_left _ (List.mem_append_right _ h9)))) (by decide +kernel) (by decide +kernel) hKK hP hS (hl.1.trans hml.symm) dX6_step_10 dX6_step_13 dX6_step_14 dX6_step_16 dX6_step_19 hout (Nat.le_of_ble_eq_true rfl) (Nat.le_of_ble_eq_true rfl) (Nat.le_of_ble_eq_true rfl) (Nat.le_of_ble_eq_true rfl) (Nat.le_of_ble_eq_true rfl) hlocks (⟨rfl, fun h9 => by first | exact h9.1.1 hc1 | exact hc7 h9.1.2⟩) (Nat.le_of_ble_eq_true rfl) (Nat.le_of_ble_eq_true rfl)

abbrev rm_X6_take : Room := { frames := 7, cells := 2, slots := 12, locals := 120 }
set_option maxHeartbeats 4000000 in
set_option maxRecDepth 100000 in
theorem c_X6_take (l : Launch) (hlt : l.stackTraces = false) (G : GG) (B : Nat) (μ : mp) (d aS aL aR aT aO bn nn s9 lo sc : Nat) (nf : List Value) (sa la bE : Nat → Nat) (F : Nat → Nat → Int64) (g : Nat → Int64) (w9 : Nat → Int32) (fS fL fR fT : Nat → Option Nat) (sp : Nat → Nat) (fO : Nat → Int64) (x9 y9 : Int32) (hD : DK G μ d aS aL aR aT aO bn nn s9 lo sc nf sa la bE F g w9 fS fL fR fT sp fO) (hFS : FS F bE g) : vx_Met l yX6_take wsX6_take rm_X6_take (va_Pc [.ref d, .int x9, .int y9] (KX G B μ)) (va_Qi (fun r μ2 => okS x9 ∧ okJ y9 ∧ r = 0 ∧ DR μ μ2 (OW d aO s9 lo sa la sp)) (BB G B) (fun q => B ≤ q)) (XX G B μ (fun E => E = exA ∧ ¬ (okS x9 ∧ okJ y9))) 2 12 (fun q => B ≤ q) := by
  refine vx_ofW (cc := cX6_take) (maxL := 3) (ret := (some .boolean)) (by decide) rfl ?_
  intro p e s m args below meth c s₁ B9 hml hout hv
  obtain ⟨hargs, ⟨hBs, hP, hKK⟩, hDc⟩ := hv
  have hx := B9.exec
  have hb := B9.bytes
  have hr := B9.returns
  have hts := atoms_spec (ws := wsX6_take) B9.pre
  have hown : s.vm.findClass RX6 = some m.cls := findClass_of_methodNamed B9.named
  have hlocks := B9.notSynchronized
  have hK := hKK.k
  have hS : va_S (fun q => B ≤ q) s.heap s.heap [] := va_S.rf
  obtain ⟨Q, hQ⟩ : ∃ Q, Q = vx_MQ below (va_Qi (fun r μ2 => okS x9 ∧ okJ y9 ∧ r = 0 ∧ DR μ μ2 (OW d aO s9 lo sa la sp)) (BB G B) (fun q => B ≤ q)) (XX G B μ (fun E => E = exA ∧ ¬ (okS x9 ∧ okJ y9))) args s 2 12 (fun q => B ≤ q) := ⟨_, rfl⟩
  rw [← hQ]
  have in_X6_take_X4 : ∀ w ∈ wsX40, w ∈ wsX6_take := by decide +kernel
  have in_X6_take_X6 : ∀ w ∈ wsX60, w ∈ wsX6_take := by decide +kernel
  have hl := lv_entry ([.ref d, .int x9, .int y9]) (n := 3) (Nat.le_of_ble_eq_true rfl)
  have he9 : entryFrame m args 3 = entryFrame m ([.ref d, .int x9, .int y9] : List Value).toArray 3 := by rw [hargs]
  rw [he9, lg_entry_eq]
  generalize (lg_sl ([.ref d, .int x9, .int y9]) ++ List.replicate (3 - (lg_sl ([.ref d, .int x9, .int y9])).length) Slot.unset).toArray = ls at hl ⊢
  have hl : lv_has ls 3 [(0, .ref d), (1, .int x9), (2, .int y9)] := hl
  refine lv_iload_n hx hb dX6_take_0 rfl (lv_at hl 1 rfl) ?_
  refine kx_v (vx_runS (As := [.int x9]) (rest := []) ⟨hx, hb, hml, hown, hts⟩ (c_X6_requireSlot l hlt G B (μ) x9) (va_cwS 1 hts gX6_take_X6_requireSlot rfl rfl rfl (by decide +kernel) ⟨Nat.le_of_ble_eq_true rfl, Nat.le_of_ble_eq_true rfl⟩) ⟨KX.blind, fun U9 hU9 hW9 => ⟨rfl, KW.pre hBs hKK hS hP U9 hU9 hW9, hDc.at hW9⟩⟩ rfl rfl hl.1 rfl (lv_room (Nat.le_of_ble_eq_true rfl)) dX6_take_1 ⟨(Nat.le_of_ble_eq_true rfl), (Nat.le_of_ble_eq_true rfl)⟩) hS (fun E ce q9 H locs hce hP hS h91 h92 h93 => ?_) (fun m1 H locs hq9 hP hz9 hS => ?_)
  · rw [hQ]
    exact kx_out hout hlocks h91 h92 h93 (⟨hce.1, fun h9 => hce.2 h9.1⟩) hP hS (Nat.le_of_ble_eq_true rfl) (Nat.le_of_ble_eq_true rfl)
  obtain ⟨he9, hk1⟩ := hq9
  rw [he9] at hP
  have hx1 := hk1
  obtain ⟨j1, hj1, ej1⟩ := ok_nat (by decide) hk1
  subst ej1
  refine lv_iload_n hx hb dX6_take_4 rfl (lv_at hl 2 rfl) ?_
  refine lv_if_lt (tgt := 14) hx hb dX6_take_5 (by decide) (fun hc5 => ?_) (fun hc5 => ?_)
  · rw [hQ]
    exact kx_throw (is := 151) hx hb hlt hown (by decide +kernel) (hts (.classLink RX6 125 exA) (by decide +kernel)) (hts (.initialized exA) (by decide +kernel)) (List.mem_of_getElem? (i := 2) rfl) hKK.2.2.2.2.1.1 hDc (fun w9 h9 => hts w9 (List.mem_cons_of_mem _ (List.mem_append_right _ h9))) (by decide +kernel) (by decide +kernel) hKK hP hS (hl.1.trans hml.symm) dX6_take_14 dX6_take_17 dX6_take_18 dX6_take_20 dX6_take_23 hout (Nat.le_of_ble_eq_true rfl) (Nat.le_of_ble_eq_true rfl) (Nat.le_of_ble_eq_true rfl) (Nat.le_of_ble_eq_true rfl) (Nat.le_of_ble_eq_true rfl) hlocks (⟨rfl, fun h9 => by first | exact h9.2.1 hc5 | exact hc11 h9.2.2⟩) (Nat.le_of_ble_eq_true rfl) (Nat.le_of_ble_eq_true rfl)
  · refine lv_iload_n hx hb dX6_take_8 rfl (lv_at hl 2 rfl) ?_
    refine lv_bipush (v := nI 8) hx hb dX6_take_9 (by decide) ?_
    refine lv_icmp_lt (tgt := 24) hx hb dX6_take_11 (by decide) (fun hc11 => ?_) (fun hc11 => ?_)
    · have hw9 : okJ y9 := ⟨hc5, hc11⟩
      obtain ⟨ny9, hny9, eny9⟩ := ok_nat (n := 8) (by decide) hw9
      subst eny9
      have hw9 : okJ (nI ny9) := ⟨hc5, hc11⟩
      refine lv_aload_n hx hb dX6_take_24 rfl (lv_at hl 0 rfl) ?_
      refine mw_get (C := RX6) (T := TX6) (N := 7) hx hb hts in_X6_take_X6 hown hK hP (hD.1) rfl 0 (by decide) (hts (.fieldLink RX6 16 "OctagonDesk" "slots" "[LOctagonDesk$Shape;") (by decide +kernel)) (fun _ h9 => h9) rfl dX6_take_25 ?_
      refine lv_iload_n hx hb dX6_take_28 rfl (lv_at hl 1 rfl) ?_
      refine mw_aldq hx hb hK hP 3 (hD.2.1.1) rfl (by omega) (by omega) (hD.2.1.2.2.2.2.1 j1 (by omega)) dX6_take_29 ?_
      refine lv_aload_n hx hb dX6_take_30 rfl (lv_at hl 0 rfl) ?_
      refine mw_get (C := RX6) (T := TX6) (N := 7) hx hb hts in_X6_take_X6 hown hK hP (hD.1) rfl 5 (by decide) (hts (.fieldLink RX6 25 "OctagonDesk" "left" "[LOctagonDesk$Shape;") (by decide +kernel)) (fun _ h9 => h9) rfl dX6_take_31 ?_
      refine lv_iload_n hx hb dX6_take_34 rfl (lv_at hl 2 rfl) ?_
      refine mw_aldq hx hb hK hP 3 (hD.2.1.2.1) rfl (by omega) (by omega) (hD.2.1.2.2.2.2.2.1 ny9 (by omega)) dX6_take_35 ?_
      refine kc_v (va_runV (As := [.ref (sa (6 + ny9))]) (rest := []) ⟨hx, hb, hml, hown, hts⟩ (c_X4_takeOver l G B (μ) (sa j1) bn nn (la j1) s9 lo 0 nf (F j1) g w9 (sa (6 + ny9)) (la (6 + ny9)) 1 (F (6 + ny9))  ((hD.s0 hFS j1 (by omega))) (hD.2.2.2.2.1.1.1) (hD.2.2.2.2.1.1.2.1) ((hD.2.2.2.2.1.2.1 j1 (by omega)).1.2) (hD.2.2.2.2.1.1.2.2.1) (hD.2.2.2.2.1.1.2.2.2) ((hD.s1 hFS (6 + ny9) (by omega) (by omega))) ((hD.2.2.2.2.1.2.1 (6 + ny9) (by omega)).1.2) (by omega) (((hFS.za j1 (by omega))).ps) (((hFS.za (6 + ny9) (by omega))).ps) (((hD.2.2.2.2.1.2.2 j1 (6 + ny9) (by omega) (by omega) (by omega)).2)) (((hD.2.2.2.2.1.2.2 j1 (6 + ny9) (by omega) (by omega) (by omega)).1))) (cwV 1 hts gX6_take_X4_takeOver rfl rfl rfl (by decide +kernel) ⟨Nat.le_of_ble_eq_true rfl, Nat.le_of_ble_eq_true rfl⟩) ⟨KW.blind, hP.recv hK rfl ((hD.s0 hFS j1 (by omega))), fun U9 hU9 hW9 => ⟨rfl, KW.pre hBs hKK hS hP U9 hU9 hW9⟩⟩ rfl rfl hl.1 rfl (lv_room (Nat.le_of_ble_eq_true rfl)) dX6_take_36 ⟨(Nat.le_of_ble_eq_true rfl), (Nat.le_of_ble_eq_true rfl)⟩) hS (fun m36 H locs hq9 hP hz9 hS => ?_)
      obtain ⟨f36, rfl, hf36⟩ := hq9
      have hP : mw G.1 vwCl B (mu (mu μ (sa j1) (.inr (4, [.ref bn, .ref nn, .ref (la j1), .int (nI 1)]))) (la j1) (.inl (G.2 0, 78, .inr (.inl f36)))) _ := mw_eq (congrArg (fun z => mu z (la j1) (.inl (G.2 0, 78, .inr (.inl f36)))) (rfl)) hP
      refine lv_aload_n hx hb dX6_take_39 rfl (lv_at hl 0 rfl) ?_
      refine mw_get (C := RX6) (T := TX6) (N := 7) hx hb hts in_X6_take_X6 hown hK hP ((mu_n ((mp_ne hD.1 ((hD.2.2.2.2.1.2.1 j1 (by omega)).1.2) (by simp)))).trans ((mu_n ((mp_ne hD.1 ((hD.s0 hFS j1 (by omega))) (by simp)))).trans (hD.1))) rfl 0 (by decide) (hts (.fieldLink RX6 16 "OctagonDesk" "slots" "[LOctagonDesk$Shape;") (by decide +kernel)) (fun _ h9 => h9) rfl dX6_take_40 ?_
      refine lv_iload_n hx hb dX6_take_43 rfl (lv_at hl 1 rfl) ?_
      refine mw_aldq hx hb hK hP 3 ((mu_n ((mp_ne hD.2.1.1 ((hD.2.2.2.2.1.2.1 j1 (by omega)).1.2) (by simp)))).trans ((mu_n ((mp_ne hD.2.1.1 ((hD.s0 hFS j1 (by omega))) (by simp)))).trans (hD.2.1.1))) rfl (by omega) (by omega) (hD.2.1.2.2.2.2.1 j1 (by omega)) dX6_take_44 ?_
      refine mw_get (C := RX4) (T := TX4) (N := 4) hx hb hts in_X6_take_X4 hown hK hP ((mu_n ((mp_ne ((hD.s0 hFS j1 (by omega))) ((hD.2.2.2.2.1.2.1 j1 (by omega)).1.2) (by simp)))).trans (mu_s _ _ _)) rfl 3 (by decide) (hts (.fieldLink RX6 69 "OctagonDesk$Shape" "empty" "Z") (by decide +kernel)) (fun _ h9 => h9) rfl dX6_take_45 ?_
      refine lv_if_ne (tgt := 55) hx hb dX6_take_48 (by decide) (fun hc48 => ?_) (fun hc48 => ?_)
      · refine lv_iconst (v := nI 0) hx hb dX6_take_55 (by decide) ?_
        rw [hQ]
        refine vx_ret ?_
        refine W.widen (k := 2) (n := 12) (by omega) (by omega) ?_
        exact W.zret (v := nI 0) (ty := .boolean) hx hb hr (by first | rfl | decide) (fun t99 ht99 hW99 => ⟨⟨nI 0, mu (mu μ (sa j1) (.inr (4, [.ref bn, .ref nn, .ref (la j1), .int (nI 1)]))) (la j1) (.inl (G.2 0, 78, .inr (.inl f36))), rfl, (⟨hx1, hw9, rfl, (((DR.rf μ _).set (OW.sa (j := j1) (by omega))).set (OW.la (j := j1) (by omega)))⟩), by show mw _ _ _ _ t99.heap; rw [ht99]; exact hP⟩, hS.F ht99⟩) hS.2.2 dX6_take_56
      · exact absurd hc48 (by decide)
    · rw [hQ]
      exact kx_throw (is := 151) hx hb hlt hown (by decide +kernel) (hts (.classLink RX6 125 exA) (by decide +kernel)) (hts (.initialized exA) (by decide +kernel)) (List.mem_of_getElem? (i := 2) rfl) hKK.2.2.2.2.1.1 hDc (fun w9 h9 => hts w9 (List.mem_cons_of_mem _ (List.mem_append_right _ h9))) (by decide +kernel) (by decide +kernel) hKK hP hS (hl.1.trans hml.symm) dX6_take_14 dX6_take_17 dX6_take_18 dX6_take_20 dX6_take_23 hout (Nat.le_of_ble_eq_true rfl) (Nat.le_of_ble_eq_true rfl) (Nat.le_of_ble_eq_true rfl) (Nat.le_of_ble_eq_true rfl) (Nat.le_of_ble_eq_true rfl) hlocks (⟨rfl, fun h9 => by first | exact h9.2.1 hc5 | exact hc11 h9.2.2⟩) (Nat.le_of_ble_eq_true rfl) (Nat.le_of_ble_eq_true rfl)

abbrev rm_X6_run : Room := { frames := 7, cells := 1, slots := 6, locals := 120 }
set_option maxHeartbeats 4000000 in
set_option maxRecDepth 100000 in
theorem c_X6_run (l : Launch) (hlt : l.stackTraces = false) (G : GG) (B : Nat) (μ : mp) (d aS aL aR aT aO bn nn s9 lo : Nat) (nf : List Value) (sa la bE : Nat → Nat) (F : Nat → Nat → Int64) (g : Nat → Int64) (w9 : Nat → Int32) (fS fL fR fT : Nat → Option Nat) (sp : Nat → Nat) (fO : Nat → Int64) (x9 : Int32) (hD : DK G μ d aS aL aR aT aO bn nn s9 lo 0 nf sa la bE F g w9 fS fL fR fT sp fO) (hFS : FS F bE g) : vx_Met l yX6_run wsX6_run rm_X6_run (va_Pc [.ref d, .int x9] (KX G B μ)) (va_Qi (fun r μ2 => okS x9 ∧ r = 1 ∧ DR μ μ2 (OW d aO s9 lo sa la sp)) (BB G B) (fun q => B ≤ q)) (XX G B μ (fun E => E = exA ∧ ¬ okS x9)) 1 6 (fun q => B ≤ q) := by
  refine vx_ofW (cc := cX6_run) (maxL := 5) (ret := (some .int)) (by decide) rfl ?_
  intro p e s m args below meth c s₁ B9 hml hout hv
  obtain ⟨hargs, ⟨hBs, hP, hKK⟩, hDc⟩ := hv
  have hx := B9.exec
  have hb := B9.bytes
  have hr := B9.returns
  have hts := atoms_spec (ws := wsX6_run) B9.pre
  have hown : s.vm.findClass RX6 = some m.cls := findClass_of_methodNamed B9.named
  have hlocks := B9.notSynchronized
  have hK := hKK.k
  have hS : va_S (fun q => B ≤ q) s.heap s.heap [] := va_S.rf
  obtain ⟨Q, hQ⟩ : ∃ Q, Q = vx_MQ below (va_Qi (fun r μ2 => okS x9 ∧ r = 1 ∧ DR μ μ2 (OW d aO s9 lo sa la sp)) (BB G B) (fun q => B ≤ q)) (XX G B μ (fun E => E = exA ∧ ¬ okS x9)) args s 1 6 (fun q => B ≤ q) := ⟨_, rfl⟩
  rw [← hQ]
  have in_X6_run_X6 : ∀ w ∈ wsX60, w ∈ wsX6_run := by decide +kernel
  have L6 : ∀ (N6 : Nat) (p1 : Nat) (j0 : Nat) (μ1 : mp) (bE1 : Nat → Nat) (F1 : Nat → Nat → Int64) (hN6 : 8 - p1 < N6) (hp1 : p1 ≤ 8) (hj0 : j0 < 6) (hx1 : okS x9) (hD1 : DK G μ1 d aS aL aR aT aO bn nn s9 lo 0 nf sa la bE1 F1 g w9 fS fL fR fT sp fO) (hF1 : FS F1 bE1 g) (hR1 : DR μ μ1 (OW d aO s9 lo sa la sp)), ∀ (H : Heap) (locs : List Loc), mw G.1 vwCl B (μ1) H → va_S (fun q => B ≤ q) s.heap H locs → ∀ ls : Array Slot, lv_has ls 5 [(0, .ref d), (1, .int (nI j0)), (2, .int (nI p1))] → W p l e rm_X6_run s m args below meth c H locs 1 6 Q (F0 m 6 ls []) := by
    intro N6
    induction N6 with
    | zero => intro p1 j0 μ1 bE1 F1 hN6; exact absurd hN6 (Nat.not_lt_zero _)
    | succ N6 ih6 =>
      intro p1 j0 μ1 bE1 F1 hN6 hp1 hj0 hx1 hD1 hF1 hR1 H locs hP hS ls hl
      refine lv_iload_n hx hb dX6_run_6 rfl (lv_at hl 2 rfl) ?_
      refine lv_bipush (v := nI 8) hx hb dX6_run_7 (by decide) ?_
      refine nv_icmp_ge (tgt := 27) hx hb (by omega) (by omega) dX6_run_9 (by decide) (fun hc9 => ?_) (fun hc9 => ?_)
      · refine lv_aload_n hx hb dX6_run_27 rfl (lv_at hl 0 rfl) ?_
        refine mw_get (C := RX6) (T := TX6) (N := 7) hx hb hts in_X6_run_X6 hown hK hP (hD1.1) rfl 6 (by decide) (hts (.fieldLink RX6 28 "OctagonDesk" "reached" "[LOctagonDesk$Shape;") (by decide +kernel)) (fun _ h9 => h9) rfl dX6_run_28 ?_
        refine lv_iconst (v := nI 0) hx hb dX6_run_31 (by decide) ?_
        refine mw_aldq hx hb hK hP 3 (hD1.2.1.2.2.1) rfl (by omega) (by omega) (hD1.2.1.2.2.2.2.2.2 0 (by omega)) dX6_run_32 ?_
        refine lv_aload_n hx hb dX6_run_33 rfl (lv_at hl 0 rfl) ?_
        refine mw_get (C := RX6) (T := TX6) (N := 7) hx hb hts in_X6_run_X6 hown hK hP (hD1.1) rfl 0 (by decide) (hts (.fieldLink RX6 16 "OctagonDesk" "slots" "[LOctagonDesk$Shape;") (by decide +kernel)) (fun _ h9 => h9) rfl dX6_run_34 ?_
        refine lv_iload_n hx hb dX6_run_37 rfl (lv_at hl 1 rfl) ?_
        refine mw_aldq hx hb hK hP 3 (hD1.2.1.1) rfl (by omega) (by omega) (hD1.2.1.2.2.2.2.1 j0 (by omega)) dX6_run_38 ?_
        refine kc_v (va_runV (As := [.ref (sa j0)]) (rest := []) ⟨hx, hb, hml, hown, hts⟩ (c_X4_takeOver l G B (μ1) (sa (14 + 0)) bn nn (la (14 + 0)) s9 lo 1 nf (F1 (14 + 0)) g w9 (sa j0) (la j0) 0 (F1 j0)  ((hD1.s1 hF1 (14 + 0) (by omega) (by omega))) (hD1.2.2.2.2.1.1.1) (hD1.2.2.2.2.1.1.2.1) ((hD1.2.2.2.2.1.2.1 (14 + 0) (by omega)).1.2) (hD1.2.2.2.2.1.1.2.2.1) (hD1.2.2.2.2.1.1.2.2.2) ((hD1.s0 hF1 j0 (by omega))) ((hD1.2.2.2.2.1.2.1 j0 (by omega)).1.2) (by omega) (((hF1.za (14 + 0) (by omega))).ps) (((hF1.za j0 (by omega))).ps) (((hD1.2.2.2.2.1.2.2 (14 + 0) j0 (by omega) (by omega) (by omega)).2)) (((hD1.2.2.2.2.1.2.2 (14 + 0) j0 (by omega) (by omega) (by omega)).1))) (cwV 1 hts gX6_run_X4_takeOver rfl rfl rfl (by decide +kernel) ⟨Nat.le_of_ble_eq_true rfl, Nat.le_of_ble_eq_true rfl⟩) ⟨KW.blind, hP.recv hK rfl ((hD1.s1 hF1 (14 + 0) (by omega) (by omega))), fun U9 hU9 hW9 => ⟨rfl, KW.pre hBs hKK hS hP U9 hU9 hW9⟩⟩ rfl rfl hl.1 rfl (lv_room (Nat.le_of_ble_eq_true rfl)) dX6_run_39 ⟨(Nat.le_of_ble_eq_true rfl), (Nat.le_of_ble_eq_true rfl)⟩) hS (fun m39 H locs hq9 hP hz9 hS => ?_)
        obtain ⟨f39, rfl, hf39⟩ := hq9
        have hP : mw G.1 vwCl B (mu (mu μ1 (sa (14 + 0)) (.inr (4, [.ref bn, .ref nn, .ref (la (14 + 0)), .int (nI 0)]))) (la (14 + 0)) (.inl (G.2 0, 78, .inr (.inl f39)))) _ := mw_eq (congrArg (fun z => mu z (la (14 + 0)) (.inl (G.2 0, 78, .inr (.inl f39)))) (rfl)) hP
        refine lv_iconst (v := nI 1) hx hb dX6_run_42 (by decide) ?_
        refine lv_istore_n (lv' := [(2, .int (nI 1)), (0, .ref d), (1, .int (nI j0))]) hx hb dX6_run_43 rfl hl (by decide) rfl (fun ls hl => ?_)
        refine lv_iload_n hx hb dX6_run_44 rfl (lv_at hl 0 rfl) ?_
        refine lv_bipush (v := nI 30) hx hb dX6_run_45 (by decide) ?_
        refine nv_icmp_gt (tgt := 101) hx hb (by omega) (by omega) dX6_run_47 (by decide) (fun hc47 => ?_) (fun hc47 => ?_)
        · exact absurd hc47 (by omega)
        · refine lv_iconst (v := nI 0) hx hb dX6_run_50 (by decide) ?_
          refine lv_istore_n (lv' := [(3, .int (nI 0)), (2, .int (nI 1)), (0, .ref d), (1, .int (nI j0))]) hx hb dX6_run_51 rfl hl (by decide) rfl (fun ls hl => ?_)
          refine lv_iconst (v := nI 0) hx hb dX6_run_52 (by decide) ?_
          refine lv_istore (lv' := [(4, .int (nI 0)), (3, .int (nI 0)), (2, .int (nI 1)), (0, .ref d), (1, .int (nI j0))]) hx hb dX6_run_53 hl (by decide) rfl (fun ls hl => ?_)
          refine lv_iload hx hb dX6_run_55 (lv_at hl 0 rfl) ?_
          refine lv_aload_n hx hb dX6_run_57 rfl (lv_at hl 3 rfl) ?_
          refine mw_get (C := RX6) (T := TX6) (N := 7) hx hb hts in_X6_run_X6 hown hK hP ((mu_n ((mp_ne hD1.1 ((hD1.2.2.2.2.1.2.1 (14 + 0) (by omega)).1.2) (by simp)))).trans ((mu_n ((mp_ne hD1.1 ((hD1.s1 hF1 (14 + 0) (by omega) (by omega))) (by simp)))).trans (hD1.1))) rfl 4 (by decide) (hts (.fieldLink RX6 42 "OctagonDesk" "stepCount" "I") (by decide +kernel)) (fun _ h9 => h9) rfl dX6_run_58 ?_
          refine nv_icmp_ge (tgt := 85) hx hb (by omega) (by omega) dX6_run_61 (by decide) (fun hc61 => ?_) (fun hc61 => ?_)
          · refine lv_iload_n hx hb dX6_run_85 rfl (lv_at hl 1 rfl) ?_
            refine lv_if_ne (tgt := 95) hx hb dX6_run_86 (by decide) (fun hc86 => ?_) (fun hc86 => ?_)
            · exact absurd rfl hc86
            · refine lv_aload_n hx hb dX6_run_89 rfl (lv_at hl 3 rfl) ?_
              refine kc_v (va_runV (As := []) (rest := []) ⟨hx, hb, hml, hown, hts⟩ (c_X6_keepReached l G B (mu (mu μ1 (sa (14 + 0)) (.inr (4, [.ref bn, .ref nn, .ref (la (14 + 0)), .int (nI 0)]))) (la (14 + 0)) (.inl (G.2 0, 78, .inr (.inl f39)))) d aS (sa 22) aT aO 0 aL aR ((mu_n ((mp_ne hD1.1 ((hD1.2.2.2.2.1.2.1 (14 + 0) (by omega)).1.2) (by simp)))).trans ((mu_n ((mp_ne hD1.1 ((hD1.s1 hF1 (14 + 0) (by omega) (by omega))) (by simp)))).trans (hD1.1)))) (cwV 0 hts gX6_run_X6_keepReached rfl rfl rfl (by decide +kernel) ⟨Nat.le_of_ble_eq_true rfl, Nat.le_of_ble_eq_true rfl⟩) ⟨KW.blind, hP.recv hK rfl ((mu_n ((mp_ne hD1.1 ((hD1.2.2.2.2.1.2.1 (14 + 0) (by omega)).1.2) (by simp)))).trans ((mu_n ((mp_ne hD1.1 ((hD1.s1 hF1 (14 + 0) (by omega) (by omega))) (by simp)))).trans (hD1.1))), fun U9 hU9 hW9 => ⟨rfl, KW.pre hBs hKK hS hP U9 hU9 hW9⟩⟩ rfl rfl hl.1 rfl (lv_room (Nat.le_of_ble_eq_true rfl)) dX6_run_90 ⟨(Nat.le_of_ble_eq_true rfl), (Nat.le_of_ble_eq_true rfl)⟩) hS (fun m90 H locs hq9 hP hz9 hS => ?_)
              rw [hq9] at hP
              have hP : mw G.1 vwCl B (mu (mu (mu μ1 (sa (14 + 0)) (.inr (4, [.ref bn, .ref nn, .ref (la (14 + 0)), .int (nI 0)]))) (la (14 + 0)) (.inl (G.2 0, 78, .inr (.inl f39)))) d (.inr (6, [.ref aS, .ref (sa 22), .ref aT, .ref aO, .int (nI 0), .ref aR, .ref aL]))) _ := hP
              refine lv_iload_n hx hb dX6_run_93 rfl (lv_at hl 2 rfl) ?_
              rw [hQ]
              refine vx_ret ?_
              refine W.widen (k := 1) (n := 6) (by omega) (by omega) ?_
              exact W.iret (v := nI 1) hx hb hr (fun t99 ht99 hW99 => ⟨⟨nI 1, mu (mu (mu μ1 (sa (14 + 0)) (.inr (4, [.ref bn, .ref nn, .ref (la (14 + 0)), .int (nI 0)]))) (la (14 + 0)) (.inl (G.2 0, 78, .inr (.inl f39)))) d (.inr (6, [.ref aS, .ref (sa 22), .ref aT, .ref aO, .int (nI 0), .ref aR, .ref aL])), rfl, (⟨hx1, rfl, (((hR1.set (OW.sa (j := (14 + 0)) (by omega))).set (OW.la (j := (14 + 0)) (by omega))).set OW.d)⟩), by show mw _ _ _ _ t99.heap; rw [ht99]; exact hP⟩, hS.F ht99⟩) hS.2.2 dX6_run_94
          · exact absurd hc61 (by omega)
      · refine lv_aload_n hx hb dX6_run_12 rfl (lv_at hl 0 rfl) ?_
        refine mw_get (C := RX6) (T := TX6) (N := 7) hx hb hts in_X6_run_X6 hown hK hP (hD1.1) rfl 6 (by decide) (hts (.fieldLink RX6 28 "OctagonDesk" "reached" "[LOctagonDesk$Shape;") (by decide +kernel)) (fun _ h9 => h9) rfl dX6_run_13 ?_
        refine lv_iload_n hx hb dX6_run_16 rfl (lv_at hl 2 rfl) ?_
        refine mw_aldq hx hb hK hP 3 (hD1.2.1.2.2.1) rfl (by omega) (by omega) (hD1.2.1.2.2.2.2.2.2 p1 (by omega)) dX6_run_17 ?_
        refine kc_v (va_runV (As := []) (rest := []) ⟨hx, hb, hml, hown, hts⟩ (c_X4_allowNone l G B (μ1) (sa (14 + p1)) bn nn (la (14 + p1)) s9 lo 1 nf (F1 (14 + p1)) g w9  ((hD1.s1 hF1 (14 + p1) (by omega) (by omega))) (hD1.2.2.2.2.1.1.1) (hD1.2.2.2.2.1.1.2.1) ((hD1.2.2.2.2.1.2.1 (14 + p1) (by omega)).1.2) (hD1.2.2.2.2.1.1.2.2.1) (hD1.2.2.2.2.1.1.2.2.2) (((hF1.za (14 + p1) (by omega))).ps)) (cwV 0 hts gX6_run_X4_allowNone rfl rfl rfl (by decide +kernel) ⟨Nat.le_of_ble_eq_true rfl, Nat.le_of_ble_eq_true rfl⟩) ⟨KW.blind, hP.recv hK rfl ((hD1.s1 hF1 (14 + p1) (by omega) (by omega))), fun U9 hU9 hW9 => ⟨rfl, KW.pre hBs hKK hS hP U9 hU9 hW9⟩⟩ rfl rfl hl.1 rfl (lv_room (Nat.le_of_ble_eq_true rfl)) dX6_run_18 ⟨(Nat.le_of_ble_eq_true rfl), (Nat.le_of_ble_eq_true rfl)⟩) hS (fun m18 H locs hq9 hP hz9 hS => ?_)
        obtain ⟨f18, rfl, hf18⟩ := hq9
        have hP : mw G.1 vwCl B (mu (mu μ1 (sa (14 + p1)) (.inr (4, [.ref bn, .ref nn, .ref (la (14 + p1)), .int (nI 1)]))) (la (14 + p1)) (.inl (G.2 0, 78, .inr (.inl f18)))) _ := mw_eq (congrArg (fun z => mu z (la (14 + p1)) (.inl (G.2 0, 78, .inr (.inl f18)))) (rfl)) hP
        refine lv_iinc (v := nI (p1 + 1)) (lv' := [(2, .int (nI (p1 + 1))), (0, .ref d), (1, .int (nI j0))]) hx hb dX6_run_21 hl (k := 2) rfl (nI_add _ _) (by decide) rfl (fun ls hl => ?_)
        refine lv_goto (tgt := 6) hx hb dX6_run_24 (by decide) ?_
        refine W.widen (k := 1) (n := 6) (by omega) (by omega) ?_
        exact ih6 (p1 + 1) j0 (mu (mu μ1 (sa (14 + p1)) (.inr (4, [.ref bn, .ref nn, .ref (la (14 + p1)), .int (nI 1)]))) (la (14 + p1)) (.inl (G.2 0, 78, .inr (.inl f18)))) (va_up bE1 (14 + p1) 1) (va_up F1 (14 + p1) f18) (by omega) (by omega) (by omega) (hx1) (hD1.sh (by omega) (by omega)) (hF1.up (by omega) (fun c hc => Or.inr (hf18 c hc))) (((hR1.set (OW.sa (j := (14 + p1)) (by omega))).set (OW.la (j := (14 + p1)) (by omega)))) _ _ hP hS ls (lv_sub hl [1, 2, 0] rfl)
  have hl := lv_entry ([.ref d, .int x9]) (n := 5) (Nat.le_of_ble_eq_true rfl)
  have he9 : entryFrame m args 5 = entryFrame m ([.ref d, .int x9] : List Value).toArray 5 := by rw [hargs]
  rw [he9, lg_entry_eq]
  generalize (lg_sl ([.ref d, .int x9]) ++ List.replicate (5 - (lg_sl ([.ref d, .int x9])).length) Slot.unset).toArray = ls at hl ⊢
  have hl : lv_has ls 5 [(0, .ref d), (1, .int x9)] := hl
  refine lv_iload_n hx hb dX6_run_0 rfl (lv_at hl 1 rfl) ?_
  refine kx_v (vx_runS (As := [.int x9]) (rest := []) ⟨hx, hb, hml, hown, hts⟩ (c_X6_requireSlot l hlt G B (μ) x9) (va_cwS 1 hts gX6_run_X6_requireSlot rfl rfl rfl (by decide +kernel) ⟨Nat.le_of_ble_eq_true rfl, Nat.le_of_ble_eq_true rfl⟩) ⟨KX.blind, fun U9 hU9 hW9 => ⟨rfl, KW.pre hBs hKK hS hP U9 hU9 hW9, hDc.at hW9⟩⟩ rfl rfl hl.1 rfl (lv_room (Nat.le_of_ble_eq_true rfl)) dX6_run_1 ⟨(Nat.le_of_ble_eq_true rfl), (Nat.le_of_ble_eq_true rfl)⟩) hS (fun E ce q9 H locs hce hP hS h91 h92 h93 => ?_) (fun m1 H locs hq9 hP hz9 hS => ?_)
  · rw [hQ]
    exact kx_out hout hlocks h91 h92 h93 (hce) hP hS (Nat.le_of_ble_eq_true rfl) (Nat.le_of_ble_eq_true rfl)
  obtain ⟨he9, hk1⟩ := hq9
  rw [he9] at hP
  have hx1 := hk1
  obtain ⟨j1, hj1, ej1⟩ := ok_nat (by decide) hk1
  subst ej1
  refine lv_iconst (v := nI 0) hx hb dX6_run_4 (by decide) ?_
  refine lv_istore_n (lv' := [(2, .int (nI 0)), (0, .ref d), (1, .int (nI j1))]) hx hb dX6_run_5 rfl hl (by decide) rfl (fun ls hl => ?_)
  refine W.widen (k := 1) (n := 6) (by omega) (by omega) ?_
  exact L6 _ 0 j1 μ bE F (Nat.lt_succ_self _) (by omega) (by omega) (hx1) (hD) (hFS) (DR.rf μ _) _ _ hP hS ls (lv_sub hl [1, 2, 0] rfl)

abbrev rm_X6_first : Room := { frames := 7, cells := 2, slots := 12, locals := 142 }
set_option maxHeartbeats 4000000 in
set_option maxRecDepth 100000 in
theorem c_X6_first (l : Launch) (hlt : l.stackTraces = false) (G : GG) (B : Nat) (μ : mp) (d aS aL aR aT aO bn nn s9 lo sc : Nat) (nf : List Value) (sa la bE : Nat → Nat) (F : Nat → Nat → Int64) (g : Nat → Int64) (w9 : Nat → Int32) (fS fL fR fT : Nat → Option Nat) (sp : Nat → Nat) (fO : Nat → Int64) (x9 y9 : Int32) (hD : DK G μ d aS aL aR aT aO bn nn s9 lo sc nf sa la bE F g w9 fS fL fR fT sp fO) (hFS : FS F bE g) : vx_Met l yX6_first wsX6_first rm_X6_first (va_Pc [.ref d, .int x9, .int y9] (KX G B μ)) (va_Ql (fun r μ2 => okS x9 ∧ okS y9 ∧ r = 0 ∧ DR μ μ2 (OW d aO s9 lo sa la sp)) (BB G B) (fun q => B ≤ q)) (XX G B μ (fun E => E = exA ∧ ¬ (okS x9 ∧ okS y9))) 2 12 (fun q => B ≤ q) := by
  refine vx_ofW (cc := cX6_first) (maxL := 4) (ret := (some .long)) (by decide) rfl ?_
  intro p e s m args below meth c s₁ B9 hml hout hv
  obtain ⟨hargs, ⟨hBs, hP, hKK⟩, hDc⟩ := hv
  have hx := B9.exec
  have hb := B9.bytes
  have hr := B9.returns
  have hts := atoms_spec (ws := wsX6_first) B9.pre
  have hown : s.vm.findClass RX6 = some m.cls := findClass_of_methodNamed B9.named
  have hlocks := B9.notSynchronized
  have hK := hKK.k
  have hS : va_S (fun q => B ≤ q) s.heap s.heap [] := va_S.rf
  obtain ⟨Q, hQ⟩ : ∃ Q, Q = vx_MQ below (va_Ql (fun r μ2 => okS x9 ∧ okS y9 ∧ r = 0 ∧ DR μ μ2 (OW d aO s9 lo sa la sp)) (BB G B) (fun q => B ≤ q)) (XX G B μ (fun E => E = exA ∧ ¬ (okS x9 ∧ okS y9))) args s 2 12 (fun q => B ≤ q) := ⟨_, rfl⟩
  rw [← hQ]
  have in_X6_first_X6 : ∀ w ∈ wsX60, w ∈ wsX6_first := by decide +kernel
  have L28 : ∀ (N28 : Nat) (v1 : Nat) (j0 : Nat) (i0 : Nat) (f1 : Nat → Int64) (g1 : Nat → Int64) (hN28 : i0 + 1 - v1 < N28) (hv1 : v1 ≤ i0 + 1) (hi0 : i0 < 6) (hx1 : okS x9) (hx5 : okS y9) (hz1 : Za f1) (hs1 : Sn g1) (hlz : ∀ v, v1 = v + 1 → f1 (ix (2 * v) (2 * v)) = 0), ∀ (H : Heap) (locs : List Loc), mw G.1 vwCl B (mu (mu (mu μ (sa 22) (.inr (4, [.ref bn, .ref nn, .ref (la 22), .int (nI 0)]))) (la 22) (.inl (G.2 0, 78, .inr (.inl f1)))) s9 (.inl (G.2 0, 13, .inr (.inl g1)))) H → va_S (fun q => B ≤ q) s.heap H locs → ∀ ls : Array Slot, lv_has ls 4 [(0, .ref d), (1, .int (nI j0)), (2, .int (nI i0)), (3, .int (nI v1))] → W p l e rm_X6_first s m args below meth c H locs 2 12 Q (F0 m 28 ls []) := by
    intro N28
    induction N28 with
    | zero => intro v1 j0 i0 f1 g1 hN28; exact absurd hN28 (Nat.not_lt_zero _)
    | succ N28 ih28 =>
      intro v1 j0 i0 f1 g1 hN28 hv1 hi0 hx1 hx5 hz1 hs1 hlz H locs hP hS ls hl
      refine lv_iload_n hx hb dX6_first_28 rfl (lv_at hl 3 rfl) ?_
      refine lv_iload_n hx hb dX6_first_29 rfl (lv_at hl 2 rfl) ?_
      refine nv_icmp_gt (tgt := 47) hx hb (by omega) (by omega) dX6_first_30 (by decide) (fun hc30 => ?_) (fun hc30 => ?_)
      · refine lv_aload_n hx hb dX6_first_47 rfl (lv_at hl 0 rfl) ?_
        refine mw_get (C := RX6) (T := TX6) (N := 7) hx hb hts in_X6_first_X6 hown hK hP ((mu_n ((mp_ne hD.1 hD.2.2.2.2.1.1.2.2.1 (by simp)))).trans ((mu_n ((mp_ne hD.1 ((hD.2.2.2.2.1.2.1 22 (by omega)).1.2) (by simp)))).trans ((mu_n ((mp_ne hD.1 ((hD.s1 hFS 22 (by omega) (by omega))) (by simp)))).trans (hD.1)))) rfl 1 (by decide) (hts (.fieldLink RX6 34 "OctagonDesk" "made" "LOctagonDesk$Shape;") (by decide +kernel)) (fun _ h9 => h9) rfl dX6_first_48 ?_
        refine lv_iconst (v := nI 2) hx hb dX6_first_51 (by decide) ?_
        refine lv_iload_n hx hb dX6_first_52 rfl (lv_at hl 2 rfl) ?_
        refine nv_imul hx hb dX6_first_53 ?_
        refine lv_iconst (v := nI 2) hx hb dX6_first_54 (by decide) ?_
        refine lv_iload_n hx hb dX6_first_55 rfl (lv_at hl 2 rfl) ?_
        refine nv_imul hx hb dX6_first_56 ?_
        refine kc_l (va_runV (As := [.int (nI (2 * i0)), .int (nI (2 * i0))]) (rest := []) ⟨hx, hb, hml, hown, hts⟩ (c_X4_mostOf l G B (mu (mu (mu μ (sa 22) (.inr (4, [.ref bn, .ref nn, .ref (la 22), .int (nI 0)]))) (la 22) (.inl (G.2 0, 78, .inr (.inl f1)))) s9 (.inl (G.2 0, 13, .inr (.inl g1)))) (sa 22) bn nn (la 22) s9 lo 0 nf f1 g1 w9 (2 * i0) (2 * i0) ((mu_n ((mp_ne ((hD.s1 hFS 22 (by omega) (by omega))) hD.2.2.2.2.1.1.2.2.1 (by simp)))).trans ((mu_n ((mp_ne ((hD.s1 hFS 22 (by omega) (by omega))) ((hD.2.2.2.2.1.2.1 22 (by omega)).1.2) (by simp)))).trans (mu_s _ _ _))) ((mu_n ((mp_ne hD.2.2.2.2.1.1.1 hD.2.2.2.2.1.1.2.2.1 (by simp)))).trans ((mu_n ((mp_ne hD.2.2.2.2.1.1.1 ((hD.2.2.2.2.1.2.1 22 (by omega)).1.2) (by simp)))).trans ((mu_n ((mp_ne hD.2.2.2.2.1.1.1 ((hD.s1 hFS 22 (by omega) (by omega))) (by simp)))).trans (hD.2.2.2.2.1.1.1)))) ((mu_n ((mp_ne hD.2.2.2.2.1.1.2.1 hD.2.2.2.2.1.1.2.2.1 (by simp)))).trans ((mu_n ((mp_ne hD.2.2.2.2.1.1.2.1 ((hD.2.2.2.2.1.2.1 22 (by omega)).1.2) (by simp)))).trans ((mu_n ((mp_ne hD.2.2.2.2.1.1.2.1 ((hD.s1 hFS 22 (by omega) (by omega))) (by simp)))).trans (hD.2.2.2.2.1.1.2.1)))) ((mu_n ((mp_ne ((hD.2.2.2.2.1.2.1 22 (by omega)).1.2) hD.2.2.2.2.1.1.2.2.1 (by simp)))).trans (mu_s _ _ _)) (mu_s _ _ _) ((mu_n ((mp_ne hD.2.2.2.2.1.1.2.2.2 hD.2.2.2.2.1.1.2.2.1 (by simp)))).trans ((mu_n ((mp_ne hD.2.2.2.2.1.1.2.2.2 ((hD.2.2.2.2.1.2.1 22 (by omega)).1.2) (by simp)))).trans ((mu_n ((mp_ne hD.2.2.2.2.1.1.2.2.2 ((hD.s1 hFS 22 (by omega) (by omega))) (by simp)))).trans (hD.2.2.2.2.1.1.2.2.2)))) (by omega) (by omega) (hz1) (hs1)) (cwV 2 hts gX6_first_X4_mostOf rfl rfl rfl (by decide +kernel) ⟨Nat.le_of_ble_eq_true rfl, Nat.le_of_ble_eq_true rfl⟩) ⟨KW.blind, hP.recv hK rfl ((mu_n ((mp_ne ((hD.s1 hFS 22 (by omega) (by omega))) hD.2.2.2.2.1.1.2.2.1 (by simp)))).trans ((mu_n ((mp_ne ((hD.s1 hFS 22 (by omega) (by omega))) ((hD.2.2.2.2.1.2.1 22 (by omega)).1.2) (by simp)))).trans (mu_s _ _ _))), fun U9 hU9 hW9 => ⟨rfl, KW.pre hBs hKK hS hP U9 hU9 hW9⟩⟩ rfl rfl hl.1 rfl (lv_room (Nat.le_of_ble_eq_true rfl)) dX6_first_57 ⟨(Nat.le_of_ble_eq_true rfl), (Nat.le_of_ble_eq_true rfl)⟩) hS (fun r57 m57 H locs hq9 hP hz9 hS => ?_)
        obtain ⟨g57, rfl, hN57, hr57⟩ := hq9
        have hP : mw G.1 vwCl B (mu (mu (mu μ (sa 22) (.inr (4, [.ref bn, .ref nn, .ref (la 22), .int (nI 0)]))) (la 22) (.inl (G.2 0, 78, .inr (.inl f1)))) s9 (.inl (G.2 0, 13, .inr (.inl g57)))) _ := mw_eq (mu_u _ _ _ _) hP
        rw [hQ]
        refine vx_ret ?_
        refine W.widen (k := 2) (n := 12) (by omega) (by omega) ?_
        exact W.lret (v := r57) hx hb hr (fun t99 ht99 hW99 => ⟨⟨r57, mu (mu (mu μ (sa 22) (.inr (4, [.ref bn, .ref nn, .ref (la 22), .int (nI 0)]))) (la 22) (.inl (G.2 0, 78, .inr (.inl f1)))) s9 (.inl (G.2 0, 13, .inr (.inl g57))), rfl, (⟨hx1, hx5, by rw [hr57, if_pos rfl, hlz i0 (by omega)]; decide, ((((DR.rf μ _).set (OW.sa (j := 22) (by omega))).set (OW.la (j := 22) (by omega))).set OW.s)⟩), by show mw _ _ _ _ t99.heap; rw [ht99]; exact hP⟩, hS.F ht99⟩) hS.2.2 dX6_first_60
      · refine lv_aload_n hx hb dX6_first_33 rfl (lv_at hl 0 rfl) ?_
        refine mw_get (C := RX6) (T := TX6) (N := 7) hx hb hts in_X6_first_X6 hown hK hP ((mu_n ((mp_ne hD.1 hD.2.2.2.2.1.1.2.2.1 (by simp)))).trans ((mu_n ((mp_ne hD.1 ((hD.2.2.2.2.1.2.1 22 (by omega)).1.2) (by simp)))).trans ((mu_n ((mp_ne hD.1 ((hD.s1 hFS 22 (by omega) (by omega))) (by simp)))).trans (hD.1)))) rfl 1 (by decide) (hts (.fieldLink RX6 34 "OctagonDesk" "made" "LOctagonDesk$Shape;") (by decide +kernel)) (fun _ h9 => h9) rfl dX6_first_34 ?_
        refine lv_iload_n hx hb dX6_first_37 rfl (lv_at hl 3 rfl) ?_
        refine kc_v (va_runV (As := [.int (nI v1)]) (rest := []) ⟨hx, hb, hml, hown, hts⟩ (c_X4_settle l G B (mu (mu (mu μ (sa 22) (.inr (4, [.ref bn, .ref nn, .ref (la 22), .int (nI 0)]))) (la 22) (.inl (G.2 0, 78, .inr (.inl f1)))) s9 (.inl (G.2 0, 13, .inr (.inl g1)))) (sa 22) bn nn (la 22) s9 lo nf f1 g1 w9 v1 ((mu_n ((mp_ne ((hD.s1 hFS 22 (by omega) (by omega))) hD.2.2.2.2.1.1.2.2.1 (by simp)))).trans ((mu_n ((mp_ne ((hD.s1 hFS 22 (by omega) (by omega))) ((hD.2.2.2.2.1.2.1 22 (by omega)).1.2) (by simp)))).trans (mu_s _ _ _))) ((mu_n ((mp_ne hD.2.2.2.2.1.1.1 hD.2.2.2.2.1.1.2.2.1 (by simp)))).trans ((mu_n ((mp_ne hD.2.2.2.2.1.1.1 ((hD.2.2.2.2.1.2.1 22 (by omega)).1.2) (by simp)))).trans ((mu_n ((mp_ne hD.2.2.2.2.1.1.1 ((hD.s1 hFS 22 (by omega) (by omega))) (by simp)))).trans (hD.2.2.2.2.1.1.1)))) ((mu_n ((mp_ne hD.2.2.2.2.1.1.2.1 hD.2.2.2.2.1.1.2.2.1 (by simp)))).trans ((mu_n ((mp_ne hD.2.2.2.2.1.1.2.1 ((hD.2.2.2.2.1.2.1 22 (by omega)).1.2) (by simp)))).trans ((mu_n ((mp_ne hD.2.2.2.2.1.1.2.1 ((hD.s1 hFS 22 (by omega) (by omega))) (by simp)))).trans (hD.2.2.2.2.1.1.2.1)))) ((mu_n ((mp_ne ((hD.2.2.2.2.1.2.1 22 (by omega)).1.2) hD.2.2.2.2.1.1.2.2.1 (by simp)))).trans (mu_s _ _ _)) (mu_s _ _ _) ((mu_n ((mp_ne hD.2.2.2.2.1.1.2.2.2 hD.2.2.2.2.1.1.2.2.1 (by simp)))).trans ((mu_n ((mp_ne hD.2.2.2.2.1.1.2.2.2 ((hD.2.2.2.2.1.2.1 22 (by omega)).1.2) (by simp)))).trans ((mu_n ((mp_ne hD.2.2.2.2.1.1.2.2.2 ((hD.s1 hFS 22 (by omega) (by omega))) (by simp)))).trans (hD.2.2.2.2.1.1.2.2.2)))) (by omega) (hz1) (hs1)) (cwV 1 hts gX6_first_X4_settle rfl rfl rfl (by decide +kernel) ⟨Nat.le_of_ble_eq_true rfl, Nat.le_of_ble_eq_true rfl⟩) ⟨KW.blind, hP.recv hK rfl ((mu_n ((mp_ne ((hD.s1 hFS 22 (by omega) (by omega))) hD.2.2.2.2.1.1.2.2.1 (by simp)))).trans ((mu_n ((mp_ne ((hD.s1 hFS 22 (by omega) (by omega))) ((hD.2.2.2.2.1.2.1 22 (by omega)).1.2) (by simp)))).trans (mu_s _ _ _))), fun U9 hU9 hW9 => ⟨rfl, KW.pre hBs hKK hS hP U9 hU9 hW9⟩⟩ rfl rfl hl.1 rfl (lv_room (Nat.le_of_ble_eq_true rfl)) dX6_first_38 ⟨(Nat.le_of_ble_eq_true rfl), (Nat.le_of_ble_eq_true rfl)⟩) hS (fun m38 H locs hq9 hP hz9 hS => ?_)
        obtain ⟨f38, g38, rfl, hZ38, hN38, hO38⟩ := hq9
        have hP : mw G.1 vwCl B (mu (mu (mu μ (sa 22) (.inr (4, [.ref bn, .ref nn, .ref (la 22), .int (nI 0)]))) (la 22) (.inl (G.2 0, 78, .inr (.inl f38)))) s9 (.inl (G.2 0, 13, .inr (.inl g38)))) _ := mw_eq ((congrArg (fun z => mu z s9 (.inl (G.2 0, 13, .inr (.inl g38)))) ((mu_c _ _ ((mp_ne hD.2.2.2.2.1.1.2.2.1 ((hD.2.2.2.2.1.2.1 22 (by omega)).1.2) (by simp)))).trans (congrArg (fun z => mu z s9 (.inl (G.2 0, 13, .inr (.inl g1)))) (mu_u _ _ _ _)))).trans (mu_u _ _ _ _)) hP
        refine lv_iinc (v := nI (v1 + 1)) (lv' := [(3, .int (nI (v1 + 1))), (0, .ref d), (1, .int (nI j0)), (2, .int (nI i0))]) hx hb dX6_first_41 hl (k := 3) rfl (nI_add _ _) (by decide) rfl (fun ls hl => ?_)
        refine lv_goto (tgt := 28) hx hb dX6_first_44 (by decide) ?_
        refine W.widen (k := 2) (n := 12) (by omega) (by omega) ?_
        exact ih28 (v1 + 1) j0 i0 f38 g38 (by omega) (by omega) (by omega) (hx1) (hx5) (hZ38) (hN38) (fun v e9 => by have e8 : v = v1 := (by omega); subst e8; exact hO38) _ _ hP hS ls (lv_sub hl [1, 2, 3, 0] rfl)
  have hl := lv_entry ([.ref d, .int x9, .int y9]) (n := 4) (Nat.le_of_ble_eq_true rfl)
  have he9 : entryFrame m args 4 = entryFrame m ([.ref d, .int x9, .int y9] : List Value).toArray 4 := by rw [hargs]
  rw [he9, lg_entry_eq]
  generalize (lg_sl ([.ref d, .int x9, .int y9]) ++ List.replicate (4 - (lg_sl ([.ref d, .int x9, .int y9])).length) Slot.unset).toArray = ls at hl ⊢
  have hl : lv_has ls 4 [(0, .ref d), (1, .int x9), (2, .int y9)] := hl
  refine lv_iload_n hx hb dX6_first_0 rfl (lv_at hl 1 rfl) ?_
  refine kx_v (vx_runS (As := [.int x9]) (rest := []) ⟨hx, hb, hml, hown, hts⟩ (c_X6_requireSlot l hlt G B (μ) x9) (va_cwS 1 hts gX6_first_X6_requireSlot rfl rfl rfl (by decide +kernel) ⟨Nat.le_of_ble_eq_true rfl, Nat.le_of_ble_eq_true rfl⟩) ⟨KX.blind, fun U9 hU9 hW9 => ⟨rfl, KW.pre hBs hKK hS hP U9 hU9 hW9, hDc.at hW9⟩⟩ rfl rfl hl.1 rfl (lv_room (Nat.le_of_ble_eq_true rfl)) dX6_first_1 ⟨(Nat.le_of_ble_eq_true rfl), (Nat.le_of_ble_eq_true rfl)⟩) hS (fun E ce q9 H locs hce hP hS h91 h92 h93 => ?_) (fun m1 H locs hq9 hP hz9 hS => ?_)
  · rw [hQ]
    exact kx_out hout hlocks h91 h92 h93 (⟨hce.1, fun h9 => hce.2 h9.1⟩) hP hS (Nat.le_of_ble_eq_true rfl) (Nat.le_of_ble_eq_true rfl)
  obtain ⟨he9, hk1⟩ := hq9
  rw [he9] at hP
  have hx1 := hk1
  obtain ⟨j1, hj1, ej1⟩ := ok_nat (by decide) hk1
  subst ej1
  refine lv_iload_n hx hb dX6_first_4 rfl (lv_at hl 2 rfl) ?_
  refine kx_v (vx_runS (As := [.int y9]) (rest := []) ⟨hx, hb, hml, hown, hts⟩ (c_X6_requireVariable l hlt G B (μ) y9) (va_cwS 1 hts gX6_first_X6_requireVariable rfl rfl rfl (by decide +kernel) ⟨Nat.le_of_ble_eq_true rfl, Nat.le_of_ble_eq_true rfl⟩) ⟨KX.blind, fun U9 hU9 hW9 => ⟨rfl, KW.pre hBs hKK hS hP U9 hU9 hW9, hDc.at hW9⟩⟩ rfl rfl hl.1 rfl (lv_room (Nat.le_of_ble_eq_true rfl)) dX6_first_5 ⟨(Nat.le_of_ble_eq_true rfl), (Nat.le_of_ble_eq_true rfl)⟩) hS (fun E ce q9 H locs hce hP hS h91 h92 h93 => ?_) (fun m5 H locs hq9 hP hz9 hS => ?_)
  · rw [hQ]
    exact kx_out hout hlocks h91 h92 h93 (⟨hce.1, fun h9 => hce.2 h9.2⟩) hP hS (Nat.le_of_ble_eq_true rfl) (Nat.le_of_ble_eq_true rfl)
  obtain ⟨he9, hk5⟩ := hq9
  rw [he9] at hP
  have hx5 := hk5
  obtain ⟨j5, hj5, ej5⟩ := ok_nat (by decide) hk5
  subst ej5
  refine lv_aload_n hx hb dX6_first_8 rfl (lv_at hl 0 rfl) ?_
  refine lv_iload_n hx hb dX6_first_9 rfl (lv_at hl 1 rfl) ?_
  refine kc_v (va_runV (As := [.int (nI j1)]) (rest := []) ⟨hx, hb, hml, hown, hts⟩ (c_X6_requirePlace l G B (μ) d aS (sa 22) aT aO sc aL aR j1 (sa j1) bn nn (la j1) fS (hD.1) (hD.2.1.1) ((hD.s0 hFS j1 (by omega))) (by omega) (hD.2.1.2.2.2.2.1 j1 (by omega))) (cwV 1 hts gX6_first_X6_requirePlace rfl rfl rfl (by decide +kernel) ⟨Nat.le_of_ble_eq_true rfl, Nat.le_of_ble_eq_true rfl⟩) ⟨KW.blind, hP.recv hK rfl (hD.1), fun U9 hU9 hW9 => ⟨rfl, KW.pre hBs hKK hS hP U9 hU9 hW9⟩⟩ rfl rfl hl.1 rfl (lv_room (Nat.le_of_ble_eq_true rfl)) dX6_first_10 ⟨(Nat.le_of_ble_eq_true rfl), (Nat.le_of_ble_eq_true rfl)⟩) hS (fun m10 H locs hq9 hP hz9 hS => ?_)
  rw [hq9] at hP
  refine lv_aload_n hx hb dX6_first_13 rfl (lv_at hl 0 rfl) ?_
  refine mw_get (C := RX6) (T := TX6) (N := 7) hx hb hts in_X6_first_X6 hown hK hP (hD.1) rfl 1 (by decide) (hts (.fieldLink RX6 34 "OctagonDesk" "made" "LOctagonDesk$Shape;") (by decide +kernel)) (fun _ h9 => h9) rfl dX6_first_14 ?_
  refine lv_aload_n hx hb dX6_first_17 rfl (lv_at hl 0 rfl) ?_
  refine mw_get (C := RX6) (T := TX6) (N := 7) hx hb hts in_X6_first_X6 hown hK hP (hD.1) rfl 0 (by decide) (hts (.fieldLink RX6 16 "OctagonDesk" "slots" "[LOctagonDesk$Shape;") (by decide +kernel)) (fun _ h9 => h9) rfl dX6_first_18 ?_
  refine lv_iload_n hx hb dX6_first_21 rfl (lv_at hl 1 rfl) ?_
  refine mw_aldq hx hb hK hP 3 (hD.2.1.1) rfl (by omega) (by omega) (hD.2.1.2.2.2.2.1 j1 (by omega)) dX6_first_22 ?_
  refine kc_v (va_runV (As := [.ref (sa j1)]) (rest := []) ⟨hx, hb, hml, hown, hts⟩ (c_X4_takeOver l G B (μ) (sa 22) bn nn (la 22) s9 lo 1 nf (F 22) g w9 (sa j1) (la j1) 0 (F j1)  ((hD.s1 hFS 22 (by omega) (by omega))) (hD.2.2.2.2.1.1.1) (hD.2.2.2.2.1.1.2.1) ((hD.2.2.2.2.1.2.1 22 (by omega)).1.2) (hD.2.2.2.2.1.1.2.2.1) (hD.2.2.2.2.1.1.2.2.2) ((hD.s0 hFS j1 (by omega))) ((hD.2.2.2.2.1.2.1 j1 (by omega)).1.2) (by omega) (((hFS.za 22 (by omega))).ps) (((hFS.za j1 (by omega))).ps) (((hD.2.2.2.2.1.2.2 22 j1 (by omega) (by omega) (by omega)).2)) (((hD.2.2.2.2.1.2.2 22 j1 (by omega) (by omega) (by omega)).1))) (cwV 1 hts gX6_first_X4_takeOver rfl rfl rfl (by decide +kernel) ⟨Nat.le_of_ble_eq_true rfl, Nat.le_of_ble_eq_true rfl⟩) ⟨KW.blind, hP.recv hK rfl ((hD.s1 hFS 22 (by omega) (by omega))), fun U9 hU9 hW9 => ⟨rfl, KW.pre hBs hKK hS hP U9 hU9 hW9⟩⟩ rfl rfl hl.1 rfl (lv_room (Nat.le_of_ble_eq_true rfl)) dX6_first_23 ⟨(Nat.le_of_ble_eq_true rfl), (Nat.le_of_ble_eq_true rfl)⟩) hS (fun m23 H locs hq9 hP hz9 hS => ?_)
  obtain ⟨f23, rfl, hf23⟩ := hq9
  have hP : mw G.1 vwCl B (mu (mu μ (sa 22) (.inr (4, [.ref bn, .ref nn, .ref (la 22), .int (nI 0)]))) (la 22) (.inl (G.2 0, 78, .inr (.inl f23)))) _ := mw_eq (congrArg (fun z => mu z (la 22) (.inl (G.2 0, 78, .inr (.inl f23)))) (rfl)) hP
  refine lv_iconst (v := nI 0) hx hb dX6_first_26 (by decide) ?_
  refine lv_istore_n (lv' := [(3, .int (nI 0)), (0, .ref d), (1, .int (nI j1)), (2, .int (nI j5))]) hx hb dX6_first_27 rfl hl (by decide) rfl (fun ls hl => ?_)
  have hP : mw G.1 vwCl B (mu (mu (mu μ (sa 22) (.inr (4, [.ref bn, .ref nn, .ref (la 22), .int (nI 0)]))) (la 22) (.inl (G.2 0, 78, .inr (.inl f23)))) s9 (.inl (G.2 0, 13, .inr (.inl g)))) _ := mw_eq (mu_i ((mu_n ((mp_ne hD.2.2.2.2.1.1.2.2.1 ((hD.2.2.2.2.1.2.1 22 (by omega)).1.2) (by simp)))).trans ((mu_n ((mp_ne hD.2.2.2.2.1.1.2.2.1 ((hD.s1 hFS 22 (by omega) (by omega))) (by simp)))).trans (hD.2.2.2.2.1.1.2.2.1)))).symm hP
  refine W.widen (k := 2) (n := 12) (by omega) (by omega) ?_
  exact L28 _ 0 j1 j5 f23 g (Nat.lt_succ_self _) (by omega) (by omega) (hx1) (hx5) ((hFS.za j1 (by omega)).of hf23) (hFS.2.2) (fun v e9 => absurd e9 (by omega)) _ _ hP hS ls (lv_sub hl [1, 2, 3, 0] rfl)

abbrev rm_X6_act : Room := { frames := 9, cells := 5, slots := 30, locals := 164 }
set_option maxHeartbeats 4000000 in
set_option maxRecDepth 100000 in
theorem c_X6_act (l : Launch) (hlt : l.stackTraces = false) (G : GG) (B : Nat) (μ : mp) (d aS aL aR aT aO bn nn s9 lo sc : Nat) (nf : List Value) (sa la bE : Nat → Nat) (F : Nat → Nat → Int64) (g : Nat → Int64) (w9 : Nat → Int32) (fS fL fR fT : Nat → Option Nat) (sp : Nat → Nat) (fO : Nat → Int64) (x9 k9 a9 b9 c9 : Int32) (hD : DK G μ d aS aL aR aT aO bn nn s9 lo sc nf sa la bE F g w9 fS fL fR fT sp fO) (hFS : FS F bE g) : vx_Met l yX6_act wsX6_act rm_X6_act (va_Pc [.ref d, .int x9, .int k9, .int a9, .int b9, .int c9] (KX G B μ)) (va_Qi (fun r μ2 => okS x9 ∧ okA k9 a9 b9 c9 ∧ r = 1 ∧ DR μ μ2 (OW d aO s9 lo sa la sp)) (BB G B) (fun q => B ≤ q)) (XX G B μ (fun E => E = exA ∧ ¬ (okS x9 ∧ okA k9 a9 b9 c9))) 5 30 (fun q => B ≤ q) := by
  refine vx_ofW (cc := cX6_act) (maxL := 6) (ret := (some .boolean)) (by decide) rfl ?_
  intro p e s m args below meth c s₁ B9 hml hout hv
  obtain ⟨hargs, ⟨hBs, hP, hKK⟩, hDc⟩ := hv
  have hx := B9.exec
  have hb := B9.bytes
  have hr := B9.returns
  have hts := atoms_spec (ws := wsX6_act) B9.pre
  have hown : s.vm.findClass RX6 = some m.cls := findClass_of_methodNamed B9.named
  have hlocks := B9.notSynchronized
  have hK := hKK.k
  have hS : va_S (fun q => B ≤ q) s.heap s.heap [] := va_S.rf
  obtain ⟨Q, hQ⟩ : ∃ Q, Q = vx_MQ below (va_Qi (fun r μ2 => okS x9 ∧ okA k9 a9 b9 c9 ∧ r = 1 ∧ DR μ μ2 (OW d aO s9 lo sa la sp)) (BB G B) (fun q => B ≤ q)) (XX G B μ (fun E => E = exA ∧ ¬ (okS x9 ∧ okA k9 a9 b9 c9))) args s 5 30 (fun q => B ≤ q) := ⟨_, rfl⟩
  rw [← hQ]
  have in_X6_act_X4 : ∀ w ∈ wsX40, w ∈ wsX6_act := by decide +kernel
  have in_X6_act_X6 : ∀ w ∈ wsX60, w ∈ wsX6_act := by decide +kernel
  have hl := lv_entry ([.ref d, .int x9, .int k9, .int a9, .int b9, .int c9]) (n := 6) (Nat.le_of_ble_eq_true rfl)
  have he9 : entryFrame m args 6 = entryFrame m ([.ref d, .int x9, .int k9, .int a9, .int b9, .int c9] : List Value).toArray 6 := by rw [hargs]
  rw [he9, lg_entry_eq]
  generalize (lg_sl ([.ref d, .int x9, .int k9, .int a9, .int b9, .int c9]) ++ List.replicate (6 - (lg_sl ([.ref d, .int x9, .int k9, .int a9, .int b9, .int c9])).length) Slot.unset).toArray = ls at hl ⊢
  have hl : lv_has ls 6 [(0, .ref d), (1, .int x9), (2, .int k9), (3, .int a9), (4, .int b9), (5, .int c9)] := hl
  refine lv_iload_n hx hb dX6_act_0 rfl (lv_at hl 1 rfl) ?_
  refine kx_v (vx_runS (As := [.int x9]) (rest := []) ⟨hx, hb, hml, hown, hts⟩ (c_X6_requireSlot l hlt G B (μ) x9) (va_cwS 1 hts gX6_act_X6_requireSlot rfl rfl rfl (by decide +kernel) ⟨Nat.le_of_ble_eq_true rfl, Nat.le_of_ble_eq_true rfl⟩) ⟨KX.blind, fun U9 hU9 hW9 => ⟨rfl, KW.pre hBs hKK hS hP U9 hU9 hW9, hDc.at hW9⟩⟩ rfl rfl hl.1 rfl (lv_room (Nat.le_of_ble_eq_true rfl)) dX6_act_1 ⟨(Nat.le_of_ble_eq_true rfl), (Nat.le_of_ble_eq_true rfl)⟩) hS (fun E ce q9 H locs hce hP hS h91 h92 h93 => ?_) (fun m1 H locs hq9 hP hz9 hS => ?_)
  · rw [hQ]
    exact kx_out hout hlocks h91 h92 h93 (⟨hce.1, fun h9 => hce.2 h9.1⟩) hP hS (Nat.le_of_ble_eq_true rfl) (Nat.le_of_ble_eq_true rfl)
  obtain ⟨he9, hk1⟩ := hq9
  rw [he9] at hP
  have hx1 := hk1
  obtain ⟨j1, hj1, ej1⟩ := ok_nat (by decide) hk1
  subst ej1
  refine lv_iload_n hx hb dX6_act_4 rfl (lv_at hl 2 rfl) ?_
  refine lv_iload_n hx hb dX6_act_5 rfl (lv_at hl 3 rfl) ?_
  refine lv_iload hx hb dX6_act_6 (lv_at hl 4 rfl) ?_
  refine lv_iload hx hb dX6_act_8 (lv_at hl 5 rfl) ?_
  refine kx_v (vx_runS (As := [.int k9, .int a9, .int b9, .int c9]) (rest := []) ⟨hx, hb, hml, hown, hts⟩ (c_X6_requireAction l hlt G B (μ) k9 a9 b9 c9) (va_cwS 4 hts gX6_act_X6_requireAction rfl rfl rfl (by decide +kernel) ⟨Nat.le_of_ble_eq_true rfl, Nat.le_of_ble_eq_true rfl⟩) ⟨KX.blind, fun U9 hU9 hW9 => ⟨rfl, KW.pre hBs hKK hS hP U9 hU9 hW9, hDc.at hW9⟩⟩ rfl rfl hl.1 rfl (lv_room (Nat.le_of_ble_eq_true rfl)) dX6_act_10 ⟨(Nat.le_of_ble_eq_true rfl), (Nat.le_of_ble_eq_true rfl)⟩) hS (fun E ce q9 H locs hce hP hS h91 h92 h93 => ?_) (fun m10 H locs hq9 hP hz9 hS => ?_)
  · rw [hQ]
    exact kx_out hout hlocks h91 h92 h93 (⟨hce.1, fun h9 => hce.2 h9.2⟩) hP hS (Nat.le_of_ble_eq_true rfl) (Nat.le_of_ble_eq_true rfl)
  obtain ⟨he9, hk10⟩ := hq9
  rw [he9] at hP
  have hkk := hk10
  obtain ⟨hkN, hk10⟩ := hk10
  have hM6 := hkN.m6
  rcases hk10 with ⟨ek9, hp1, hp2, hp3⟩ | ⟨ek9, hp1, hp2⟩ | ⟨ek9, hp1, hp2, hp3⟩
  · replace ek9 : k9 = nI 0 := ek9.trans (by decide)
    subst ek9
    obtain ⟨na9, hna9, ena9⟩ := ok_nat (n := 12) (by decide) hp1
    subst ena9
    obtain ⟨nb9, hnb9, enb9⟩ := ok_nat (n := 12) (by decide) hp2
    subst enb9
    refine lv_aload_n hx hb dX6_act_13 rfl (lv_at hl 0 rfl) ?_
    refine mw_get (C := RX6) (T := TX6) (N := 7) hx hb hts in_X6_act_X6 hown hK hP (hD.1) rfl 1 (by decide) (hts (.fieldLink RX6 34 "OctagonDesk" "made" "LOctagonDesk$Shape;") (by decide +kernel)) (fun _ h9 => h9) rfl dX6_act_14 ?_
    refine lv_aload_n hx hb dX6_act_17 rfl (lv_at hl 0 rfl) ?_
    refine mw_get (C := RX6) (T := TX6) (N := 7) hx hb hts in_X6_act_X6 hown hK hP (hD.1) rfl 0 (by decide) (hts (.fieldLink RX6 16 "OctagonDesk" "slots" "[LOctagonDesk$Shape;") (by decide +kernel)) (fun _ h9 => h9) rfl dX6_act_18 ?_
    refine lv_iload_n hx hb dX6_act_21 rfl (lv_at hl 1 rfl) ?_
    refine mw_aldq hx hb hK hP 3 (hD.2.1.1) rfl (by omega) (by omega) (hD.2.1.2.2.2.2.1 j1 (by omega)) dX6_act_22 ?_
    refine lv_iload_n hx hb dX6_act_23 rfl (lv_at hl 2 rfl) ?_
    refine lv_iload_n hx hb dX6_act_24 rfl (lv_at hl 3 rfl) ?_
    refine lv_iload hx hb dX6_act_25 (lv_at hl 4 rfl) ?_
    refine lv_iload hx hb dX6_act_27 (lv_at hl 5 rfl) ?_
    refine kc_v (va_runV (As := [.ref (sa j1), .int (nI 0), .int (nI na9), .int (nI nb9), .int c9]) (rest := []) ⟨hx, hb, hml, hown, hts⟩ (c_X4_makeFrom_0 l G B (μ) (sa 22) bn nn (la 22) s9 lo 1 nf (F 22) g w9 (sa j1) (la j1) (F j1) na9 nb9 c9 ((hD.s1 hFS 22 (by omega) (by omega))) (hD.2.2.2.2.1.1.1) (hD.2.2.2.2.1.1.2.1) ((hD.2.2.2.2.1.2.1 22 (by omega)).1.2) (hD.2.2.2.2.1.1.2.2.1) (hD.2.2.2.2.1.1.2.2.2) ((hD.s0 hFS j1 (by omega))) ((hD.2.2.2.2.1.2.1 j1 (by omega)).1.2) (((hD.2.2.2.2.1.2.2 22 j1 (by omega) (by omega) (by omega)).2)) (((hD.2.2.2.2.1.2.2 22 j1 (by omega) (by omega) (by omega)).1)) (hM6) (((hFS.za 22 (by omega))).ps) ((hFS.za j1 (by omega))) (hFS.2.2) (by omega) (by omega) (fun e9 => hp3 (by rw [ne_x _ (by omega), e9])) ((hFS.1 j1 (by omega)).2)) (cwV 5 hts gX6_act_X4_makeFrom rfl rfl rfl (by decide +kernel) ⟨Nat.le_of_ble_eq_true rfl, Nat.le_of_ble_eq_true rfl⟩) ⟨KW.blind, hP.recv hK rfl ((hD.s1 hFS 22 (by omega) (by omega))), fun U9 hU9 hW9 => ⟨rfl, KW.pre hBs hKK hS hP U9 hU9 hW9⟩⟩ rfl rfl hl.1 rfl (lv_room (Nat.le_of_ble_eq_true rfl)) dX6_act_29 ⟨(Nat.le_of_ble_eq_true rfl), (Nat.le_of_ble_eq_true rfl)⟩) hS (fun m29 H locs hq9 hP hz9 hS => ?_)
    obtain ⟨f29, g29, rfl, hp29⟩ := hq9
    have hP : mw G.1 vwCl B (mu (mu (mu μ (sa 22) (.inr (4, [.ref bn, .ref nn, .ref (la 22), .int (nI 0)]))) (la 22) (.inl (G.2 0, 78, .inr (.inl f29)))) s9 (.inl (G.2 0, 13, .inr (.inl g29)))) _ := mw_eq (congrArg (fun z => mu z s9 (.inl (G.2 0, 13, .inr (.inl g29)))) (congrArg (fun z => mu z (la 22) (.inl (G.2 0, 78, .inr (.inl f29)))) (rfl))) hP
    refine lv_aload_n hx hb dX6_act_32 rfl (lv_at hl 0 rfl) ?_
    refine mw_get (C := RX6) (T := TX6) (N := 7) hx hb hts in_X6_act_X6 hown hK hP ((mu_n ((mp_ne hD.1 hD.2.2.2.2.1.1.2.2.1 (by simp)))).trans ((mu_n ((mp_ne hD.1 ((hD.2.2.2.2.1.2.1 22 (by omega)).1.2) (by simp)))).trans ((mu_n ((mp_ne hD.1 ((hD.s1 hFS 22 (by omega) (by omega))) (by simp)))).trans (hD.1)))) rfl 0 (by decide) (hts (.fieldLink RX6 16 "OctagonDesk" "slots" "[LOctagonDesk$Shape;") (by decide +kernel)) (fun _ h9 => h9) rfl dX6_act_33 ?_
    refine lv_iload_n hx hb dX6_act_36 rfl (lv_at hl 1 rfl) ?_
    refine mw_aldq hx hb hK hP 3 ((mu_n ((mp_ne hD.2.1.1 hD.2.2.2.2.1.1.2.2.1 (by simp)))).trans ((mu_n ((mp_ne hD.2.1.1 ((hD.2.2.2.2.1.2.1 22 (by omega)).1.2) (by simp)))).trans ((mu_n ((mp_ne hD.2.1.1 ((hD.s1 hFS 22 (by omega) (by omega))) (by simp)))).trans (hD.2.1.1)))) rfl (by omega) (by omega) (hD.2.1.2.2.2.2.1 j1 (by omega)) dX6_act_37 ?_
    refine lv_aload_n hx hb dX6_act_38 rfl (lv_at hl 0 rfl) ?_
    refine mw_get (C := RX6) (T := TX6) (N := 7) hx hb hts in_X6_act_X6 hown hK hP ((mu_n ((mp_ne hD.1 hD.2.2.2.2.1.1.2.2.1 (by simp)))).trans ((mu_n ((mp_ne hD.1 ((hD.2.2.2.2.1.2.1 22 (by omega)).1.2) (by simp)))).trans ((mu_n ((mp_ne hD.1 ((hD.s1 hFS 22 (by omega) (by omega))) (by simp)))).trans (hD.1)))) rfl 1 (by decide) (hts (.fieldLink RX6 34 "OctagonDesk" "made" "LOctagonDesk$Shape;") (by decide +kernel)) (fun _ h9 => h9) rfl dX6_act_39 ?_
    refine kc_v (va_runV (As := [.ref (sa 22)]) (rest := []) ⟨hx, hb, hml, hown, hts⟩ (c_X4_takeOver l G B (mu (mu (mu μ (sa 22) (.inr (4, [.ref bn, .ref nn, .ref (la 22), .int (nI 0)]))) (la 22) (.inl (G.2 0, 78, .inr (.inl f29)))) s9 (.inl (G.2 0, 13, .inr (.inl g29)))) (sa j1) bn nn (la j1) s9 lo 0 nf (F j1) g29 w9 (sa 22) (la 22) 0 f29  ((mu_n ((mp_ne ((hD.s0 hFS j1 (by omega))) hD.2.2.2.2.1.1.2.2.1 (by simp)))).trans ((mu_n ((mp_ne ((hD.s0 hFS j1 (by omega))) ((hD.2.2.2.2.1.2.1 22 (by omega)).1.2) (by simp)))).trans ((mu_n (((hD.2.2.2.2.1.2.2 j1 22 (by omega) (by omega) (by omega)).1))).trans ((hD.s0 hFS j1 (by omega)))))) ((mu_n ((mp_ne hD.2.2.2.2.1.1.1 hD.2.2.2.2.1.1.2.2.1 (by simp)))).trans ((mu_n ((mp_ne hD.2.2.2.2.1.1.1 ((hD.2.2.2.2.1.2.1 22 (by omega)).1.2) (by simp)))).trans ((mu_n ((mp_ne hD.2.2.2.2.1.1.1 ((hD.s1 hFS 22 (by omega) (by omega))) (by simp)))).trans (hD.2.2.2.2.1.1.1)))) ((mu_n ((mp_ne hD.2.2.2.2.1.1.2.1 hD.2.2.2.2.1.1.2.2.1 (by simp)))).trans ((mu_n ((mp_ne hD.2.2.2.2.1.1.2.1 ((hD.2.2.2.2.1.2.1 22 (by omega)).1.2) (by simp)))).trans ((mu_n ((mp_ne hD.2.2.2.2.1.1.2.1 ((hD.s1 hFS 22 (by omega) (by omega))) (by simp)))).trans (hD.2.2.2.2.1.1.2.1)))) ((mu_n ((mp_ne ((hD.2.2.2.2.1.2.1 j1 (by omega)).1.2) hD.2.2.2.2.1.1.2.2.1 (by simp)))).trans ((mu_n (((hD.2.2.2.2.1.2.2 j1 22 (by omega) (by omega) (by omega)).2))).trans ((mu_n ((mp_ne ((hD.2.2.2.2.1.2.1 j1 (by omega)).1.2) ((hD.s1 hFS 22 (by omega) (by omega))) (by simp)))).trans ((hD.2.2.2.2.1.2.1 j1 (by omega)).1.2)))) (mu_s _ _ _) ((mu_n ((mp_ne hD.2.2.2.2.1.1.2.2.2 hD.2.2.2.2.1.1.2.2.1 (by simp)))).trans ((mu_n ((mp_ne hD.2.2.2.2.1.1.2.2.2 ((hD.2.2.2.2.1.2.1 22 (by omega)).1.2) (by simp)))).trans ((mu_n ((mp_ne hD.2.2.2.2.1.1.2.2.2 ((hD.s1 hFS 22 (by omega) (by omega))) (by simp)))).trans (hD.2.2.2.2.1.1.2.2.2)))) ((mu_n ((mp_ne ((hD.s1 hFS 22 (by omega) (by omega))) hD.2.2.2.2.1.1.2.2.1 (by simp)))).trans ((mu_n ((mp_ne ((hD.s1 hFS 22 (by omega) (by omega))) ((hD.2.2.2.2.1.2.1 22 (by omega)).1.2) (by simp)))).trans (mu_s _ _ _))) ((mu_n ((mp_ne ((hD.2.2.2.2.1.2.1 22 (by omega)).1.2) hD.2.2.2.2.1.1.2.2.1 (by simp)))).trans (mu_s _ _ _)) (by omega) (((hFS.za j1 (by omega))).ps) (hp29) (((hD.2.2.2.2.1.2.2 j1 22 (by omega) (by omega) (by omega)).2)) (((hD.2.2.2.2.1.2.2 j1 22 (by omega) (by omega) (by omega)).1))) (cwV 1 hts gX6_act_X4_takeOver rfl rfl rfl (by decide +kernel) ⟨Nat.le_of_ble_eq_true rfl, Nat.le_of_ble_eq_true rfl⟩) ⟨KW.blind, hP.recv hK rfl ((mu_n ((mp_ne ((hD.s0 hFS j1 (by omega))) hD.2.2.2.2.1.1.2.2.1 (by simp)))).trans ((mu_n ((mp_ne ((hD.s0 hFS j1 (by omega))) ((hD.2.2.2.2.1.2.1 22 (by omega)).1.2) (by simp)))).trans ((mu_n (((hD.2.2.2.2.1.2.2 j1 22 (by omega) (by omega) (by omega)).1))).trans ((hD.s0 hFS j1 (by omega)))))), fun U9 hU9 hW9 => ⟨rfl, KW.pre hBs hKK hS hP U9 hU9 hW9⟩⟩ rfl rfl hl.1 rfl (lv_room (Nat.le_of_ble_eq_true rfl)) dX6_act_42 ⟨(Nat.le_of_ble_eq_true rfl), (Nat.le_of_ble_eq_true rfl)⟩) hS (fun m42 H locs hq9 hP hz9 hS => ?_)
    obtain ⟨f42, rfl, hf42⟩ := hq9
    have hP : mw G.1 vwCl B (mu (mu (mu (mu (mu μ (sa 22) (.inr (4, [.ref bn, .ref nn, .ref (la 22), .int (nI 0)]))) (la 22) (.inl (G.2 0, 78, .inr (.inl f29)))) s9 (.inl (G.2 0, 13, .inr (.inl g29)))) (sa j1) (.inr (4, [.ref bn, .ref nn, .ref (la j1), .int (nI 0)]))) (la j1) (.inl (G.2 0, 78, .inr (.inl f42)))) _ := mw_eq (congrArg (fun z => mu z (la j1) (.inl (G.2 0, 78, .inr (.inl f42)))) (rfl)) hP
    refine lv_aload_n hx hb dX6_act_45 rfl (lv_at hl 0 rfl) ?_
    refine mw_get (C := RX6) (T := TX6) (N := 7) hx hb hts in_X6_act_X6 hown hK hP ((mu_n ((mp_ne hD.1 ((hD.2.2.2.2.1.2.1 j1 (by omega)).1.2) (by simp)))).trans ((mu_n ((mp_ne hD.1 ((hD.s0 hFS j1 (by omega))) (by simp)))).trans ((mu_n ((mp_ne hD.1 hD.2.2.2.2.1.1.2.2.1 (by simp)))).trans ((mu_n ((mp_ne hD.1 ((hD.2.2.2.2.1.2.1 22 (by omega)).1.2) (by simp)))).trans ((mu_n ((mp_ne hD.1 ((hD.s1 hFS 22 (by omega) (by omega))) (by simp)))).trans (hD.1)))))) rfl 0 (by decide) (hts (.fieldLink RX6 16 "OctagonDesk" "slots" "[LOctagonDesk$Shape;") (by decide +kernel)) (fun _ h9 => h9) rfl dX6_act_46 ?_
    refine lv_iload_n hx hb dX6_act_49 rfl (lv_at hl 1 rfl) ?_
    refine mw_aldq hx hb hK hP 3 ((mu_n ((mp_ne hD.2.1.1 ((hD.2.2.2.2.1.2.1 j1 (by omega)).1.2) (by simp)))).trans ((mu_n ((mp_ne hD.2.1.1 ((hD.s0 hFS j1 (by omega))) (by simp)))).trans ((mu_n ((mp_ne hD.2.1.1 hD.2.2.2.2.1.1.2.2.1 (by simp)))).trans ((mu_n ((mp_ne hD.2.1.1 ((hD.2.2.2.2.1.2.1 22 (by omega)).1.2) (by simp)))).trans ((mu_n ((mp_ne hD.2.1.1 ((hD.s1 hFS 22 (by omega) (by omega))) (by simp)))).trans (hD.2.1.1)))))) rfl (by omega) (by omega) (hD.2.1.2.2.2.2.1 j1 (by omega)) dX6_act_50 ?_
    refine mw_get (C := RX4) (T := TX4) (N := 4) hx hb hts in_X6_act_X4 hown hK hP ((mu_n ((mp_ne ((hD.s0 hFS j1 (by omega))) ((hD.2.2.2.2.1.2.1 j1 (by omega)).1.2) (by simp)))).trans (mu_s _ _ _)) rfl 3 (by decide) (hts (.fieldLink RX6 69 "OctagonDesk$Shape" "empty" "Z") (by decide +kernel)) (fun _ h9 => h9) rfl dX6_act_51 ?_
    refine lv_if_ne (tgt := 61) hx hb dX6_act_54 (by decide) (fun hc54 => ?_) (fun hc54 => ?_)
    · exact absurd rfl hc54
    · refine lv_iconst (v := nI 1) hx hb dX6_act_57 (by decide) ?_
      refine lv_goto (tgt := 62) hx hb dX6_act_58 (by decide) ?_
      rw [hQ]
      refine vx_ret ?_
      refine W.widen (k := 5) (n := 30) (by omega) (by omega) ?_
      exact W.zret (v := nI 1) (ty := .boolean) hx hb hr (by first | rfl | decide) (fun t99 ht99 hW99 => ⟨⟨nI 1, mu (mu (mu (mu (mu μ (sa 22) (.inr (4, [.ref bn, .ref nn, .ref (la 22), .int (nI 0)]))) (la 22) (.inl (G.2 0, 78, .inr (.inl f29)))) s9 (.inl (G.2 0, 13, .inr (.inl g29)))) (sa j1) (.inr (4, [.ref bn, .ref nn, .ref (la j1), .int (nI 0)]))) (la j1) (.inl (G.2 0, 78, .inr (.inl f42))), rfl, (⟨hx1, hkk, rfl, ((((((DR.rf μ _).set (OW.sa (j := 22) (by omega))).set (OW.la (j := 22) (by omega))).set OW.s).set (OW.sa (j := j1) (by omega))).set (OW.la (j := j1) (by omega)))⟩), by show mw _ _ _ _ t99.heap; rw [ht99]; exact hP⟩, hS.F ht99⟩) hS.2.2 dX6_act_62
  · replace ek9 : k9 = nI 1 := ek9.trans (by decide)
    subst ek9
    obtain ⟨na9, hna9, ena9⟩ := ok_nat (n := 6) (by decide) hp1
    subst ena9
    obtain ⟨nb9, hnb9, enb9⟩ := ok_nat (n := 12) (by decide) hp2
    subst enb9
    refine lv_aload_n hx hb dX6_act_13 rfl (lv_at hl 0 rfl) ?_
    refine mw_get (C := RX6) (T := TX6) (N := 7) hx hb hts in_X6_act_X6 hown hK hP (hD.1) rfl 1 (by decide) (hts (.fieldLink RX6 34 "OctagonDesk" "made" "LOctagonDesk$Shape;") (by decide +kernel)) (fun _ h9 => h9) rfl dX6_act_14 ?_
    refine lv_aload_n hx hb dX6_act_17 rfl (lv_at hl 0 rfl) ?_
    refine mw_get (C := RX6) (T := TX6) (N := 7) hx hb hts in_X6_act_X6 hown hK hP (hD.1) rfl 0 (by decide) (hts (.fieldLink RX6 16 "OctagonDesk" "slots" "[LOctagonDesk$Shape;") (by decide +kernel)) (fun _ h9 => h9) rfl dX6_act_18 ?_
    refine lv_iload_n hx hb dX6_act_21 rfl (lv_at hl 1 rfl) ?_
    refine mw_aldq hx hb hK hP 3 (hD.2.1.1) rfl (by omega) (by omega) (hD.2.1.2.2.2.2.1 j1 (by omega)) dX6_act_22 ?_
    refine lv_iload_n hx hb dX6_act_23 rfl (lv_at hl 2 rfl) ?_
    refine lv_iload_n hx hb dX6_act_24 rfl (lv_at hl 3 rfl) ?_
    refine lv_iload hx hb dX6_act_25 (lv_at hl 4 rfl) ?_
    refine lv_iload hx hb dX6_act_27 (lv_at hl 5 rfl) ?_
    refine kc_v (va_runV (As := [.ref (sa j1), .int (nI 1), .int (nI na9), .int (nI nb9), .int c9]) (rest := []) ⟨hx, hb, hml, hown, hts⟩ (c_X4_makeFrom_1 l G B (μ) (sa 22) bn nn (la 22) s9 lo 1 nf (F 22) g w9 (sa j1) (la j1) (F j1) na9 nb9 c9 ((hD.s1 hFS 22 (by omega) (by omega))) (hD.2.2.2.2.1.1.1) (hD.2.2.2.2.1.1.2.1) ((hD.2.2.2.2.1.2.1 22 (by omega)).1.2) (hD.2.2.2.2.1.1.2.2.1) (hD.2.2.2.2.1.1.2.2.2) ((hD.s0 hFS j1 (by omega))) ((hD.2.2.2.2.1.2.1 j1 (by omega)).1.2) (((hD.2.2.2.2.1.2.2 22 j1 (by omega) (by omega) (by omega)).2)) (((hD.2.2.2.2.1.2.2 22 j1 (by omega) (by omega) (by omega)).1)) (hM6) (((hFS.za 22 (by omega))).ps) ((hFS.za j1 (by omega))) (hFS.2.2) (by omega) (by omega)) (cwV 5 hts gX6_act_X4_makeFrom rfl rfl rfl (by decide +kernel) ⟨Nat.le_of_ble_eq_true rfl, Nat.le_of_ble_eq_true rfl⟩) ⟨KW.blind, hP.recv hK rfl ((hD.s1 hFS 22 (by omega) (by omega))), fun U9 hU9 hW9 => ⟨rfl, KW.pre hBs hKK hS hP U9 hU9 hW9⟩⟩ rfl rfl hl.1 rfl (lv_room (Nat.le_of_ble_eq_true rfl)) dX6_act_29 ⟨(Nat.le_of_ble_eq_true rfl), (Nat.le_of_ble_eq_true rfl)⟩) hS (fun m29 H locs hq9 hP hz9 hS => ?_)
    obtain ⟨f29, g29, rfl, hp29⟩ := hq9
    have hP : mw G.1 vwCl B (mu (mu (mu μ (sa 22) (.inr (4, [.ref bn, .ref nn, .ref (la 22), .int (nI 0)]))) (la 22) (.inl (G.2 0, 78, .inr (.inl f29)))) s9 (.inl (G.2 0, 13, .inr (.inl g29)))) _ := mw_eq (congrArg (fun z => mu z s9 (.inl (G.2 0, 13, .inr (.inl g29)))) (congrArg (fun z => mu z (la 22) (.inl (G.2 0, 78, .inr (.inl f29)))) (rfl))) hP
    refine lv_aload_n hx hb dX6_act_32 rfl (lv_at hl 0 rfl) ?_
    refine mw_get (C := RX6) (T := TX6) (N := 7) hx hb hts in_X6_act_X6 hown hK hP ((mu_n ((mp_ne hD.1 hD.2.2.2.2.1.1.2.2.1 (by simp)))).trans ((mu_n ((mp_ne hD.1 ((hD.2.2.2.2.1.2.1 22 (by omega)).1.2) (by simp)))).trans ((mu_n ((mp_ne hD.1 ((hD.s1 hFS 22 (by omega) (by omega))) (by simp)))).trans (hD.1)))) rfl 0 (by decide) (hts (.fieldLink RX6 16 "OctagonDesk" "slots" "[LOctagonDesk$Shape;") (by decide +kernel)) (fun _ h9 => h9) rfl dX6_act_33 ?_
    refine lv_iload_n hx hb dX6_act_36 rfl (lv_at hl 1 rfl) ?_
    refine mw_aldq hx hb hK hP 3 ((mu_n ((mp_ne hD.2.1.1 hD.2.2.2.2.1.1.2.2.1 (by simp)))).trans ((mu_n ((mp_ne hD.2.1.1 ((hD.2.2.2.2.1.2.1 22 (by omega)).1.2) (by simp)))).trans ((mu_n ((mp_ne hD.2.1.1 ((hD.s1 hFS 22 (by omega) (by omega))) (by simp)))).trans (hD.2.1.1)))) rfl (by omega) (by omega) (hD.2.1.2.2.2.2.1 j1 (by omega)) dX6_act_37 ?_
    refine lv_aload_n hx hb dX6_act_38 rfl (lv_at hl 0 rfl) ?_
    refine mw_get (C := RX6) (T := TX6) (N := 7) hx hb hts in_X6_act_X6 hown hK hP ((mu_n ((mp_ne hD.1 hD.2.2.2.2.1.1.2.2.1 (by simp)))).trans ((mu_n ((mp_ne hD.1 ((hD.2.2.2.2.1.2.1 22 (by omega)).1.2) (by simp)))).trans ((mu_n ((mp_ne hD.1 ((hD.s1 hFS 22 (by omega) (by omega))) (by simp)))).trans (hD.1)))) rfl 1 (by decide) (hts (.fieldLink RX6 34 "OctagonDesk" "made" "LOctagonDesk$Shape;") (by decide +kernel)) (fun _ h9 => h9) rfl dX6_act_39 ?_
    refine kc_v (va_runV (As := [.ref (sa 22)]) (rest := []) ⟨hx, hb, hml, hown, hts⟩ (c_X4_takeOver l G B (mu (mu (mu μ (sa 22) (.inr (4, [.ref bn, .ref nn, .ref (la 22), .int (nI 0)]))) (la 22) (.inl (G.2 0, 78, .inr (.inl f29)))) s9 (.inl (G.2 0, 13, .inr (.inl g29)))) (sa j1) bn nn (la j1) s9 lo 0 nf (F j1) g29 w9 (sa 22) (la 22) 0 f29  ((mu_n ((mp_ne ((hD.s0 hFS j1 (by omega))) hD.2.2.2.2.1.1.2.2.1 (by simp)))).trans ((mu_n ((mp_ne ((hD.s0 hFS j1 (by omega))) ((hD.2.2.2.2.1.2.1 22 (by omega)).1.2) (by simp)))).trans ((mu_n (((hD.2.2.2.2.1.2.2 j1 22 (by omega) (by omega) (by omega)).1))).trans ((hD.s0 hFS j1 (by omega)))))) ((mu_n ((mp_ne hD.2.2.2.2.1.1.1 hD.2.2.2.2.1.1.2.2.1 (by simp)))).trans ((mu_n ((mp_ne hD.2.2.2.2.1.1.1 ((hD.2.2.2.2.1.2.1 22 (by omega)).1.2) (by simp)))).trans ((mu_n ((mp_ne hD.2.2.2.2.1.1.1 ((hD.s1 hFS 22 (by omega) (by omega))) (by simp)))).trans (hD.2.2.2.2.1.1.1)))) ((mu_n ((mp_ne hD.2.2.2.2.1.1.2.1 hD.2.2.2.2.1.1.2.2.1 (by simp)))).trans ((mu_n ((mp_ne hD.2.2.2.2.1.1.2.1 ((hD.2.2.2.2.1.2.1 22 (by omega)).1.2) (by simp)))).trans ((mu_n ((mp_ne hD.2.2.2.2.1.1.2.1 ((hD.s1 hFS 22 (by omega) (by omega))) (by simp)))).trans (hD.2.2.2.2.1.1.2.1)))) ((mu_n ((mp_ne ((hD.2.2.2.2.1.2.1 j1 (by omega)).1.2) hD.2.2.2.2.1.1.2.2.1 (by simp)))).trans ((mu_n (((hD.2.2.2.2.1.2.2 j1 22 (by omega) (by omega) (by omega)).2))).trans ((mu_n ((mp_ne ((hD.2.2.2.2.1.2.1 j1 (by omega)).1.2) ((hD.s1 hFS 22 (by omega) (by omega))) (by simp)))).trans ((hD.2.2.2.2.1.2.1 j1 (by omega)).1.2)))) (mu_s _ _ _) ((mu_n ((mp_ne hD.2.2.2.2.1.1.2.2.2 hD.2.2.2.2.1.1.2.2.1 (by simp)))).trans ((mu_n ((mp_ne hD.2.2.2.2.1.1.2.2.2 ((hD.2.2.2.2.1.2.1 22 (by omega)).1.2) (by simp)))).trans ((mu_n ((mp_ne hD.2.2.2.2.1.1.2.2.2 ((hD.s1 hFS 22 (by omega) (by omega))) (by simp)))).trans (hD.2.2.2.2.1.1.2.2.2)))) ((mu_n ((mp_ne ((hD.s1 hFS 22 (by omega) (by omega))) hD.2.2.2.2.1.1.2.2.1 (by simp)))).trans ((mu_n ((mp_ne ((hD.s1 hFS 22 (by omega) (by omega))) ((hD.2.2.2.2.1.2.1 22 (by omega)).1.2) (by simp)))).trans (mu_s _ _ _))) ((mu_n ((mp_ne ((hD.2.2.2.2.1.2.1 22 (by omega)).1.2) hD.2.2.2.2.1.1.2.2.1 (by simp)))).trans (mu_s _ _ _)) (by omega) (((hFS.za j1 (by omega))).ps) (hp29) (((hD.2.2.2.2.1.2.2 j1 22 (by omega) (by omega) (by omega)).2)) (((hD.2.2.2.2.1.2.2 j1 22 (by omega) (by omega) (by omega)).1))) (cwV 1 hts gX6_act_X4_takeOver rfl rfl rfl (by decide +kernel) ⟨Nat.le_of_ble_eq_true rfl, Nat.le_of_ble_eq_true rfl⟩) ⟨KW.blind, hP.recv hK rfl ((mu_n ((mp_ne ((hD.s0 hFS j1 (by omega))) hD.2.2.2.2.1.1.2.2.1 (by simp)))).trans ((mu_n ((mp_ne ((hD.s0 hFS j1 (by omega))) ((hD.2.2.2.2.1.2.1 22 (by omega)).1.2) (by simp)))).trans ((mu_n (((hD.2.2.2.2.1.2.2 j1 22 (by omega) (by omega) (by omega)).1))).trans ((hD.s0 hFS j1 (by omega)))))), fun U9 hU9 hW9 => ⟨rfl, KW.pre hBs hKK hS hP U9 hU9 hW9⟩⟩ rfl rfl hl.1 rfl (lv_room (Nat.le_of_ble_eq_true rfl)) dX6_act_42 ⟨(Nat.le_of_ble_eq_true rfl), (Nat.le_of_ble_eq_true rfl)⟩) hS (fun m42 H locs hq9 hP hz9 hS => ?_)
    obtain ⟨f42, rfl, hf42⟩ := hq9
    have hP : mw G.1 vwCl B (mu (mu (mu (mu (mu μ (sa 22) (.inr (4, [.ref bn, .ref nn, .ref (la 22), .int (nI 0)]))) (la 22) (.inl (G.2 0, 78, .inr (.inl f29)))) s9 (.inl (G.2 0, 13, .inr (.inl g29)))) (sa j1) (.inr (4, [.ref bn, .ref nn, .ref (la j1), .int (nI 0)]))) (la j1) (.inl (G.2 0, 78, .inr (.inl f42)))) _ := mw_eq (congrArg (fun z => mu z (la j1) (.inl (G.2 0, 78, .inr (.inl f42)))) (rfl)) hP
    refine lv_aload_n hx hb dX6_act_45 rfl (lv_at hl 0 rfl) ?_
    refine mw_get (C := RX6) (T := TX6) (N := 7) hx hb hts in_X6_act_X6 hown hK hP ((mu_n ((mp_ne hD.1 ((hD.2.2.2.2.1.2.1 j1 (by omega)).1.2) (by simp)))).trans ((mu_n ((mp_ne hD.1 ((hD.s0 hFS j1 (by omega))) (by simp)))).trans ((mu_n ((mp_ne hD.1 hD.2.2.2.2.1.1.2.2.1 (by simp)))).trans ((mu_n ((mp_ne hD.1 ((hD.2.2.2.2.1.2.1 22 (by omega)).1.2) (by simp)))).trans ((mu_n ((mp_ne hD.1 ((hD.s1 hFS 22 (by omega) (by omega))) (by simp)))).trans (hD.1)))))) rfl 0 (by decide) (hts (.fieldLink RX6 16 "OctagonDesk" "slots" "[LOctagonDesk$Shape;") (by decide +kernel)) (fun _ h9 => h9) rfl dX6_act_46 ?_
    refine lv_iload_n hx hb dX6_act_49 rfl (lv_at hl 1 rfl) ?_
    refine mw_aldq hx hb hK hP 3 ((mu_n ((mp_ne hD.2.1.1 ((hD.2.2.2.2.1.2.1 j1 (by omega)).1.2) (by simp)))).trans ((mu_n ((mp_ne hD.2.1.1 ((hD.s0 hFS j1 (by omega))) (by simp)))).trans ((mu_n ((mp_ne hD.2.1.1 hD.2.2.2.2.1.1.2.2.1 (by simp)))).trans ((mu_n ((mp_ne hD.2.1.1 ((hD.2.2.2.2.1.2.1 22 (by omega)).1.2) (by simp)))).trans ((mu_n ((mp_ne hD.2.1.1 ((hD.s1 hFS 22 (by omega) (by omega))) (by simp)))).trans (hD.2.1.1)))))) rfl (by omega) (by omega) (hD.2.1.2.2.2.2.1 j1 (by omega)) dX6_act_50 ?_
    refine mw_get (C := RX4) (T := TX4) (N := 4) hx hb hts in_X6_act_X4 hown hK hP ((mu_n ((mp_ne ((hD.s0 hFS j1 (by omega))) ((hD.2.2.2.2.1.2.1 j1 (by omega)).1.2) (by simp)))).trans (mu_s _ _ _)) rfl 3 (by decide) (hts (.fieldLink RX6 69 "OctagonDesk$Shape" "empty" "Z") (by decide +kernel)) (fun _ h9 => h9) rfl dX6_act_51 ?_
    refine lv_if_ne (tgt := 61) hx hb dX6_act_54 (by decide) (fun hc54 => ?_) (fun hc54 => ?_)
    · exact absurd rfl hc54
    · refine lv_iconst (v := nI 1) hx hb dX6_act_57 (by decide) ?_
      refine lv_goto (tgt := 62) hx hb dX6_act_58 (by decide) ?_
      rw [hQ]
      refine vx_ret ?_
      refine W.widen (k := 5) (n := 30) (by omega) (by omega) ?_
      exact W.zret (v := nI 1) (ty := .boolean) hx hb hr (by first | rfl | decide) (fun t99 ht99 hW99 => ⟨⟨nI 1, mu (mu (mu (mu (mu μ (sa 22) (.inr (4, [.ref bn, .ref nn, .ref (la 22), .int (nI 0)]))) (la 22) (.inl (G.2 0, 78, .inr (.inl f29)))) s9 (.inl (G.2 0, 13, .inr (.inl g29)))) (sa j1) (.inr (4, [.ref bn, .ref nn, .ref (la j1), .int (nI 0)]))) (la j1) (.inl (G.2 0, 78, .inr (.inl f42))), rfl, (⟨hx1, hkk, rfl, ((((((DR.rf μ _).set (OW.sa (j := 22) (by omega))).set (OW.la (j := 22) (by omega))).set OW.s).set (OW.sa (j := j1) (by omega))).set (OW.la (j := j1) (by omega)))⟩), by show mw _ _ _ _ t99.heap; rw [ht99]; exact hP⟩, hS.F ht99⟩) hS.2.2 dX6_act_62
  · replace ek9 : k9 = nI 2 := ek9.trans (by decide)
    subst ek9
    obtain ⟨na9, hna9, ena9⟩ := ok_nat (n := 6) (by decide) hp1
    subst ena9
    refine lv_aload_n hx hb dX6_act_13 rfl (lv_at hl 0 rfl) ?_
    refine mw_get (C := RX6) (T := TX6) (N := 7) hx hb hts in_X6_act_X6 hown hK hP (hD.1) rfl 1 (by decide) (hts (.fieldLink RX6 34 "OctagonDesk" "made" "LOctagonDesk$Shape;") (by decide +kernel)) (fun _ h9 => h9) rfl dX6_act_14 ?_
    refine lv_aload_n hx hb dX6_act_17 rfl (lv_at hl 0 rfl) ?_
    refine mw_get (C := RX6) (T := TX6) (N := 7) hx hb hts in_X6_act_X6 hown hK hP (hD.1) rfl 0 (by decide) (hts (.fieldLink RX6 16 "OctagonDesk" "slots" "[LOctagonDesk$Shape;") (by decide +kernel)) (fun _ h9 => h9) rfl dX6_act_18 ?_
    refine lv_iload_n hx hb dX6_act_21 rfl (lv_at hl 1 rfl) ?_
    refine mw_aldq hx hb hK hP 3 (hD.2.1.1) rfl (by omega) (by omega) (hD.2.1.2.2.2.2.1 j1 (by omega)) dX6_act_22 ?_
    refine lv_iload_n hx hb dX6_act_23 rfl (lv_at hl 2 rfl) ?_
    refine lv_iload_n hx hb dX6_act_24 rfl (lv_at hl 3 rfl) ?_
    refine lv_iload hx hb dX6_act_25 (lv_at hl 4 rfl) ?_
    refine lv_iload hx hb dX6_act_27 (lv_at hl 5 rfl) ?_
    refine kc_v (va_runV (As := [.ref (sa j1), .int (nI 2), .int (nI na9), .int b9, .int c9]) (rest := []) ⟨hx, hb, hml, hown, hts⟩ (c_X4_makeFrom_2 l G B (μ) (sa 22) bn nn (la 22) s9 lo 1 nf (F 22) g w9 (sa j1) (la j1) (F j1) na9 b9 c9 ((hD.s1 hFS 22 (by omega) (by omega))) (hD.2.2.2.2.1.1.1) (hD.2.2.2.2.1.1.2.1) ((hD.2.2.2.2.1.2.1 22 (by omega)).1.2) (hD.2.2.2.2.1.1.2.2.1) (hD.2.2.2.2.1.1.2.2.2) ((hD.s0 hFS j1 (by omega))) ((hD.2.2.2.2.1.2.1 j1 (by omega)).1.2) (((hD.2.2.2.2.1.2.2 22 j1 (by omega) (by omega) (by omega)).2)) (((hD.2.2.2.2.1.2.2 22 j1 (by omega) (by omega) (by omega)).1)) (hM6) (((hFS.za 22 (by omega))).ps) ((hFS.za j1 (by omega))) (hFS.2.2) (by omega) (hp2.m6) (Int32.le_iff_toInt_le.mp hp3) ((hFS.1 j1 (by omega)).2)) (cwV 5 hts gX6_act_X4_makeFrom rfl rfl rfl (by decide +kernel) ⟨Nat.le_of_ble_eq_true rfl, Nat.le_of_ble_eq_true rfl⟩) ⟨KW.blind, hP.recv hK rfl ((hD.s1 hFS 22 (by omega) (by omega))), fun U9 hU9 hW9 => ⟨rfl, KW.pre hBs hKK hS hP U9 hU9 hW9⟩⟩ rfl rfl hl.1 rfl (lv_room (Nat.le_of_ble_eq_true rfl)) dX6_act_29 ⟨(Nat.le_of_ble_eq_true rfl), (Nat.le_of_ble_eq_true rfl)⟩) hS (fun m29 H locs hq9 hP hz9 hS => ?_)
    obtain ⟨f29, g29, rfl, hp29⟩ := hq9
    have hP : mw G.1 vwCl B (mu (mu (mu μ (sa 22) (.inr (4, [.ref bn, .ref nn, .ref (la 22), .int (nI 0)]))) (la 22) (.inl (G.2 0, 78, .inr (.inl f29)))) s9 (.inl (G.2 0, 13, .inr (.inl g29)))) _ := mw_eq (congrArg (fun z => mu z s9 (.inl (G.2 0, 13, .inr (.inl g29)))) (congrArg (fun z => mu z (la 22) (.inl (G.2 0, 78, .inr (.inl f29)))) (rfl))) hP
    refine lv_aload_n hx hb dX6_act_32 rfl (lv_at hl 0 rfl) ?_
    refine mw_get (C := RX6) (T := TX6) (N := 7) hx hb hts in_X6_act_X6 hown hK hP ((mu_n ((mp_ne hD.1 hD.2.2.2.2.1.1.2.2.1 (by simp)))).trans ((mu_n ((mp_ne hD.1 ((hD.2.2.2.2.1.2.1 22 (by omega)).1.2) (by simp)))).trans ((mu_n ((mp_ne hD.1 ((hD.s1 hFS 22 (by omega) (by omega))) (by simp)))).trans (hD.1)))) rfl 0 (by decide) (hts (.fieldLink RX6 16 "OctagonDesk" "slots" "[LOctagonDesk$Shape;") (by decide +kernel)) (fun _ h9 => h9) rfl dX6_act_33 ?_
    refine lv_iload_n hx hb dX6_act_36 rfl (lv_at hl 1 rfl) ?_
    refine mw_aldq hx hb hK hP 3 ((mu_n ((mp_ne hD.2.1.1 hD.2.2.2.2.1.1.2.2.1 (by simp)))).trans ((mu_n ((mp_ne hD.2.1.1 ((hD.2.2.2.2.1.2.1 22 (by omega)).1.2) (by simp)))).trans ((mu_n ((mp_ne hD.2.1.1 ((hD.s1 hFS 22 (by omega) (by omega))) (by simp)))).trans (hD.2.1.1)))) rfl (by omega) (by omega) (hD.2.1.2.2.2.2.1 j1 (by omega)) dX6_act_37 ?_
    refine lv_aload_n hx hb dX6_act_38 rfl (lv_at hl 0 rfl) ?_
    refine mw_get (C := RX6) (T := TX6) (N := 7) hx hb hts in_X6_act_X6 hown hK hP ((mu_n ((mp_ne hD.1 hD.2.2.2.2.1.1.2.2.1 (by simp)))).trans ((mu_n ((mp_ne hD.1 ((hD.2.2.2.2.1.2.1 22 (by omega)).1.2) (by simp)))).trans ((mu_n ((mp_ne hD.1 ((hD.s1 hFS 22 (by omega) (by omega))) (by simp)))).trans (hD.1)))) rfl 1 (by decide) (hts (.fieldLink RX6 34 "OctagonDesk" "made" "LOctagonDesk$Shape;") (by decide +kernel)) (fun _ h9 => h9) rfl dX6_act_39 ?_
    refine kc_v (va_runV (As := [.ref (sa 22)]) (rest := []) ⟨hx, hb, hml, hown, hts⟩ (c_X4_takeOver l G B (mu (mu (mu μ (sa 22) (.inr (4, [.ref bn, .ref nn, .ref (la 22), .int (nI 0)]))) (la 22) (.inl (G.2 0, 78, .inr (.inl f29)))) s9 (.inl (G.2 0, 13, .inr (.inl g29)))) (sa j1) bn nn (la j1) s9 lo 0 nf (F j1) g29 w9 (sa 22) (la 22) 0 f29  ((mu_n ((mp_ne ((hD.s0 hFS j1 (by omega))) hD.2.2.2.2.1.1.2.2.1 (by simp)))).trans ((mu_n ((mp_ne ((hD.s0 hFS j1 (by omega))) ((hD.2.2.2.2.1.2.1 22 (by omega)).1.2) (by simp)))).trans ((mu_n (((hD.2.2.2.2.1.2.2 j1 22 (by omega) (by omega) (by omega)).1))).trans ((hD.s0 hFS j1 (by omega)))))) ((mu_n ((mp_ne hD.2.2.2.2.1.1.1 hD.2.2.2.2.1.1.2.2.1 (by simp)))).trans ((mu_n ((mp_ne hD.2.2.2.2.1.1.1 ((hD.2.2.2.2.1.2.1 22 (by omega)).1.2) (by simp)))).trans ((mu_n ((mp_ne hD.2.2.2.2.1.1.1 ((hD.s1 hFS 22 (by omega) (by omega))) (by simp)))).trans (hD.2.2.2.2.1.1.1)))) ((mu_n ((mp_ne hD.2.2.2.2.1.1.2.1 hD.2.2.2.2.1.1.2.2.1 (by simp)))).trans ((mu_n ((mp_ne hD.2.2.2.2.1.1.2.1 ((hD.2.2.2.2.1.2.1 22 (by omega)).1.2) (by simp)))).trans ((mu_n ((mp_ne hD.2.2.2.2.1.1.2.1 ((hD.s1 hFS 22 (by omega) (by omega))) (by simp)))).trans (hD.2.2.2.2.1.1.2.1)))) ((mu_n ((mp_ne ((hD.2.2.2.2.1.2.1 j1 (by omega)).1.2) hD.2.2.2.2.1.1.2.2.1 (by simp)))).trans ((mu_n (((hD.2.2.2.2.1.2.2 j1 22 (by omega) (by omega) (by omega)).2))).trans ((mu_n ((mp_ne ((hD.2.2.2.2.1.2.1 j1 (by omega)).1.2) ((hD.s1 hFS 22 (by omega) (by omega))) (by simp)))).trans ((hD.2.2.2.2.1.2.1 j1 (by omega)).1.2)))) (mu_s _ _ _) ((mu_n ((mp_ne hD.2.2.2.2.1.1.2.2.2 hD.2.2.2.2.1.1.2.2.1 (by simp)))).trans ((mu_n ((mp_ne hD.2.2.2.2.1.1.2.2.2 ((hD.2.2.2.2.1.2.1 22 (by omega)).1.2) (by simp)))).trans ((mu_n ((mp_ne hD.2.2.2.2.1.1.2.2.2 ((hD.s1 hFS 22 (by omega) (by omega))) (by simp)))).trans (hD.2.2.2.2.1.1.2.2.2)))) ((mu_n ((mp_ne ((hD.s1 hFS 22 (by omega) (by omega))) hD.2.2.2.2.1.1.2.2.1 (by simp)))).trans ((mu_n ((mp_ne ((hD.s1 hFS 22 (by omega) (by omega))) ((hD.2.2.2.2.1.2.1 22 (by omega)).1.2) (by simp)))).trans (mu_s _ _ _))) ((mu_n ((mp_ne ((hD.2.2.2.2.1.2.1 22 (by omega)).1.2) hD.2.2.2.2.1.1.2.2.1 (by simp)))).trans (mu_s _ _ _)) (by omega) (((hFS.za j1 (by omega))).ps) (hp29) (((hD.2.2.2.2.1.2.2 j1 22 (by omega) (by omega) (by omega)).2)) (((hD.2.2.2.2.1.2.2 j1 22 (by omega) (by omega) (by omega)).1))) (cwV 1 hts gX6_act_X4_takeOver rfl rfl rfl (by decide +kernel) ⟨Nat.le_of_ble_eq_true rfl, Nat.le_of_ble_eq_true rfl⟩) ⟨KW.blind, hP.recv hK rfl ((mu_n ((mp_ne ((hD.s0 hFS j1 (by omega))) hD.2.2.2.2.1.1.2.2.1 (by simp)))).trans ((mu_n ((mp_ne ((hD.s0 hFS j1 (by omega))) ((hD.2.2.2.2.1.2.1 22 (by omega)).1.2) (by simp)))).trans ((mu_n (((hD.2.2.2.2.1.2.2 j1 22 (by omega) (by omega) (by omega)).1))).trans ((hD.s0 hFS j1 (by omega)))))), fun U9 hU9 hW9 => ⟨rfl, KW.pre hBs hKK hS hP U9 hU9 hW9⟩⟩ rfl rfl hl.1 rfl (lv_room (Nat.le_of_ble_eq_true rfl)) dX6_act_42 ⟨(Nat.le_of_ble_eq_true rfl), (Nat.le_of_ble_eq_true rfl)⟩) hS (fun m42 H locs hq9 hP hz9 hS => ?_)
    obtain ⟨f42, rfl, hf42⟩ := hq9
    have hP : mw G.1 vwCl B (mu (mu (mu (mu (mu μ (sa 22) (.inr (4, [.ref bn, .ref nn, .ref (la 22), .int (nI 0)]))) (la 22) (.inl (G.2 0, 78, .inr (.inl f29)))) s9 (.inl (G.2 0, 13, .inr (.inl g29)))) (sa j1) (.inr (4, [.ref bn, .ref nn, .ref (la j1), .int (nI 0)]))) (la j1) (.inl (G.2 0, 78, .inr (.inl f42)))) _ := mw_eq (congrArg (fun z => mu z (la j1) (.inl (G.2 0, 78, .inr (.inl f42)))) (rfl)) hP
    refine lv_aload_n hx hb dX6_act_45 rfl (lv_at hl 0 rfl) ?_
    refine mw_get (C := RX6) (T := TX6) (N := 7) hx hb hts in_X6_act_X6 hown hK hP ((mu_n ((mp_ne hD.1 ((hD.2.2.2.2.1.2.1 j1 (by omega)).1.2) (by simp)))).trans ((mu_n ((mp_ne hD.1 ((hD.s0 hFS j1 (by omega))) (by simp)))).trans ((mu_n ((mp_ne hD.1 hD.2.2.2.2.1.1.2.2.1 (by simp)))).trans ((mu_n ((mp_ne hD.1 ((hD.2.2.2.2.1.2.1 22 (by omega)).1.2) (by simp)))).trans ((mu_n ((mp_ne hD.1 ((hD.s1 hFS 22 (by omega) (by omega))) (by simp)))).trans (hD.1)))))) rfl 0 (by decide) (hts (.fieldLink RX6 16 "OctagonDesk" "slots" "[LOctagonDesk$Shape;") (by decide +kernel)) (fun _ h9 => h9) rfl dX6_act_46 ?_
    refine lv_iload_n hx hb dX6_act_49 rfl (lv_at hl 1 rfl) ?_
    refine mw_aldq hx hb hK hP 3 ((mu_n ((mp_ne hD.2.1.1 ((hD.2.2.2.2.1.2.1 j1 (by omega)).1.2) (by simp)))).trans ((mu_n ((mp_ne hD.2.1.1 ((hD.s0 hFS j1 (by omega))) (by simp)))).trans ((mu_n ((mp_ne hD.2.1.1 hD.2.2.2.2.1.1.2.2.1 (by simp)))).trans ((mu_n ((mp_ne hD.2.1.1 ((hD.2.2.2.2.1.2.1 22 (by omega)).1.2) (by simp)))).trans ((mu_n ((mp_ne hD.2.1.1 ((hD.s1 hFS 22 (by omega) (by omega))) (by simp)))).trans (hD.2.1.1)))))) rfl (by omega) (by omega) (hD.2.1.2.2.2.2.1 j1 (by omega)) dX6_act_50 ?_
    refine mw_get (C := RX4) (T := TX4) (N := 4) hx hb hts in_X6_act_X4 hown hK hP ((mu_n ((mp_ne ((hD.s0 hFS j1 (by omega))) ((hD.2.2.2.2.1.2.1 j1 (by omega)).1.2) (by simp)))).trans (mu_s _ _ _)) rfl 3 (by decide) (hts (.fieldLink RX6 69 "OctagonDesk$Shape" "empty" "Z") (by decide +kernel)) (fun _ h9 => h9) rfl dX6_act_51 ?_
    refine lv_if_ne (tgt := 61) hx hb dX6_act_54 (by decide) (fun hc54 => ?_) (fun hc54 => ?_)
    · exact absurd rfl hc54
    · refine lv_iconst (v := nI 1) hx hb dX6_act_57 (by decide) ?_
      refine lv_goto (tgt := 62) hx hb dX6_act_58 (by decide) ?_
      rw [hQ]
      refine vx_ret ?_
      refine W.widen (k := 5) (n := 30) (by omega) (by omega) ?_
      exact W.zret (v := nI 1) (ty := .boolean) hx hb hr (by first | rfl | decide) (fun t99 ht99 hW99 => ⟨⟨nI 1, mu (mu (mu (mu (mu μ (sa 22) (.inr (4, [.ref bn, .ref nn, .ref (la 22), .int (nI 0)]))) (la 22) (.inl (G.2 0, 78, .inr (.inl f29)))) s9 (.inl (G.2 0, 13, .inr (.inl g29)))) (sa j1) (.inr (4, [.ref bn, .ref nn, .ref (la j1), .int (nI 0)]))) (la j1) (.inl (G.2 0, 78, .inr (.inl f42))), rfl, (⟨hx1, hkk, rfl, ((((((DR.rf μ _).set (OW.sa (j := 22) (by omega))).set (OW.la (j := 22) (by omega))).set OW.s).set (OW.sa (j := j1) (by omega))).set (OW.la (j := j1) (by omega)))⟩), by show mw _ _ _ _ t99.heap; rw [ht99]; exact hP⟩, hS.F ht99⟩) hS.2.2 dX6_act_62
