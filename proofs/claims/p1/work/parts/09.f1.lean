abbrev rm_X1_init : Room := { frames := 1, cells := 1, slots := 32, locals := 12 }
set_option maxHeartbeats 4000000 in
set_option maxRecDepth 100000 in
theorem c_X1_init (l : Launch) (G : GG) (B : Nat) (μ : mp) (h : Nat) (hh : μ h = some (.inr (1, [.null, .null]))) : Met l yX1_init wsX1_init rm_X1_init (va_Pc [.ref h] (KW G B μ)) (va_Qv (fun μ2 => ∃ l9 : Nat, μ l9 = none ∧ l9 ≠ h ∧ μ2 = mu (mu μ h (.inr (1, [.ref l9, .null]))) l9 (.inl (G.2 0, 32, .inr (.inl (fun _ => 0))))) (BB G B) (fun q => B ≤ q)) 1 32 (fun q => B ≤ q) := by
  refine Met.ofW (cc := cX1_init) (maxL := 1) (ret := none) (by decide) rfl ?_
  intro p e s m args below meth c s₁ B9 hml hv
  obtain ⟨hargs, hBs, hP, hKK⟩ := hv
  have hx := B9.exec
  have hb := B9.bytes
  have hr := B9.returns
  have hts := atoms_spec (ws := wsX1_init) B9.pre
  have hown : s.vm.findClass RX1 = some m.cls := findClass_of_methodNamed B9.named
  have hlocks := B9.notSynchronized
  have hin : meth.name = "<init>" := (name_of_methodNamed B9.named B9.method).1
  have hK := hKK.k
  have hS : va_S (fun q => B ≤ q) s.heap s.heap [] := va_S.rf
  obtain ⟨Q, hQ⟩ : ∃ Q, Q = MQ below (va_Qv (fun μ2 => ∃ l9 : Nat, μ l9 = none ∧ l9 ≠ h ∧ μ2 = mu (mu μ h (.inr (1, [.ref l9, .null]))) l9 (.inl (G.2 0, 32, .inr (.inl (fun _ => 0))))) (BB G B) (fun q => B ≤ q)) args s 1 32 (fun q => B ≤ q) := ⟨_, rfl⟩
  rw [← hQ]
  have in_X1_init_X1 : ∀ w ∈ wsX10, w ∈ wsX1_init := by decide +kernel
  have hP : mw G.1 vwCl B (mu μ h (.inr (1, [.null, .null]))) s.heap := mw_eq (mu_i hh).symm hP
  have hl := lv_entry ([.ref h]) (n := 1) (Nat.le_of_ble_eq_true rfl)
  have he9 : entryFrame m args 1 = entryFrame m ([.ref h] : List Value).toArray 1 := by rw [hargs]
  rw [he9, lg_entry_eq]
  generalize (lg_sl ([.ref h]) ++ List.replicate (1 - (lg_sl ([.ref h])).length) Slot.unset).toArray = ls at hl ⊢
  have hl : lv_has ls 1 [(0, .ref h)] := hl
  refine lv_aload_n hx hb dX1_init_0 rfl (lv_at hl 0 rfl) ?_
  refine W.objInit hx hb hown (hts (.methodLink RX1 1 objectInit) (by decide +kernel)) (hts (.instanceMethod objectInit) (by decide +kernel)) (hts (.code objectInit ⟨#[0xb1]⟩ 1 none) (by decide +kernel)) rfl (by rw [hml]; exact hl.1) rfl dX1_init_1 (Nat.le_of_ble_eq_true rfl) (Nat.le_of_ble_eq_true rfl) ?_
  refine lv_aload_n hx hb dX1_init_4 rfl (lv_at hl 0 rfl) ?_
  refine lv_bipush (v := nI 32) hx hb dX1_init_5 (by decide) ?_
  refine mw_newa (n := 32) (a0 := (32, .inr (.inl (fun _ => 0)))) (atype := .long) (ty := .long) hx hb (hts (.arrayClass .long) (by decide +kernel)) rfl hK hP hS hBs 0 rfl (fun cA9 => vp0_J cA9 (32)) (by omega) (by show (32) * _ ≤ _; simp only [componentBytes]; omega) (Nat.le_of_ble_eq_true rfl) (Nat.le_of_ble_eq_true rfl) dX1_init_7 (fun q7 H hsq7 hzq7 hnq7 hP hS => ?_)
  have nqh_q7 : h ≠ q7 := mp_nn (mu_s _ _ _) hnq7
  have hP : mw G.1 vwCl B (mu (mu μ h (.inr (1, [.null, .null]))) q7 (.inl (G.2 0, 32, .inr (.inl (fun _ => 0))))) _ := hP
  refine mw_putF (ty := .array .long) (v := .ref q7) (C := RX1) (T := TX1) (N := 2) hx hb hts in_X1_init_X1 tyX1 tyX1_ok nmX1 hown hK hP hS ((mu_n nqh_q7).trans (mu_s _ _ _)) rfl 0 (by decide) (hts (.fieldLink RX1 9 "OctagonDesk$Block" "limbs" "[J") (by decide +kernel)) (fun _ h9 => h9) rfl hin rfl (by decide +kernel) (by first | rfl | decide +kernel) (by first | rfl | decide +kernel) (Nat.le_of_ble_eq_true rfl) dX1_init_9 (fun H locs hP hS => ?_)
  have hP : mw G.1 vwCl B (mu (mu μ h (.inr (1, [.ref q7, .null]))) q7 (.inl (G.2 0, 32, .inr (.inl (fun _ => 0))))) _ := mw_eq ((mu_c _ _ ((Ne.symm nqh_q7))).trans (congrArg (fun z => mu z q7 (.inl (G.2 0, 32, .inr (.inl (fun _ => 0))))) (mu_u _ _ _ _))) hP
  rw [hQ]
  refine W.widen (k := 1) (n := 32) (by omega) (by omega) ?_
  exact W.vret hx hb hr (fun t99 ht99 hW99 => ⟨⟨mu (mu μ h (.inr (1, [.ref q7, .null]))) q7 (.inl (G.2 0, 32, .inr (.inl (fun _ => 0)))), rfl, (⟨q7, (mu_none hnq7).2, (mu_none hnq7).1, rfl⟩), by show mw _ _ _ _ t99.heap; rw [ht99]; exact hP⟩, hS.F ht99⟩) hS.2.2 dX1_init_12

abbrev rm_X2_init : Room := { frames := 1, cells := 1, slots := 4, locals := 12 }
set_option maxHeartbeats 4000000 in
set_option maxRecDepth 100000 in
theorem c_X2_init (l : Launch) (G : GG) (B : Nat) (μ : mp) (h : Nat) (v9 : Int64) (hh : μ h = some (.inr (2, [.long 0, .null, .int (nI 0), .int (nI 0), .int (nI 0), .null]))) : Met l yX2_init wsX2_init rm_X2_init (va_Pc [.ref h, .long v9] (KW G B μ)) (va_Qv (fun μ2 => ∃ l9 : Nat, μ l9 = none ∧ l9 ≠ h ∧ μ2 = mu (mu μ h (.inr (2, [.long v9, .ref l9, .int (nI 0), .int (nI 0), .int (nI 0), .null]))) l9 (.inl (G.2 6, 4, .inr (.inr (.inr (.inr (fun _ => none))))))) (BB G B) (fun q => B ≤ q)) 1 4 (fun q => B ≤ q) := by
  refine Met.ofW (cc := cX2_init) (maxL := 3) (ret := none) (by decide) rfl ?_
  intro p e s m args below meth c s₁ B9 hml hv
  obtain ⟨hargs, hBs, hP, hKK⟩ := hv
  have hx := B9.exec
  have hb := B9.bytes
  have hr := B9.returns
  have hts := atoms_spec (ws := wsX2_init) B9.pre
  have hown : s.vm.findClass RX2 = some m.cls := findClass_of_methodNamed B9.named
  have hlocks := B9.notSynchronized
  have hin : meth.name = "<init>" := (name_of_methodNamed B9.named B9.method).1
  have hK := hKK.k
  have hS : va_S (fun q => B ≤ q) s.heap s.heap [] := va_S.rf
  obtain ⟨Q, hQ⟩ : ∃ Q, Q = MQ below (va_Qv (fun μ2 => ∃ l9 : Nat, μ l9 = none ∧ l9 ≠ h ∧ μ2 = mu (mu μ h (.inr (2, [.long v9, .ref l9, .int (nI 0), .int (nI 0), .int (nI 0), .null]))) l9 (.inl (G.2 6, 4, .inr (.inr (.inr (.inr (fun _ => none))))))) (BB G B) (fun q => B ≤ q)) args s 1 4 (fun q => B ≤ q) := ⟨_, rfl⟩
  rw [← hQ]
  have in_X2_init_X2 : ∀ w ∈ wsX20, w ∈ wsX2_init := by decide +kernel
  have hP : mw G.1 vwCl B (mu μ h (.inr (2, [.long 0, .null, .int (nI 0), .int (nI 0), .int (nI 0), .null]))) s.heap := mw_eq (mu_i hh).symm hP
  have hl := lv_entry ([.ref h, .long v9]) (n := 3) (Nat.le_of_ble_eq_true rfl)
  have he9 : entryFrame m args 3 = entryFrame m ([.ref h, .long v9] : List Value).toArray 3 := by rw [hargs]
  rw [he9, lg_entry_eq]
  generalize (lg_sl ([.ref h, .long v9]) ++ List.replicate (3 - (lg_sl ([.ref h, .long v9])).length) Slot.unset).toArray = ls at hl ⊢
  have hl : lv_has ls 3 [(0, .ref h), (1, .long v9)] := hl
  refine lv_aload_n hx hb dX2_init_0 rfl (lv_at hl 0 rfl) ?_
  refine W.objInit hx hb hown (hts (.methodLink RX2 1 objectInit) (by decide +kernel)) (hts (.instanceMethod objectInit) (by decide +kernel)) (hts (.code objectInit ⟨#[0xb1]⟩ 1 none) (by decide +kernel)) rfl (by rw [hml]; exact hl.1) rfl dX2_init_1 (Nat.le_of_ble_eq_true rfl) (Nat.le_of_ble_eq_true rfl) ?_
  refine lv_aload_n hx hb dX2_init_4 rfl (lv_at hl 0 rfl) ?_
  refine lv_lload_n hx hb dX2_init_5 rfl (lv_at hl 1 rfl) ?_
  refine mw_putF (ty := .long) (v := .long v9) (C := RX2) (T := TX2) (N := 6) hx hb hts in_X2_init_X2 tyX2 tyX2_ok nmX2 hown hK hP hS (mu_s _ _ _) rfl 0 (by decide) (hts (.fieldLink RX2 7 "OctagonDesk$Giant" "name" "J") (by decide +kernel)) (fun _ h9 => h9) rfl hin rfl (by decide +kernel) (by first | rfl | decide +kernel) (by first | rfl | decide +kernel) (Nat.le_of_ble_eq_true rfl) dX2_init_6 (fun H locs hP hS => ?_)
  have hP : mw G.1 vwCl B (mu μ h (.inr (2, [.long v9, .null, .int (nI 0), .int (nI 0), .int (nI 0), .null]))) _ := mw_eq (mu_u _ _ _ _) hP
  refine lv_aload_n hx hb dX2_init_9 rfl (lv_at hl 0 rfl) ?_
  refine lv_iconst (v := nI 4) hx hb dX2_init_10 (by decide) ?_
  refine mw_newq hx hb hown (hts (.classLink RX2 13 RX1) (by decide +kernel)) hKK.2.2.1.2.2.2 hK hP hS hBs 6 rfl (by omega) (Nat.le_of_ble_eq_true rfl) (Nat.le_of_ble_eq_true rfl) dX2_init_11 (fun q11 H hsq11 hzq11 hnq11 hP hS => ?_)
  have nqh_q11 : h ≠ q11 := mp_nn (mu_s _ _ _) hnq11
  have hP : mw G.1 vwCl B (mu (mu μ h (.inr (2, [.long v9, .null, .int (nI 0), .int (nI 0), .int (nI 0), .null]))) q11 (.inl (G.2 6, 4, .inr (.inr (.inr (.inr (fun _ => none))))))) _ := hP
  refine mw_put (ty := .array (.object "OctagonDesk$Block")) (v := .ref q11) (C := RX2) (T := TX2) (N := 6) hx hb hts in_X2_init_X2 tyX2 tyX2_ok nmX2 hown hK hP hS ((mu_n nqh_q11).trans (mu_s _ _ _)) rfl 1 (by decide) (hts (.fieldLink RX2 15 "OctagonDesk$Giant" "blocks" "[LOctagonDesk$Block;") (by decide +kernel)) (fun _ h9 => h9) rfl (by decide +kernel) (by first | rfl | decide +kernel) (by first | rfl | decide +kernel) (Nat.le_of_ble_eq_true rfl) dX2_init_14 (fun H locs hP hS => ?_)
  have hP : mw G.1 vwCl B (mu (mu μ h (.inr (2, [.long v9, .ref q11, .int (nI 0), .int (nI 0), .int (nI 0), .null]))) q11 (.inl (G.2 6, 4, .inr (.inr (.inr (.inr (fun _ => none))))))) _ := mw_eq ((mu_c _ _ ((Ne.symm nqh_q11))).trans (congrArg (fun z => mu z q11 (.inl (G.2 6, 4, .inr (.inr (.inr (.inr (fun _ => none))))))) (mu_u _ _ _ _))) hP
  rw [hQ]
  refine W.widen (k := 1) (n := 4) (by omega) (by omega) ?_
  exact W.vret hx hb hr (fun t99 ht99 hW99 => ⟨⟨mu (mu μ h (.inr (2, [.long v9, .ref q11, .int (nI 0), .int (nI 0), .int (nI 0), .null]))) q11 (.inl (G.2 6, 4, .inr (.inr (.inr (.inr (fun _ => none)))))), rfl, (⟨q11, (mu_none hnq11).2, (mu_none hnq11).1, rfl⟩), by show mw _ _ _ _ t99.heap; rw [ht99]; exact hP⟩, hS.F ht99⟩) hS.2.2 dX2_init_17

abbrev rm_X3_onePlain : Room := { frames := 2, cells := 4, slots := 44, locals := 34 }
set_option maxHeartbeats 4000000 in
set_option maxRecDepth 100000 in
theorem c_X3_onePlain (l : Launch) (G : GG) (B : Nat) (μ : mp)  : Met l yX3_onePlain wsX3_onePlain rm_X3_onePlain (va_Pc [] (KW G B μ)) (va_Qr (fun (_ : mp) => True) (fun μ2 ra t9 => (fun (μ2 : mp) (ra : Nat) => μ ra = none ∧ Ext μ μ2 ∧ ∃ fs : List Value, μ2 ra = some (.inr (2, fs))) μ2 ra ∧ BB G B μ2 t9) (fun q => B ≤ q)) 4 44 (fun q => B ≤ q) := by
  refine Met.ofW (cc := cX3_onePlain) (maxL := 1) (ret := (some (.object "OctagonDesk$Giant"))) (by decide) rfl ?_
  intro p e s m args below meth c s₁ B9 hml hv
  obtain ⟨hargs, hBs, hP, hKK⟩ := hv
  have hx := B9.exec
  have hb := B9.bytes
  have hr := B9.returns
  have hts := atoms_spec (ws := wsX3_onePlain) B9.pre
  have hown : s.vm.findClass RX3 = some m.cls := findClass_of_methodNamed B9.named
  have hlocks := B9.notSynchronized
  have hK := hKK.k
  have hS : va_S (fun q => B ≤ q) s.heap s.heap [] := va_S.rf
  obtain ⟨Q, hQ⟩ : ∃ Q, Q = MQ below (va_Qr (fun (_ : mp) => True) (fun μ2 ra t9 => (fun (μ2 : mp) (ra : Nat) => μ ra = none ∧ Ext μ μ2 ∧ ∃ fs : List Value, μ2 ra = some (.inr (2, fs))) μ2 ra ∧ BB G B μ2 t9) (fun q => B ≤ q)) args s 4 44 (fun q => B ≤ q) := ⟨_, rfl⟩
  rw [← hQ]
  have in_X3_onePlain_X1 : ∀ w ∈ wsX10, w ∈ wsX3_onePlain := by decide +kernel
  have in_X3_onePlain_X2 : ∀ w ∈ wsX20, w ∈ wsX3_onePlain := by decide +kernel
  have hl := lv_entry ([]) (n := 1) (Nat.le_of_ble_eq_true rfl)
  have he9 : entryFrame m args 1 = entryFrame m ([] : List Value).toArray 1 := by rw [hargs]
  rw [he9, lg_entry_eq]
  generalize (lg_sl ([]) ++ List.replicate (1 - (lg_sl ([])).length) Slot.unset).toArray = ls at hl ⊢
  have hl : lv_has ls 1 [] := hl
  refine mw_new (ci := 2) (fs := [.long 0, .null, .int (nI 0), .int (nI 0), .int (nI 0), .null]) (C := RX2) (T := TX2) (N := 6) hx hb hts in_X3_onePlain_X2 tyX2 tyX2_ok hown (hts (.classLink RX3 11 RX2) (by decide +kernel)) (hts (.instantiable RX2 6) (by decide +kernel)) (hts (.initialized RX2) (by decide +kernel)) hK hP hS hBs rfl (fun j hj => by rcases (show j = 0 ∨ j = 1 ∨ j = 2 ∨ j = 3 ∨ j = 4 ∨ j = 5 by omega) with rfl | rfl | rfl | rfl | rfl | rfl <;> rfl) (Nat.le_of_ble_eq_true rfl) (Nat.le_of_ble_eq_true rfl) dX3_onePlain_0 (fun q0 H hsq0 hzq0 hnq0 hP hS => ?_)
  have hP : mw G.1 vwCl B (mu μ q0 (.inr (2, [.long 0, .null, .int (nI 0), .int (nI 0), .int (nI 0), .null]))) _ := hP
  refine lv_dup hx hb dX3_onePlain_3 rfl ?_
  refine lv_lconst (v := 0) hx hb dX3_onePlain_4 (by decide) ?_
  refine kc_v (va_runI (As := [.long 0]) (rest := [.ref q0]) ⟨hx, hb, hml, hown, hts⟩ (c_X2_init l G B (mu μ q0 (.inr (2, [.long 0, .null, .int (nI 0), .int (nI 0), .int (nI 0), .null]))) q0 0 (mu_s _ _ _)) (cwI 1 hts gX3_onePlain_X2_init rfl rfl rfl (hts (.initialized RX2) (by decide +kernel)) (hts (.methodLink RX3 44 yX2_init) (by decide +kernel)) (hts (.instanceMethod yX2_init) (by decide +kernel)) rfl (by decide +kernel) ⟨Nat.le_of_ble_eq_true rfl, Nat.le_of_ble_eq_true rfl⟩) ⟨KW.blind, fun U9 hU9 hW9 => ⟨rfl, KW.pre hBs hKK hS hP U9 hU9 hW9⟩⟩ rfl rfl hl.1 rfl (lv_room (Nat.le_of_ble_eq_true rfl)) dX3_onePlain_5 ⟨(Nat.le_of_ble_eq_true rfl), (Nat.le_of_ble_eq_true rfl)⟩) hS (fun m5 H locs hq9 hP hz9 hS => ?_)
  obtain ⟨l5, hn5, -, rfl⟩ := hq9
  have nqq0_l5 : q0 ≠ l5 := mp_nn (mu_s _ _ _) hn5
  have hP : mw G.1 vwCl B (mu (mu μ q0 (.inr (2, [.long 0, .ref l5, .int (nI 0), .int (nI 0), .int (nI 0), .null]))) l5 (.inl (G.2 6, 4, .inr (.inr (.inr (.inr (fun _ => none))))))) _ := mw_eq (congrArg (fun z => mu z l5 (.inl (G.2 6, 4, .inr (.inr (.inr (.inr (fun _ => none))))))) (mu_u _ _ _ _)) hP
  refine lv_astore_n (lv' := [(0, .ref q0)]) hx hb dX3_onePlain_8 rfl hl (by decide) rfl (fun ls hl => ?_)
  refine lv_aload_n hx hb dX3_onePlain_9 rfl (lv_at hl 0 rfl) ?_
  refine mw_get (C := RX2) (T := TX2) (N := 6) hx hb hts in_X3_onePlain_X2 hown hK hP ((mu_n nqq0_l5).trans (mu_s _ _ _)) rfl 1 (by decide) (hts (.fieldLink RX3 47 "OctagonDesk$Giant" "blocks" "[LOctagonDesk$Block;") (by decide +kernel)) (fun _ h9 => h9) rfl dX3_onePlain_10 ?_
  refine lv_iconst (v := nI 0) hx hb dX3_onePlain_13 (by decide) ?_
  refine mw_new (ci := 1) (fs := [.null, .null]) (C := RX1) (T := TX1) (N := 2) hx hb hts in_X3_onePlain_X1 tyX1 tyX1_ok hown (hts (.classLink RX3 31 RX1) (by decide +kernel)) (hts (.instantiable RX1 2) (by decide +kernel)) (hts (.initialized RX1) (by decide +kernel)) hK hP hS hBs rfl (fun j hj => by rcases (show j = 0 ∨ j = 1 by omega) with rfl | rfl <;> rfl) (Nat.le_of_ble_eq_true rfl) (Nat.le_of_ble_eq_true rfl) dX3_onePlain_14 (fun q14 H hsq14 hzq14 hnq14 hP hS => ?_)
  have nqq0_q14 : q0 ≠ q14 := mp_nn ((mu_n nqq0_l5).trans (mu_s _ _ _)) hnq14
  have nql5_q14 : l5 ≠ q14 := mp_nn (mu_s _ _ _) hnq14
  have hP : mw G.1 vwCl B (mu (mu (mu μ q0 (.inr (2, [.long 0, .ref l5, .int (nI 0), .int (nI 0), .int (nI 0), .null]))) l5 (.inl (G.2 6, 4, .inr (.inr (.inr (.inr (fun _ => none))))))) q14 (.inr (1, [.null, .null]))) _ := hP
  refine lv_dup hx hb dX3_onePlain_17 rfl ?_
  refine kc_v (va_runI (As := []) (rest := [.ref q14, .int (nI 0), .ref l5]) ⟨hx, hb, hml, hown, hts⟩ (c_X1_init l G B (mu (mu (mu μ q0 (.inr (2, [.long 0, .ref l5, .int (nI 0), .int (nI 0), .int (nI 0), .null]))) l5 (.inl (G.2 6, 4, .inr (.inr (.inr (.inr (fun _ => none))))))) q14 (.inr (1, [.null, .null]))) q14 (mu_s _ _ _)) (cwI 0 hts gX3_onePlain_X1_init rfl rfl rfl (hts (.initialized RX1) (by decide +kernel)) (hts (.methodLink RX3 51 yX1_init) (by decide +kernel)) (hts (.instanceMethod yX1_init) (by decide +kernel)) rfl (by decide +kernel) ⟨Nat.le_of_ble_eq_true rfl, Nat.le_of_ble_eq_true rfl⟩) ⟨KW.blind, fun U9 hU9 hW9 => ⟨rfl, KW.pre hBs hKK hS hP U9 hU9 hW9⟩⟩ rfl rfl hl.1 rfl (lv_room (Nat.le_of_ble_eq_true rfl)) dX3_onePlain_18 ⟨(Nat.le_of_ble_eq_true rfl), (Nat.le_of_ble_eq_true rfl)⟩) hS (fun m18 H locs hq9 hP hz9 hS => ?_)
  obtain ⟨l18, hn18, -, rfl⟩ := hq9
  have nqq0_l18 : q0 ≠ l18 := mp_nn ((mu_n nqq0_q14).trans ((mu_n nqq0_l5).trans (mu_s _ _ _))) hn18
  have nql5_l18 : l5 ≠ l18 := mp_nn ((mu_n nql5_q14).trans (mu_s _ _ _)) hn18
  have nqq14_l18 : q14 ≠ l18 := mp_nn (mu_s _ _ _) hn18
  have hP : mw G.1 vwCl B (mu (mu (mu (mu μ q0 (.inr (2, [.long 0, .ref l5, .int (nI 0), .int (nI 0), .int (nI 0), .null]))) l5 (.inl (G.2 6, 4, .inr (.inr (.inr (.inr (fun _ => none))))))) q14 (.inr (1, [.ref l18, .null]))) l18 (.inl (G.2 0, 32, .inr (.inl (fun _ => 0))))) _ := mw_eq (congrArg (fun z => mu z l18 (.inl (G.2 0, 32, .inr (.inl (fun _ => 0))))) (mu_u _ _ _ _)) hP
  refine mw_astq (r := (RX1, TX1, 2)) hx hb hK hP hS 6 1 ((mu_n nql5_l18).trans ((mu_n nql5_q14).trans (mu_s _ _ _))) rfl ((mu_n nqq14_l18).trans (mu_s _ _ _)) rfl (by omega) (by omega) dX3_onePlain_21 (fun H locs hP hS => ?_)
  have hP : mw G.1 vwCl B (mu (mu (mu (mu μ q0 (.inr (2, [.long 0, .ref l5, .int (nI 0), .int (nI 0), .int (nI 0), .null]))) l5 (.inl (G.2 6, 4, .inr (.inr (.inr (.inr (va_up (fun _ => none) 0 (some q14)))))))) q14 (.inr (1, [.ref l18, .null]))) l18 (.inl (G.2 0, 32, .inr (.inl (fun _ => 0))))) _ := mw_eq ((mu_c _ _ ((Ne.symm nql5_l18))).trans (congrArg (fun z => mu z l18 (.inl (G.2 0, 32, .inr (.inl (fun _ => 0))))) ((mu_c _ _ ((Ne.symm nql5_q14))).trans (congrArg (fun z => mu z q14 (.inr (1, [.ref l18, .null]))) (mu_u _ _ _ _))))) hP
  refine lv_aload_n hx hb dX3_onePlain_22 rfl (lv_at hl 0 rfl) ?_
  refine lv_iconst (v := nI 1) hx hb dX3_onePlain_23 (by decide) ?_
  refine mw_put (ty := .int) (v := .int (nI 1)) (C := RX2) (T := TX2) (N := 6) hx hb hts in_X3_onePlain_X2 tyX2 tyX2_ok nmX2 hown hK hP hS ((mu_n nqq0_l18).trans ((mu_n nqq0_q14).trans ((mu_n nqq0_l5).trans (mu_s _ _ _)))) rfl 2 (by decide) (hts (.fieldLink RX3 52 "OctagonDesk$Giant" "blockCount" "I") (by decide +kernel)) (fun _ h9 => h9) rfl (by decide +kernel) (by first | rfl | decide +kernel) (by first | rfl | decide +kernel) (Nat.le_of_ble_eq_true rfl) dX3_onePlain_24 (fun H locs hP hS => ?_)
  have hP : mw G.1 vwCl B (mu (mu (mu (mu μ q0 (.inr (2, [.long 0, .ref l5, .int (nI 1), .int (nI 0), .int (nI 0), .null]))) l5 (.inl (G.2 6, 4, .inr (.inr (.inr (.inr (va_up (fun _ => none) 0 (some q14)))))))) q14 (.inr (1, [.ref l18, .null]))) l18 (.inl (G.2 0, 32, .inr (.inl (fun _ => 0))))) _ := mw_eq ((mu_c _ _ ((Ne.symm nqq0_l18))).trans (congrArg (fun z => mu z l18 (.inl (G.2 0, 32, .inr (.inl (fun _ => 0))))) ((mu_c _ _ ((Ne.symm nqq0_q14))).trans (congrArg (fun z => mu z q14 (.inr (1, [.ref l18, .null]))) ((mu_c _ _ ((Ne.symm nqq0_l5))).trans (congrArg (fun z => mu z l5 (.inl (G.2 6, 4, .inr (.inr (.inr (.inr (va_up (fun _ => none) 0 (some q14)))))))) (mu_u _ _ _ _))))))) hP
  refine lv_aload_n hx hb dX3_onePlain_27 rfl (lv_at hl 0 rfl) ?_
  refine lv_iconst (v := nI 1) hx hb dX3_onePlain_28 (by decide) ?_
  refine mw_put (ty := .int) (v := .int (nI 1)) (C := RX2) (T := TX2) (N := 6) hx hb hts in_X3_onePlain_X2 tyX2 tyX2_ok nmX2 hown hK hP hS ((mu_n nqq0_l18).trans ((mu_n nqq0_q14).trans ((mu_n nqq0_l5).trans (mu_s _ _ _)))) rfl 3 (by decide) (hts (.fieldLink RX3 53 "OctagonDesk$Giant" "length" "I") (by decide +kernel)) (fun _ h9 => h9) rfl (by decide +kernel) (by first | rfl | decide +kernel) (by first | rfl | decide +kernel) (Nat.le_of_ble_eq_true rfl) dX3_onePlain_29 (fun H locs hP hS => ?_)
  have hP : mw G.1 vwCl B (mu (mu (mu (mu μ q0 (.inr (2, [.long 0, .ref l5, .int (nI 1), .int (nI 1), .int (nI 0), .null]))) l5 (.inl (G.2 6, 4, .inr (.inr (.inr (.inr (va_up (fun _ => none) 0 (some q14)))))))) q14 (.inr (1, [.ref l18, .null]))) l18 (.inl (G.2 0, 32, .inr (.inl (fun _ => 0))))) _ := mw_eq ((mu_c _ _ ((Ne.symm nqq0_l18))).trans (congrArg (fun z => mu z l18 (.inl (G.2 0, 32, .inr (.inl (fun _ => 0))))) ((mu_c _ _ ((Ne.symm nqq0_q14))).trans (congrArg (fun z => mu z q14 (.inr (1, [.ref l18, .null]))) ((mu_c _ _ ((Ne.symm nqq0_l5))).trans (congrArg (fun z => mu z l5 (.inl (G.2 6, 4, .inr (.inr (.inr (.inr (va_up (fun _ => none) 0 (some q14)))))))) (mu_u _ _ _ _))))))) hP
  refine lv_aload_n hx hb dX3_onePlain_32 rfl (lv_at hl 0 rfl) ?_
  rw [hQ]
  refine W.widen (k := 4) (n := 44) (by omega) (by omega) ?_
  exact W.aret (v := .ref q0) hx hb hr (Or.inl ⟨_, rfl⟩) (Or.inr ⟨_, rfl⟩) (fun t99 ht99 hW99 => ⟨⟨mu (mu (mu (mu μ q0 (.inr (2, [.long 0, .ref l5, .int (nI 1), .int (nI 1), .int (nI 0), .null]))) l5 (.inl (G.2 6, 4, .inr (.inr (.inr (.inr (va_up (fun _ => none) 0 (some q14)))))))) q14 (.inr (1, [.ref l18, .null]))) l18 (.inl (G.2 0, 32, .inr (.inl (fun _ => 0)))), q0, rfl, trivial, (⟨hnq0, (((((Ext.rf μ).mo hnq0).mo (mu_none hn5).2).mo (mu_none (mu_none hnq14).2).2).mo (mu_none (mu_none (mu_none hn18).2).2).2), _, ((mu_n nqq0_l18).trans ((mu_n nqq0_q14).trans ((mu_n nqq0_l5).trans (mu_s _ _ _))))⟩), by show mw _ _ _ _ t99.heap; rw [ht99]; exact hP⟩, hS.F ht99⟩) hS.2.2 dX3_onePlain_33

abbrev rm_X3_init : Room := { frames := 3, cells := 14, slots := 1972, locals := 54 }
set_option maxHeartbeats 4000000 in
set_option maxRecDepth 100000 in
theorem c_X3_init (l : Launch) (G : GG) (B : Nat) (μ : mp) (h : Nat) (hh : μ h = some (.inr (3, [.null, .null, .null, .null, .null, .int (nI 0), .int (nI 0), .null, .null]))) : Met l yX3_init wsX3_init rm_X3_init (va_Pc [.ref h, .int (nI 1808)] (KW G B μ)) (va_Qv (fun μ2 => XH μ μ2 h ∧ ∃ fs : List Value, μ2 h = some (.inr (3, fs))) (BB G B) (fun q => B ≤ q)) 14 1972 (fun q => B ≤ q) := by
  refine Met.ofW (cc := cX3_init) (maxL := 2) (ret := none) (by decide) rfl ?_
  intro p e s m args below meth c s₁ B9 hml hv
  obtain ⟨hargs, hBs, hP, hKK⟩ := hv
  have hx := B9.exec
  have hb := B9.bytes
  have hr := B9.returns
  have hts := atoms_spec (ws := wsX3_init) B9.pre
  have hown : s.vm.findClass RX3 = some m.cls := findClass_of_methodNamed B9.named
  have hlocks := B9.notSynchronized
  have hin : meth.name = "<init>" := (name_of_methodNamed B9.named B9.method).1
  have hK := hKK.k
  have hS : va_S (fun q => B ≤ q) s.heap s.heap [] := va_S.rf
  obtain ⟨Q, hQ⟩ : ∃ Q, Q = MQ below (va_Qv (fun μ2 => XH μ μ2 h ∧ ∃ fs : List Value, μ2 h = some (.inr (3, fs))) (BB G B) (fun q => B ≤ q)) args s 14 1972 (fun q => B ≤ q) := ⟨_, rfl⟩
  rw [← hQ]
  have in_X3_init_X3 : ∀ w ∈ wsX30, w ∈ wsX3_init := by decide +kernel
  have hP : mw G.1 vwCl B (mu μ h (.inr (3, [.null, .null, .null, .null, .null, .int (nI 0), .int (nI 0), .null, .null]))) s.heap := mw_eq (mu_i hh).symm hP
  have hl := lv_entry ([.ref h, .int (nI 1808)]) (n := 2) (Nat.le_of_ble_eq_true rfl)
  have he9 : entryFrame m args 2 = entryFrame m ([.ref h, .int (nI 1808)] : List Value).toArray 2 := by rw [hargs]
  rw [he9, lg_entry_eq]
  generalize (lg_sl ([.ref h, .int (nI 1808)]) ++ List.replicate (2 - (lg_sl ([.ref h, .int (nI 1808)])).length) Slot.unset).toArray = ls at hl ⊢
  have hl : lv_has ls 2 [(0, .ref h), (1, .int (nI 1808))] := hl
  refine lv_aload_n hx hb dX3_init_0 rfl (lv_at hl 0 rfl) ?_
  refine W.objInit hx hb hown (hts (.methodLink RX3 5 objectInit) (by decide +kernel)) (hts (.instanceMethod objectInit) (by decide +kernel)) (hts (.code objectInit ⟨#[0xb1]⟩ 1 none) (by decide +kernel)) rfl (by rw [hml]; exact hl.1) rfl dX3_init_1 (Nat.le_of_ble_eq_true rfl) (Nat.le_of_ble_eq_true rfl) ?_
  refine lv_aload_n hx hb dX3_init_4 rfl (lv_at hl 0 rfl) ?_
  refine lv_iload_n hx hb dX3_init_5 rfl (lv_at hl 1 rfl) ?_
  refine mw_newq hx hb hown (hts (.classLink RX3 11 RX2) (by decide +kernel)) hKK.2.2.1.2.2.1 hK hP hS hBs 5 rfl (by omega) (Nat.le_of_ble_eq_true rfl) (Nat.le_of_ble_eq_true rfl) dX3_init_6 (fun q6 H hsq6 hzq6 hnq6 hP hS => ?_)
  have nqh_q6 : h ≠ q6 := mp_nn (mu_s _ _ _) hnq6
  have hP : mw G.1 vwCl B (mu (mu μ h (.inr (3, [.null, .null, .null, .null, .null, .int (nI 0), .int (nI 0), .null, .null]))) q6 (.inl (G.2 5, 1808, .inr (.inr (.inr (.inr (fun _ => none))))))) _ := hP
  refine mw_putF (ty := .array (.object "OctagonDesk$Giant")) (v := .ref q6) (C := RX3) (T := TX3) (N := 9) hx hb hts in_X3_init_X3 tyX3 tyX3_ok nmX3 hown hK hP hS ((mu_n nqh_q6).trans (mu_s _ _ _)) rfl 0 (by decide) (hts (.fieldLink RX3 13 "OctagonDesk$Numbers" "giants" "[LOctagonDesk$Giant;") (by decide +kernel)) (fun _ h9 => h9) rfl hin rfl (by decide +kernel) (by first | rfl | decide +kernel) (by first | rfl | decide +kernel) (Nat.le_of_ble_eq_true rfl) dX3_init_9 (fun H locs hP hS => ?_)
  have hP : mw G.1 vwCl B (mu (mu μ h (.inr (3, [.ref q6, .null, .null, .null, .null, .int (nI 0), .int (nI 0), .null, .null]))) q6 (.inl (G.2 5, 1808, .inr (.inr (.inr (.inr (fun _ => none))))))) _ := mw_eq ((mu_c _ _ ((Ne.symm nqh_q6))).trans (congrArg (fun z => mu z q6 (.inl (G.2 5, 1808, .inr (.inr (.inr (.inr (fun _ => none))))))) (mu_u _ _ _ _))) hP
  refine lv_aload_n hx hb dX3_init_12 rfl (lv_at hl 0 rfl) ?_
  refine kc_r (va_runS (As := []) (rest := [.ref h]) ⟨hx, hb, hml, hown, hts⟩ (c_X3_onePlain l G B (mu (mu μ h (.inr (3, [.ref q6, .null, .null, .null, .null, .int (nI 0), .int (nI 0), .null, .null]))) q6 (.inl (G.2 5, 1808, .inr (.inr (.inr (.inr (fun _ => none)))))))) (va_cwS 0 hts gX3_init_X3_onePlain rfl rfl rfl (by decide +kernel) ⟨Nat.le_of_ble_eq_true rfl, Nat.le_of_ble_eq_true rfl⟩) ⟨KW.blind, fun U9 hU9 hW9 => ⟨rfl, KW.pre hBs hKK hS hP U9 hU9 hW9⟩⟩ rfl rfl hl.1 rfl (lv_room (Nat.le_of_ble_eq_true rfl)) dX3_init_13 ⟨(Nat.le_of_ble_eq_true rfl), (Nat.le_of_ble_eq_true rfl)⟩) hS (fun m13 r13 H locs hq9 hP hz9 hS => ?_)
  obtain ⟨hn13, hE13, fs13, hr13⟩ := hq9
  have hx13h := hE13 _ _ ((mu_n nqh_q6).trans (mu_s _ _ _))
  have nr13h : h ≠ r13 := mp_nn ((mu_n nqh_q6).trans (mu_s _ _ _)) hn13
  have hx13q6 := hE13 _ _ (mu_s _ _ _)
  have nr13q6 : q6 ≠ r13 := mp_nn (mu_s _ _ _) hn13
  refine mw_putF (ty := .object "OctagonDesk$Giant") (v := .ref r13) (C := RX3) (T := TX3) (N := 9) hx hb hts in_X3_init_X3 tyX3 tyX3_ok nmX3 hown hK hP hS (hx13h) rfl 1 (by decide) (hts (.fieldLink RX3 21 "OctagonDesk$Numbers" "plainA" "LOctagonDesk$Giant;") (by decide +kernel)) (fun _ h9 => h9) rfl hin rfl (by decide +kernel) (by first | rfl | decide +kernel) (by first | rfl | decide +kernel) (Nat.le_of_ble_eq_true rfl) dX3_init_16 (fun H locs hP hS => ?_)
  have hP : mw G.1 vwCl B (mu m13 h (.inr (3, [.ref q6, .ref r13, .null, .null, .null, .int (nI 0), .int (nI 0), .null, .null]))) _ := hP
  refine lv_aload_n hx hb dX3_init_19 rfl (lv_at hl 0 rfl) ?_
  refine kc_r (va_runS (As := []) (rest := [.ref h]) ⟨hx, hb, hml, hown, hts⟩ (c_X3_onePlain l G B (mu m13 h (.inr (3, [.ref q6, .ref r13, .null, .null, .null, .int (nI 0), .int (nI 0), .null, .null])))) (va_cwS 0 hts gX3_init_X3_onePlain rfl rfl rfl (by decide +kernel) ⟨Nat.le_of_ble_eq_true rfl, Nat.le_of_ble_eq_true rfl⟩) ⟨KW.blind, fun U9 hU9 hW9 => ⟨rfl, KW.pre hBs hKK hS hP U9 hU9 hW9⟩⟩ rfl rfl hl.1 rfl (lv_room (Nat.le_of_ble_eq_true rfl)) dX3_init_20 ⟨(Nat.le_of_ble_eq_true rfl), (Nat.le_of_ble_eq_true rfl)⟩) hS (fun m20 r20 H locs hq9 hP hz9 hS => ?_)
  obtain ⟨hn20, hE20, fs20, hr20⟩ := hq9
  have hx20h := hE20 _ _ (mu_s _ _ _)
  have nr20h : h ≠ r20 := mp_nn (mu_s _ _ _) hn20
  have hx20q6 := hE20 _ _ ((mu_n ((Ne.symm nqh_q6))).trans (hx13q6))
  have nr20q6 : q6 ≠ r20 := mp_nn ((mu_n ((Ne.symm nqh_q6))).trans (hx13q6)) hn20
  have hx20r13 := hE20 _ _ ((mu_n ((Ne.symm nr13h))).trans (hr13))
  have nr20r13 : r13 ≠ r20 := mp_nn ((mu_n ((Ne.symm nr13h))).trans (hr13)) hn20
  refine mw_putF (ty := .object "OctagonDesk$Giant") (v := .ref r20) (C := RX3) (T := TX3) (N := 9) hx hb hts in_X3_init_X3 tyX3 tyX3_ok nmX3 hown hK hP hS (hx20h) rfl 2 (by decide) (hts (.fieldLink RX3 25 "OctagonDesk$Numbers" "plainB" "LOctagonDesk$Giant;") (by decide +kernel)) (fun _ h9 => h9) rfl hin rfl (by decide +kernel) (by first | rfl | decide +kernel) (by first | rfl | decide +kernel) (Nat.le_of_ble_eq_true rfl) dX3_init_23 (fun H locs hP hS => ?_)
  have hP : mw G.1 vwCl B (mu m20 h (.inr (3, [.ref q6, .ref r13, .ref r20, .null, .null, .int (nI 0), .int (nI 0), .null, .null]))) _ := hP
  refine lv_aload_n hx hb dX3_init_26 rfl (lv_at hl 0 rfl) ?_
  refine kc_r (va_runS (As := []) (rest := [.ref h]) ⟨hx, hb, hml, hown, hts⟩ (c_X3_onePlain l G B (mu m20 h (.inr (3, [.ref q6, .ref r13, .ref r20, .null, .null, .int (nI 0), .int (nI 0), .null, .null])))) (va_cwS 0 hts gX3_init_X3_onePlain rfl rfl rfl (by decide +kernel) ⟨Nat.le_of_ble_eq_true rfl, Nat.le_of_ble_eq_true rfl⟩) ⟨KW.blind, fun U9 hU9 hW9 => ⟨rfl, KW.pre hBs hKK hS hP U9 hU9 hW9⟩⟩ rfl rfl hl.1 rfl (lv_room (Nat.le_of_ble_eq_true rfl)) dX3_init_27 ⟨(Nat.le_of_ble_eq_true rfl), (Nat.le_of_ble_eq_true rfl)⟩) hS (fun m27 r27 H locs hq9 hP hz9 hS => ?_)
  obtain ⟨hn27, hE27, fs27, hr27⟩ := hq9
  have hx27h := hE27 _ _ (mu_s _ _ _)
  have nr27h : h ≠ r27 := mp_nn (mu_s _ _ _) hn27
  have hx27q6 := hE27 _ _ ((mu_n ((Ne.symm nqh_q6))).trans (hx20q6))
  have nr27q6 : q6 ≠ r27 := mp_nn ((mu_n ((Ne.symm nqh_q6))).trans (hx20q6)) hn27
  have hx27r13 := hE27 _ _ ((mu_n ((Ne.symm nr13h))).trans (hx20r13))
  have nr27r13 : r13 ≠ r27 := mp_nn ((mu_n ((Ne.symm nr13h))).trans (hx20r13)) hn27
  have hx27r20 := hE27 _ _ ((mu_n ((Ne.symm nr20h))).trans (hr20))
  have nr27r20 : r20 ≠ r27 := mp_nn ((mu_n ((Ne.symm nr20h))).trans (hr20)) hn27
  refine mw_putF (ty := .object "OctagonDesk$Giant") (v := .ref r27) (C := RX3) (T := TX3) (N := 9) hx hb hts in_X3_init_X3 tyX3 tyX3_ok nmX3 hown hK hP hS (hx27h) rfl 3 (by decide) (hts (.fieldLink RX3 28 "OctagonDesk$Numbers" "plainC" "LOctagonDesk$Giant;") (by decide +kernel)) (fun _ h9 => h9) rfl hin rfl (by decide +kernel) (by first | rfl | decide +kernel) (by first | rfl | decide +kernel) (Nat.le_of_ble_eq_true rfl) dX3_init_30 (fun H locs hP hS => ?_)
  have hP : mw G.1 vwCl B (mu m27 h (.inr (3, [.ref q6, .ref r13, .ref r20, .ref r27, .null, .int (nI 0), .int (nI 0), .null, .null]))) _ := hP
  refine lv_aload_n hx hb dX3_init_33 rfl (lv_at hl 0 rfl) ?_
  refine lv_bipush (v := nI 32) hx hb dX3_init_34 (by decide) ?_
  refine mw_newa (n := 32) (a0 := (32, .inr (.inl (fun _ => 0)))) (atype := .long) (ty := .long) hx hb (hts (.arrayClass .long) (by decide +kernel)) rfl hK hP hS hBs 0 rfl (fun cA9 => vp0_J cA9 (32)) (by omega) (by show (32) * _ ≤ _; simp only [componentBytes]; omega) (Nat.le_of_ble_eq_true rfl) (Nat.le_of_ble_eq_true rfl) dX3_init_36 (fun q36 H hsq36 hzq36 hnq36 hP hS => ?_)
  have nqh_q36 : h ≠ q36 := mp_nn (mu_s _ _ _) hnq36
  have nqq6_q36 : q6 ≠ q36 := mp_nn ((mu_n ((Ne.symm nqh_q6))).trans (hx27q6)) hnq36
  have nqr13_q36 : r13 ≠ q36 := mp_nn ((mu_n ((Ne.symm nr13h))).trans (hx27r13)) hnq36
  have nqr20_q36 : r20 ≠ q36 := mp_nn ((mu_n ((Ne.symm nr20h))).trans (hx27r20)) hnq36
  have nqr27_q36 : r27 ≠ q36 := mp_nn ((mu_n ((Ne.symm nr27h))).trans (hr27)) hnq36
  have hP : mw G.1 vwCl B (mu (mu m27 h (.inr (3, [.ref q6, .ref r13, .ref r20, .ref r27, .null, .int (nI 0), .int (nI 0), .null, .null]))) q36 (.inl (G.2 0, 32, .inr (.inl (fun _ => 0))))) _ := hP
  refine mw_putF (ty := .array .long) (v := .ref q36) (C := RX3) (T := TX3) (N := 9) hx hb hts in_X3_init_X3 tyX3 tyX3_ok nmX3 hown hK hP hS ((mu_n nqh_q36).trans (mu_s _ _ _)) rfl 4 (by decide) (hts (.fieldLink RX3 33 "OctagonDesk$Numbers" "zeros" "[J") (by decide +kernel)) (fun _ h9 => h9) rfl hin rfl (by decide +kernel) (by first | rfl | decide +kernel) (by first | rfl | decide +kernel) (Nat.le_of_ble_eq_true rfl) dX3_init_38 (fun H locs hP hS => ?_)
  have hP : mw G.1 vwCl B (mu (mu m27 h (.inr (3, [.ref q6, .ref r13, .ref r20, .ref r27, .ref q36, .int (nI 0), .int (nI 0), .null, .null]))) q36 (.inl (G.2 0, 32, .inr (.inl (fun _ => 0))))) _ := mw_eq ((mu_c _ _ ((Ne.symm nqh_q36))).trans (congrArg (fun z => mu z q36 (.inl (G.2 0, 32, .inr (.inl (fun _ => 0))))) (mu_u _ _ _ _))) hP
  refine lv_aload_n hx hb dX3_init_41 rfl (lv_at hl 0 rfl) ?_
  refine lv_iconst (v := nI 0) hx hb dX3_init_42 (by decide) ?_
  refine mw_put (ty := .int) (v := .int (nI 0)) (C := RX3) (T := TX3) (N := 9) hx hb hts in_X3_init_X3 tyX3 tyX3_ok nmX3 hown hK hP hS ((mu_n nqh_q36).trans (mu_s _ _ _)) rfl 5 (by decide) (hts (.fieldLink RX3 37 "OctagonDesk$Numbers" "giantCount" "I") (by decide +kernel)) (fun _ h9 => h9) rfl (by decide +kernel) (by first | rfl | decide +kernel) (by first | rfl | decide +kernel) (Nat.le_of_ble_eq_true rfl) dX3_init_43 (fun H locs hP hS => ?_)
  have hP : mw G.1 vwCl B (mu (mu m27 h (.inr (3, [.ref q6, .ref r13, .ref r20, .ref r27, .ref q36, .int (nI 0), .int (nI 0), .null, .null]))) q36 (.inl (G.2 0, 32, .inr (.inl (fun _ => 0))))) _ := mw_eq ((mu_c _ _ ((Ne.symm nqh_q36))).trans (congrArg (fun z => mu z q36 (.inl (G.2 0, 32, .inr (.inl (fun _ => 0))))) (mu_u _ _ _ _))) hP
  refine lv_aload_n hx hb dX3_init_46 rfl (lv_at hl 0 rfl) ?_
  refine lv_iconst (v := nI 0) hx hb dX3_init_47 (by decide) ?_
  refine mw_put (ty := .int) (v := .int (nI 0)) (C := RX3) (T := TX3) (N := 9) hx hb hts in_X3_init_X3 tyX3 tyX3_ok nmX3 hown hK hP hS ((mu_n nqh_q36).trans (mu_s _ _ _)) rfl 6 (by decide) (hts (.fieldLink RX3 41 "OctagonDesk$Numbers" "blockCount" "I") (by decide +kernel)) (fun _ h9 => h9) rfl (by decide +kernel) (by first | rfl | decide +kernel) (by first | rfl | decide +kernel) (Nat.le_of_ble_eq_true rfl) dX3_init_48 (fun H locs hP hS => ?_)
  have hP : mw G.1 vwCl B (mu (mu m27 h (.inr (3, [.ref q6, .ref r13, .ref r20, .ref r27, .ref q36, .int (nI 0), .int (nI 0), .null, .null]))) q36 (.inl (G.2 0, 32, .inr (.inl (fun _ => 0))))) _ := mw_eq ((mu_c _ _ ((Ne.symm nqh_q36))).trans (congrArg (fun z => mu z q36 (.inl (G.2 0, 32, .inr (.inl (fun _ => 0))))) (mu_u _ _ _ _))) hP
  rw [hQ]
  refine W.widen (k := 14) (n := 1972) (by omega) (by omega) ?_
  exact W.vret hx hb hr (fun t99 ht99 hW99 => ⟨⟨mu (mu m27 h (.inr (3, [.ref q6, .ref r13, .ref r20, .ref r27, .ref q36, .int (nI 0), .int (nI 0), .null, .null]))) q36 (.inl (G.2 0, 32, .inr (.inl (fun _ => 0)))), rfl, (⟨((((((((XH.rf μ h).own).new (by have h9 := mu_none hnq6; exact (mu_n h9.1).trans h9.2)).ext hE13).own).ext hE20).own).ext hE27).own.new (by have h9 := mu_none hnq36; exact (mu_n h9.1).trans h9.2), _, ((mu_n nqh_q36).trans (mu_s _ _ _))⟩), by show mw _ _ _ _ t99.heap; rw [ht99]; exact hP⟩, hS.F ht99⟩) hS.2.2 dX3_init_51

abbrev rm_X0_init : Room := { frames := 4, cells := 17, slots := 2072, locals := 75 }
set_option maxHeartbeats 4000000 in
set_option maxRecDepth 100000 in
theorem c_X0_init (l : Launch) (G : GG) (B : Nat) (μ : mp) (h : Nat) (hh : μ h = some (.inr (0, [.null, .null, .null]))) : Met l yX0_init wsX0_init rm_X0_init (va_Pc [.ref h] (KW G B μ)) (va_Qv (fun μ2 => XH μ μ2 h ∧ ∃ (nn s9 lo : Nat) (nf : List Value), BF G μ2 h nn s9 lo nf) (BB G B) (fun q => B ≤ q)) 17 2072 (fun q => B ≤ q) := by
  refine Met.ofW (cc := cX0_init) (maxL := 1) (ret := none) (by decide) rfl ?_
  intro p e s m args below meth c s₁ B9 hml hv
  obtain ⟨hargs, hBs, hP, hKK⟩ := hv
  have hx := B9.exec
  have hb := B9.bytes
  have hr := B9.returns
  have hts := atoms_spec (ws := wsX0_init) B9.pre
  have hown : s.vm.findClass RX0 = some m.cls := findClass_of_methodNamed B9.named
  have hlocks := B9.notSynchronized
  have hin : meth.name = "<init>" := (name_of_methodNamed B9.named B9.method).1
  have hK := hKK.k
  have hS : va_S (fun q => B ≤ q) s.heap s.heap [] := va_S.rf
  obtain ⟨Q, hQ⟩ : ∃ Q, Q = MQ below (va_Qv (fun μ2 => XH μ μ2 h ∧ ∃ (nn s9 lo : Nat) (nf : List Value), BF G μ2 h nn s9 lo nf) (BB G B) (fun q => B ≤ q)) args s 17 2072 (fun q => B ≤ q) := ⟨_, rfl⟩
  rw [← hQ]
  have in_X0_init_X0 : ∀ w ∈ wsX00, w ∈ wsX0_init := by decide +kernel
  have in_X0_init_X3 : ∀ w ∈ wsX30, w ∈ wsX0_init := by decide +kernel
  have hP : mw G.1 vwCl B (mu μ h (.inr (0, [.null, .null, .null]))) s.heap := mw_eq (mu_i hh).symm hP
  have hl := lv_entry ([.ref h]) (n := 1) (Nat.le_of_ble_eq_true rfl)
  have he9 : entryFrame m args 1 = entryFrame m ([.ref h] : List Value).toArray 1 := by rw [hargs]
  rw [he9, lg_entry_eq]
  generalize (lg_sl ([.ref h]) ++ List.replicate (1 - (lg_sl ([.ref h])).length) Slot.unset).toArray = ls at hl ⊢
  have hl : lv_has ls 1 [(0, .ref h)] := hl
  refine lv_aload_n hx hb dX0_init_0 rfl (lv_at hl 0 rfl) ?_
  refine W.objInit hx hb hown (hts (.methodLink RX0 3 objectInit) (by decide +kernel)) (hts (.instanceMethod objectInit) (by decide +kernel)) (hts (.code objectInit ⟨#[0xb1]⟩ 1 none) (by decide +kernel)) rfl (by rw [hml]; exact hl.1) rfl dX0_init_1 (Nat.le_of_ble_eq_true rfl) (Nat.le_of_ble_eq_true rfl) ?_
  refine lv_aload_n hx hb dX0_init_4 rfl (lv_at hl 0 rfl) ?_
  refine mw_new (ci := 3) (fs := [.null, .null, .null, .null, .null, .int (nI 0), .int (nI 0), .null, .null]) (C := RX3) (T := TX3) (N := 9) hx hb hts in_X0_init_X3 tyX3 tyX3_ok hown (hts (.classLink RX0 9 RX3) (by decide +kernel)) (hts (.instantiable RX3 9) (by decide +kernel)) (hts (.initialized RX3) (by decide +kernel)) hK hP hS hBs rfl (fun j hj => by rcases (show j = 0 ∨ j = 1 ∨ j = 2 ∨ j = 3 ∨ j = 4 ∨ j = 5 ∨ j = 6 ∨ j = 7 ∨ j = 8 by omega) with rfl | rfl | rfl | rfl | rfl | rfl | rfl | rfl | rfl <;> rfl) (Nat.le_of_ble_eq_true rfl) (Nat.le_of_ble_eq_true rfl) dX0_init_5 (fun q5 H hsq5 hzq5 hnq5 hP hS => ?_)
  have nqh_q5 : h ≠ q5 := mp_nn (mu_s _ _ _) hnq5
  have hP : mw G.1 vwCl B (mu (mu μ h (.inr (0, [.null, .null, .null]))) q5 (.inr (3, [.null, .null, .null, .null, .null, .int (nI 0), .int (nI 0), .null, .null]))) _ := hP
  refine lv_dup hx hb dX0_init_8 rfl ?_
  refine lv_sipush (v := nI 1808) hx hb dX0_init_9 (by decide) ?_
  refine kc_v (va_runI (As := [.int (nI 1808)]) (rest := [.ref q5, .ref h]) ⟨hx, hb, hml, hown, hts⟩ (c_X3_init l G B (mu (mu μ h (.inr (0, [.null, .null, .null]))) q5 (.inr (3, [.null, .null, .null, .null, .null, .int (nI 0), .int (nI 0), .null, .null]))) q5 (mu_s _ _ _)) (cwI 1 hts gX0_init_X3_init rfl rfl rfl (hts (.initialized RX3) (by decide +kernel)) (hts (.methodLink RX0 13 yX3_init) (by decide +kernel)) (hts (.instanceMethod yX3_init) (by decide +kernel)) rfl (by decide +kernel) ⟨Nat.le_of_ble_eq_true rfl, Nat.le_of_ble_eq_true rfl⟩) ⟨KW.blind, fun U9 hU9 hW9 => ⟨rfl, KW.pre hBs hKK hS hP U9 hU9 hW9⟩⟩ rfl rfl hl.1 rfl (lv_room (Nat.le_of_ble_eq_true rfl)) dX0_init_12 ⟨(Nat.le_of_ble_eq_true rfl), (Nat.le_of_ble_eq_true rfl)⟩) hS (fun m12 H locs hq9 hP hz9 hS => ?_)
  obtain ⟨hE12, fs12, hr12⟩ := hq9
  have hx12h := hE12 _ _ ((mu_n nqh_q5).trans (mu_s _ _ _)) nqh_q5
  refine mw_putF (ty := .object "OctagonDesk$Numbers") (v := .ref q5) (C := RX0) (T := TX0) (N := 3) hx hb hts in_X0_init_X0 tyX0 tyX0_ok nmX0 hown hK hP hS (hx12h) rfl 0 (by decide) (hts (.fieldLink RX0 16 "OctagonDesk$Bench" "numbers" "LOctagonDesk$Numbers;") (by decide +kernel)) (fun _ h9 => h9) rfl hin rfl (by decide +kernel) (by first | rfl | decide +kernel) (by first | rfl | decide +kernel) (Nat.le_of_ble_eq_true rfl) dX0_init_15 (fun H locs hP hS => ?_)
  have hP : mw G.1 vwCl B (mu m12 h (.inr (0, [.ref q5, .null, .null]))) _ := hP
  refine lv_aload_n hx hb dX0_init_18 rfl (lv_at hl 0 rfl) ?_
  refine lv_bipush (v := nI 13) hx hb dX0_init_19 (by decide) ?_
  refine mw_newa (n := 13) (a0 := (13, .inr (.inl (fun _ => 0)))) (atype := .long) (ty := .long) hx hb (hts (.arrayClass .long) (by decide +kernel)) rfl hK hP hS hBs 0 rfl (fun cA9 => vp0_J cA9 (13)) (by omega) (by show (13) * _ ≤ _; simp only [componentBytes]; omega) (Nat.le_of_ble_eq_true rfl) (Nat.le_of_ble_eq_true rfl) dX0_init_21 (fun q21 H hsq21 hzq21 hnq21 hP hS => ?_)
  have nqh_q21 : h ≠ q21 := mp_nn (mu_s _ _ _) hnq21
  have nqq5_q21 : q5 ≠ q21 := mp_nn ((mu_n ((Ne.symm nqh_q5))).trans (hr12)) hnq21
  have hP : mw G.1 vwCl B (mu (mu m12 h (.inr (0, [.ref q5, .null, .null]))) q21 (.inl (G.2 0, 13, .inr (.inl (fun _ => 0))))) _ := hP
  refine mw_putF (ty := .array .long) (v := .ref q21) (C := RX0) (T := TX0) (N := 3) hx hb hts in_X0_init_X0 tyX0 tyX0_ok nmX0 hown hK hP hS ((mu_n nqh_q21).trans (mu_s _ _ _)) rfl 1 (by decide) (hts (.fieldLink RX0 20 "OctagonDesk$Bench" "scratch" "[J") (by decide +kernel)) (fun _ h9 => h9) rfl hin rfl (by decide +kernel) (by first | rfl | decide +kernel) (by first | rfl | decide +kernel) (Nat.le_of_ble_eq_true rfl) dX0_init_23 (fun H locs hP hS => ?_)
  have hP : mw G.1 vwCl B (mu (mu m12 h (.inr (0, [.ref q5, .ref q21, .null]))) q21 (.inl (G.2 0, 13, .inr (.inl (fun _ => 0))))) _ := mw_eq ((mu_c _ _ ((Ne.symm nqh_q21))).trans (congrArg (fun z => mu z q21 (.inl (G.2 0, 13, .inr (.inl (fun _ => 0))))) (mu_u _ _ _ _))) hP
  refine lv_aload_n hx hb dX0_init_26 rfl (lv_at hl 0 rfl) ?_
  refine lv_bipush (v := nI 78) hx hb dX0_init_27 (by decide) ?_
  refine mw_newa (n := 78) (a0 := (78, .inl (fun _ => 0))) (atype := .boolean) (ty := .boolean) hx hb (hts (.arrayClass .boolean) (by decide +kernel)) rfl hK hP hS hBs 2 rfl (fun cA9 => vp0_Z cA9 (78)) (by omega) (by show (78) * _ ≤ _; simp only [componentBytes]; omega) (Nat.le_of_ble_eq_true rfl) (Nat.le_of_ble_eq_true rfl) dX0_init_29 (fun q29 H hsq29 hzq29 hnq29 hP hS => ?_)
  have nqh_q29 : h ≠ q29 := mp_nn ((mu_n nqh_q21).trans (mu_s _ _ _)) hnq29
  have nqq5_q29 : q5 ≠ q29 := mp_nn ((mu_n nqq5_q21).trans ((mu_n ((Ne.symm nqh_q5))).trans (hr12))) hnq29
  have nqq21_q29 : q21 ≠ q29 := mp_nn (mu_s _ _ _) hnq29
  have hP : mw G.1 vwCl B (mu (mu (mu m12 h (.inr (0, [.ref q5, .ref q21, .null]))) q21 (.inl (G.2 0, 13, .inr (.inl (fun _ => 0))))) q29 (.inl (G.2 2, 78, .inl (fun _ => 0)))) _ := hP
  refine mw_putF (ty := .array .boolean) (v := .ref q29) (C := RX0) (T := TX0) (N := 3) hx hb hts in_X0_init_X0 tyX0 tyX0_ok nmX0 hown hK hP hS ((mu_n nqh_q29).trans ((mu_n nqh_q21).trans (mu_s _ _ _))) rfl 2 (by decide) (hts (.fieldLink RX0 24 "OctagonDesk$Bench" "loose" "[Z") (by decide +kernel)) (fun _ h9 => h9) rfl hin rfl (by decide +kernel) (by first | rfl | decide +kernel) (by first | rfl | decide +kernel) (Nat.le_of_ble_eq_true rfl) dX0_init_31 (fun H locs hP hS => ?_)
  have hP : mw G.1 vwCl B (mu (mu (mu m12 h (.inr (0, [.ref q5, .ref q21, .ref q29]))) q21 (.inl (G.2 0, 13, .inr (.inl (fun _ => 0))))) q29 (.inl (G.2 2, 78, .inl (fun _ => 0)))) _ := mw_eq ((mu_c _ _ ((Ne.symm nqh_q29))).trans (congrArg (fun z => mu z q29 (.inl (G.2 2, 78, .inl (fun _ => 0)))) ((mu_c _ _ ((Ne.symm nqh_q21))).trans (congrArg (fun z => mu z q21 (.inl (G.2 0, 13, .inr (.inl (fun _ => 0))))) (mu_u _ _ _ _))))) hP
  rw [hQ]
  refine W.widen (k := 17) (n := 2072) (by omega) (by omega) ?_
  exact W.vret hx hb hr (fun t99 ht99 hW99 => ⟨⟨mu (mu (mu m12 h (.inr (0, [.ref q5, .ref q21, .ref q29]))) q21 (.inl (G.2 0, 13, .inr (.inl (fun _ => 0))))) q29 (.inl (G.2 2, 78, .inl (fun _ => 0))), rfl, (⟨((XH.own (e := _) (fun (a : Nat) (e : va_E) (ha : μ a = some e) (hn : a ≠ h) => hE12 a e ((mu_n (mp_nn ((mu_n hn).trans ha) hnq5)).trans ((mu_n hn).trans ha)) (mp_nn ((mu_n hn).trans ha) hnq5) : XH μ m12 h)).new (by have h9 := hnq21; simp only [mu_iff] at h9 ⊢; exact h9)).new (by have h9 := hnq29; simp only [mu_iff] at h9 ⊢; exact h9), q5, q21, q29, fs12, ((mu_n nqh_q29).trans ((mu_n nqh_q21).trans (mu_s _ _ _))), ((mu_n nqq5_q29).trans ((mu_n nqq5_q21).trans ((mu_n ((Ne.symm nqh_q5))).trans (hr12)))), ((mu_n nqq21_q29).trans (mu_s _ _ _)), (mu_s _ _ _)⟩), by show mw _ _ _ _ t99.heap; rw [ht99]; exact hP⟩, hS.F ht99⟩) hS.2.2 dX0_init_34

abbrev rm_X4_init : Room := { frames := 1, cells := 1, slots := 78, locals := 12 }
set_option maxHeartbeats 4000000 in
set_option maxRecDepth 100000 in
theorem c_X4_init (l : Launch) (G : GG) (B : Nat) (μ : mp) (h bn nn s9 lo : Nat) (hh : μ h = some (.inr (4, [.null, .null, .null, .int (nI 0)]))) (hbn : μ bn = some (.inr (0, [.ref nn, .ref s9, .ref lo]))) : Met l yX4_init wsX4_init rm_X4_init (va_Pc [.ref h, .ref bn] (KW G B μ)) (va_Qv (fun μ2 => ∃ l9 : Nat, μ l9 = none ∧ l9 ≠ h ∧ μ2 = mu (mu μ h (.inr (4, [.ref bn, .ref nn, .ref l9, .int (nI 1)]))) l9 (.inl (G.2 0, 78, .inr (.inl (fun _ => 0))))) (BB G B) (fun q => B ≤ q)) 1 78 (fun q => B ≤ q) := by
  refine Met.ofW (cc := cX4_init) (maxL := 2) (ret := none) (by decide) rfl ?_
  intro p e s m args below meth c s₁ B9 hml hv
  obtain ⟨hargs, hBs, hP, hKK⟩ := hv
  have hx := B9.exec
  have hb := B9.bytes
  have hr := B9.returns
  have hts := atoms_spec (ws := wsX4_init) B9.pre
  have hown : s.vm.findClass RX4 = some m.cls := findClass_of_methodNamed B9.named
  have hlocks := B9.notSynchronized
  have hin : meth.name = "<init>" := (name_of_methodNamed B9.named B9.method).1
  have hK := hKK.k
  have hS : va_S (fun q => B ≤ q) s.heap s.heap [] := va_S.rf
  obtain ⟨Q, hQ⟩ : ∃ Q, Q = MQ below (va_Qv (fun μ2 => ∃ l9 : Nat, μ l9 = none ∧ l9 ≠ h ∧ μ2 = mu (mu μ h (.inr (4, [.ref bn, .ref nn, .ref l9, .int (nI 1)]))) l9 (.inl (G.2 0, 78, .inr (.inl (fun _ => 0))))) (BB G B) (fun q => B ≤ q)) args s 1 78 (fun q => B ≤ q) := ⟨_, rfl⟩
  rw [← hQ]
  have ne0_1 : h ≠ bn := mp_ne hh hbn (by simp)
  have in_X4_init_X0 : ∀ w ∈ wsX00, w ∈ wsX4_init := by decide +kernel
  have in_X4_init_X4 : ∀ w ∈ wsX40, w ∈ wsX4_init := by decide +kernel
  have hP : mw G.1 vwCl B (mu μ h (.inr (4, [.null, .null, .null, .int (nI 0)]))) s.heap := mw_eq (mu_i hh).symm hP
  have hl := lv_entry ([.ref h, .ref bn]) (n := 2) (Nat.le_of_ble_eq_true rfl)
  have he9 : entryFrame m args 2 = entryFrame m ([.ref h, .ref bn] : List Value).toArray 2 := by rw [hargs]
  rw [he9, lg_entry_eq]
  generalize (lg_sl ([.ref h, .ref bn]) ++ List.replicate (2 - (lg_sl ([.ref h, .ref bn])).length) Slot.unset).toArray = ls at hl ⊢
  have hl : lv_has ls 2 [(0, .ref h), (1, .ref bn)] := hl
  refine lv_aload_n hx hb dX4_init_0 rfl (lv_at hl 0 rfl) ?_
  refine W.objInit hx hb hown (hts (.methodLink RX4 3 objectInit) (by decide +kernel)) (hts (.instanceMethod objectInit) (by decide +kernel)) (hts (.code objectInit ⟨#[0xb1]⟩ 1 none) (by decide +kernel)) rfl (by rw [hml]; exact hl.1) rfl dX4_init_1 (Nat.le_of_ble_eq_true rfl) (Nat.le_of_ble_eq_true rfl) ?_
  refine lv_aload_n hx hb dX4_init_4 rfl (lv_at hl 0 rfl) ?_
  refine lv_aload_n hx hb dX4_init_5 rfl (lv_at hl 1 rfl) ?_
  refine mw_putF (ty := .object "OctagonDesk$Bench") (v := .ref bn) (C := RX4) (T := TX4) (N := 4) hx hb hts in_X4_init_X4 tyX4 tyX4_ok nmX4 hown hK hP hS (mu_s _ _ _) rfl 0 (by decide) (hts (.fieldLink RX4 9 "OctagonDesk$Shape" "bench" "LOctagonDesk$Bench;") (by decide +kernel)) (fun _ h9 => h9) rfl hin rfl (by decide +kernel) (by first | rfl | decide +kernel) (by first | rfl | decide +kernel) (Nat.le_of_ble_eq_true rfl) dX4_init_6 (fun H locs hP hS => ?_)
  have hP : mw G.1 vwCl B (mu μ h (.inr (4, [.ref bn, .null, .null, .int (nI 0)]))) _ := mw_eq (mu_u _ _ _ _) hP
  refine lv_aload_n hx hb dX4_init_9 rfl (lv_at hl 0 rfl) ?_
  refine lv_aload_n hx hb dX4_init_10 rfl (lv_at hl 1 rfl) ?_
  refine mw_get (C := RX0) (T := TX0) (N := 3) hx hb hts in_X4_init_X0 hown hK hP ((mu_n ((Ne.symm ne0_1))).trans (hbn)) rfl 0 (by decide) (hts (.fieldLink RX4 15 "OctagonDesk$Bench" "numbers" "LOctagonDesk$Numbers;") (by decide +kernel)) (fun _ h9 => h9) rfl dX4_init_11 ?_
  refine mw_putF (ty := .object "OctagonDesk$Numbers") (v := .ref nn) (C := RX4) (T := TX4) (N := 4) hx hb hts in_X4_init_X4 tyX4 tyX4_ok nmX4 hown hK hP hS (mu_s _ _ _) rfl 1 (by decide) (hts (.fieldLink RX4 21 "OctagonDesk$Shape" "numbers" "LOctagonDesk$Numbers;") (by decide +kernel)) (fun _ h9 => h9) rfl hin rfl (by decide +kernel) (by first | rfl | decide +kernel) (by first | rfl | decide +kernel) (Nat.le_of_ble_eq_true rfl) dX4_init_14 (fun H locs hP hS => ?_)
  have hP : mw G.1 vwCl B (mu μ h (.inr (4, [.ref bn, .ref nn, .null, .int (nI 0)]))) _ := mw_eq (mu_u _ _ _ _) hP
  refine lv_aload_n hx hb dX4_init_17 rfl (lv_at hl 0 rfl) ?_
  refine lv_bipush (v := nI 78) hx hb dX4_init_18 (by decide) ?_
  refine mw_newa (n := 78) (a0 := (78, .inr (.inl (fun _ => 0)))) (atype := .long) (ty := .long) hx hb (hts (.arrayClass .long) (by decide +kernel)) rfl hK hP hS hBs 0 rfl (fun cA9 => vp0_J cA9 (78)) (by omega) (by show (78) * _ ≤ _; simp only [componentBytes]; omega) (Nat.le_of_ble_eq_true rfl) (Nat.le_of_ble_eq_true rfl) dX4_init_20 (fun q20 H hsq20 hzq20 hnq20 hP hS => ?_)
  have nqh_q20 : h ≠ q20 := mp_nn (mu_s _ _ _) hnq20
  have nqbn_q20 : bn ≠ q20 := mp_nn ((mu_n ((Ne.symm ne0_1))).trans (hbn)) hnq20
  have hP : mw G.1 vwCl B (mu (mu μ h (.inr (4, [.ref bn, .ref nn, .null, .int (nI 0)]))) q20 (.inl (G.2 0, 78, .inr (.inl (fun _ => 0))))) _ := hP
  refine mw_putF (ty := .array .long) (v := .ref q20) (C := RX4) (T := TX4) (N := 4) hx hb hts in_X4_init_X4 tyX4 tyX4_ok nmX4 hown hK hP hS ((mu_n nqh_q20).trans (mu_s _ _ _)) rfl 2 (by decide) (hts (.fieldLink RX4 22 "OctagonDesk$Shape" "cells" "[J") (by decide +kernel)) (fun _ h9 => h9) rfl hin rfl (by decide +kernel) (by first | rfl | decide +kernel) (by first | rfl | decide +kernel) (Nat.le_of_ble_eq_true rfl) dX4_init_22 (fun H locs hP hS => ?_)
  have hP : mw G.1 vwCl B (mu (mu μ h (.inr (4, [.ref bn, .ref nn, .ref q20, .int (nI 0)]))) q20 (.inl (G.2 0, 78, .inr (.inl (fun _ => 0))))) _ := mw_eq ((mu_c _ _ ((Ne.symm nqh_q20))).trans (congrArg (fun z => mu z q20 (.inl (G.2 0, 78, .inr (.inl (fun _ => 0))))) (mu_u _ _ _ _))) hP
  refine lv_aload_n hx hb dX4_init_25 rfl (lv_at hl 0 rfl) ?_
  refine lv_iconst (v := nI 1) hx hb dX4_init_26 (by decide) ?_
  refine mw_put (ty := .boolean) (v := .int (nI 1)) (C := RX4) (T := TX4) (N := 4) hx hb hts in_X4_init_X4 tyX4 tyX4_ok nmX4 hown hK hP hS ((mu_n nqh_q20).trans (mu_s _ _ _)) rfl 3 (by decide) (hts (.fieldLink RX4 26 "OctagonDesk$Shape" "empty" "Z") (by decide +kernel)) (fun _ h9 => h9) rfl (by decide +kernel) (by first | rfl | decide) (by first | rfl | decide) (Nat.le_of_ble_eq_true rfl) dX4_init_27 (fun H locs hP hS => ?_)
  have hP : mw G.1 vwCl B (mu (mu μ h (.inr (4, [.ref bn, .ref nn, .ref q20, .int (nI 1)]))) q20 (.inl (G.2 0, 78, .inr (.inl (fun _ => 0))))) _ := mw_eq ((mu_c _ _ ((Ne.symm nqh_q20))).trans (congrArg (fun z => mu z q20 (.inl (G.2 0, 78, .inr (.inl (fun _ => 0))))) (mu_u _ _ _ _))) hP
  rw [hQ]
  refine W.widen (k := 1) (n := 78) (by omega) (by omega) ?_
  exact W.vret hx hb hr (fun t99 ht99 hW99 => ⟨⟨mu (mu μ h (.inr (4, [.ref bn, .ref nn, .ref q20, .int (nI 1)]))) q20 (.inl (G.2 0, 78, .inr (.inl (fun _ => 0)))), rfl, (⟨q20, (mu_none hnq20).2, (mu_none hnq20).1, rfl⟩), by show mw _ _ _ _ t99.heap; rw [ht99]; exact hP⟩, hS.F ht99⟩) hS.2.2 dX4_init_30

abbrev rm_X6_emptyShapes (n9 : Nat) : Room := { frames := 2, cells := 1 + 2 * n9, slots := n9 + 82 * n9, locals := 33 }
set_option maxHeartbeats 4000000 in
set_option maxRecDepth 100000 in
theorem c_X6_emptyShapes (l : Launch) (G : GG) (B : Nat) (μ : mp) (bn nn s9 lo n9 : Nat) (hbn : μ bn = some (.inr (0, [.ref nn, .ref s9, .ref lo]))) (hn9 : n9 ≤ 8) : Met l yX6_emptyShapes wsX6_emptyShapes (rm_X6_emptyShapes n9) (va_Pc [.ref bn, .int (nI n9)] (KW G B μ)) (va_Qr (fun (_ : mp) => True) (fun μ2 ra t9 => (fun (μ2 : mp) (ra : Nat) => μ ra = none ∧ ∃ (fA : Nat → Option Nat) (sa la bE : Nat → Nat) (F : Nat → Nat → Int64), μ2 ra = some (.inl (G.2 3, n9, .inr (.inr (.inr (.inr fA))))) ∧ (∀ j, j < n9 → fA j = some (sa j) ∧ bE j = 1 ∧ F j = fun _ => 0) ∧ EM G bn nn μ μ2 n9 sa la bE F) μ2 ra ∧ BB G B μ2 t9) (fun q => B ≤ q)) (1 + 2 * n9) (n9 + 82 * n9) (fun q => B ≤ q) := by
  refine Met.ofW (cc := cX6_emptyShapes) (maxL := 4) (ret := (some (.array (.object "OctagonDesk$Shape")))) (by decide) rfl ?_
  intro p e s m args below meth c s₁ B9 hml hv
  obtain ⟨hargs, hBs, hP, hKK⟩ := hv
  have hx := B9.exec
  have hb := B9.bytes
  have hr := B9.returns
  have hts := atoms_spec (ws := wsX6_emptyShapes) B9.pre
  have hown : s.vm.findClass RX6 = some m.cls := findClass_of_methodNamed B9.named
  have hlocks := B9.notSynchronized
  have hK := hKK.k
  have hS : va_S (fun q => B ≤ q) s.heap s.heap [] := va_S.rf
  obtain ⟨Q, hQ⟩ : ∃ Q, Q = MQ below (va_Qr (fun (_ : mp) => True) (fun μ2 ra t9 => (fun (μ2 : mp) (ra : Nat) => μ ra = none ∧ ∃ (fA : Nat → Option Nat) (sa la bE : Nat → Nat) (F : Nat → Nat → Int64), μ2 ra = some (.inl (G.2 3, n9, .inr (.inr (.inr (.inr fA))))) ∧ (∀ j, j < n9 → fA j = some (sa j) ∧ bE j = 1 ∧ F j = fun _ => 0) ∧ EM G bn nn μ μ2 n9 sa la bE F) μ2 ra ∧ BB G B μ2 t9) (fun q => B ≤ q)) args s (1 + 2 * n9) (n9 + 82 * n9) (fun q => B ≤ q) := ⟨_, rfl⟩
  rw [← hQ]
  have in_X6_emptyShapes_X4 : ∀ w ∈ wsX40, w ∈ wsX6_emptyShapes := by decide +kernel
  have L7 : ∀ (N7 : Nat) (i1 : Nat) (a1 : Nat) (μ1 : mp) (fA : Nat → Option Nat) (sa : Nat → Nat) (la : Nat → Nat) (bE : Nat → Nat) (F : Nat → Nat → Int64) (hN7 : n9 - i1 < N7) (hi : i1 ≤ n9) (h0a : μ a1 = none) (hb1 : μ1 bn = some (.inr (0, [.ref nn, .ref s9, .ref lo]))) (ha1 : μ1 a1 = some (.inl (G.2 3, n9, .inr (.inr (.inr (.inr fA)))))) (hA : ∀ j, j < i1 → fA j = some (sa j) ∧ bE j = 1 ∧ F j = fun _ => 0) (hE : EM G bn nn μ μ1 i1 sa la bE F), ∀ (H : Heap) (locs : List Loc), mw G.1 vwCl B (μ1) H → va_S (fun q => B ≤ q) s.heap H locs → ∀ ls : Array Slot, lv_has ls 4 [(0, .ref bn), (1, .int (nI n9)), (2, .ref a1), (3, .int (nI i1))] → W p l e (rm_X6_emptyShapes n9) s m args below meth c H locs (1 + 2 * (i1)) (n9 + 82 * (i1)) Q (F0 m 7 ls []) := by
    intro N7
    induction N7 with
    | zero => intro i1 a1 μ1 fA sa la bE F hN7; exact absurd hN7 (Nat.not_lt_zero _)
    | succ N7 ih7 =>
      intro i1 a1 μ1 fA sa la bE F hN7 hi h0a hb1 ha1 hA hE H locs hP hS ls hl
      refine lv_iload_n hx hb dX6_emptyShapes_7 rfl (lv_at hl 3 rfl) ?_
      refine lv_iload_n hx hb dX6_emptyShapes_8 rfl (lv_at hl 1 rfl) ?_
      refine nv_icmp_ge (tgt := 29) hx hb (by omega) (by omega) dX6_emptyShapes_9 (by decide) (fun hc9 => ?_) (fun hc9 => ?_)
      · refine lv_aload_n hx hb dX6_emptyShapes_29 rfl (lv_at hl 2 rfl) ?_
        rw [hQ]
        refine W.widen (k := 1 + 2 * n9) (n := n9 + 82 * n9) (by omega) (by omega) ?_
        exact W.aret (v := .ref a1) hx hb hr (Or.inr ⟨_, rfl⟩) (Or.inr ⟨_, rfl⟩) (fun t99 ht99 hW99 => ⟨⟨μ1, a1, rfl, trivial, (⟨h0a, fA, sa, la, bE, F, ha1, fun j hj => hA j (by omega), by have e : i1 = n9 := (by omega); subst e; exact hE⟩), by show mw _ _ _ _ t99.heap; rw [ht99]; exact hP⟩, hS.F ht99⟩) hS.2.2 dX6_emptyShapes_30
      · refine lv_aload_n hx hb dX6_emptyShapes_12 rfl (lv_at hl 2 rfl) ?_
        refine lv_iload_n hx hb dX6_emptyShapes_13 rfl (lv_at hl 3 rfl) ?_
        refine mw_new (ci := 4) (fs := [.null, .null, .null, .int (nI 0)]) (C := RX4) (T := TX4) (N := 4) hx hb hts in_X6_emptyShapes_X4 tyX4 tyX4_ok hown (hts (.classLink RX6 21 RX4) (by decide +kernel)) (hts (.instantiable RX4 4) (by decide +kernel)) (hts (.initialized RX4) (by decide +kernel)) hK hP hS hBs rfl (fun j hj => by rcases (show j = 0 ∨ j = 1 ∨ j = 2 ∨ j = 3 by omega) with rfl | rfl | rfl | rfl <;> rfl) (Nat.le_trans (m := 1 + 2 * n9) (by omega) (Nat.le_refl _)) (Nat.le_trans (m := n9 + 82 * n9) (by omega) (Nat.le_refl _)) dX6_emptyShapes_14 (fun q14 H hsq14 hzq14 hnq14 hP hS => ?_)
        have nqa1_q14 : a1 ≠ q14 := mp_nn (ha1) hnq14
        have nqbn_q14 : bn ≠ q14 := mp_nn (hb1) hnq14
        have hP : mw G.1 vwCl B (mu μ1 q14 (.inr (4, [.null, .null, .null, .int (nI 0)]))) _ := hP
        refine lv_dup hx hb dX6_emptyShapes_17 rfl ?_
        refine lv_aload_n hx hb dX6_emptyShapes_18 rfl (lv_at hl 0 rfl) ?_
        refine kc_v (va_runI (As := [.ref bn]) (rest := [.ref q14, .int (nI i1), .ref a1]) ⟨hx, hb, hml, hown, hts⟩ (c_X4_init l G B (mu μ1 q14 (.inr (4, [.null, .null, .null, .int (nI 0)]))) q14 bn nn s9 lo (mu_s _ _ _) ((mu_n nqbn_q14).trans (hb1))) (cwI 1 hts gX6_emptyShapes_X4_init rfl rfl rfl (hts (.initialized RX4) (by decide +kernel)) (hts (.methodLink RX6 31 yX4_init) (by decide +kernel)) (hts (.instanceMethod yX4_init) (by decide +kernel)) rfl (by decide +kernel) ⟨Nat.le_of_ble_eq_true rfl, Nat.le_of_ble_eq_true rfl⟩) ⟨KW.blind, fun U9 hU9 hW9 => ⟨rfl, KW.pre hBs hKK hS hP U9 hU9 hW9⟩⟩ rfl rfl hl.1 rfl (lv_room (Nat.le_of_ble_eq_true rfl)) dX6_emptyShapes_19 ⟨(Nat.le_trans (m := 1 + 2 * n9) (by omega) (Nat.le_refl _)), (Nat.le_trans (m := n9 + 82 * n9) (by omega) (Nat.le_refl _))⟩) hS (fun m19 H locs hq9 hP hz9 hS => ?_)
        obtain ⟨l19, hn19, hl19, rfl⟩ := hq9
        have nqa1_l19 : a1 ≠ l19 := mp_nn ((mu_n nqa1_q14).trans (ha1)) hn19
        have nqbn_l19 : bn ≠ l19 := mp_nn ((mu_n nqbn_q14).trans (hb1)) hn19
        have nqq14_l19 : q14 ≠ l19 := mp_nn (mu_s _ _ _) hn19
        have hP : mw G.1 vwCl B (mu (mu μ1 q14 (.inr (4, [.ref bn, .ref nn, .ref l19, .int (nI 1)]))) l19 (.inl (G.2 0, 78, .inr (.inl (fun _ => 0))))) _ := mw_eq (congrArg (fun z => mu z l19 (.inl (G.2 0, 78, .inr (.inl (fun _ => 0))))) (mu_u _ _ _ _)) hP
        refine mw_astq (r := (RX4, TX4, 4)) hx hb hK hP hS 3 4 ((mu_n nqa1_l19).trans ((mu_n nqa1_q14).trans (ha1))) rfl ((mu_n nqq14_l19).trans (mu_s _ _ _)) rfl (by omega) (by omega) dX6_emptyShapes_22 (fun H locs hP hS => ?_)
        have hP : mw G.1 vwCl B (mu (mu (mu μ1 q14 (.inr (4, [.ref bn, .ref nn, .ref l19, .int (nI 1)]))) l19 (.inl (G.2 0, 78, .inr (.inl (fun _ => 0))))) a1 (.inl (G.2 3, n9, .inr (.inr (.inr (.inr (va_up fA i1 (some q14)))))))) _ := hP
        refine lv_iinc (v := nI (i1 + 1)) (lv' := [(3, .int (nI (i1 + 1))), (0, .ref bn), (1, .int (nI n9)), (2, .ref a1)]) hx hb dX6_emptyShapes_23 hl (k := 3) rfl (nI_add _ _) (by decide) rfl (fun ls hl => ?_)
        refine lv_goto (tgt := 7) hx hb dX6_emptyShapes_26 (by decide) ?_
        have hP : mw G.1 vwCl B (mu (mu (mu μ1 a1 (.inl (G.2 3, n9, .inr (.inr (.inr (.inr (va_up fA i1 (some q14)))))))) q14 (.inr (4, [.ref bn, .ref nn, .ref l19, .int (nI 1)]))) l19 (.inl (G.2 0, 78, .inr (.inl (fun _ => 0))))) _ := mw_eq ((mu_c _ _ ((Ne.symm nqa1_l19))).trans (congrArg (fun z => mu z l19 (.inl (G.2 0, 78, .inr (.inl (fun _ => 0))))) (mu_c _ _ ((Ne.symm nqa1_q14))))) hP
        refine W.widen (k := 1 + 2 * (i1 + 1)) (n := n9 + 82 * (i1 + 1)) (by omega) (by omega) ?_
        exact ih7 (i1 + 1) a1 (mu (mu (mu μ1 a1 (.inl (G.2 3, n9, .inr (.inr (.inr (.inr (va_up fA i1 (some q14)))))))) q14 (.inr (4, [.ref bn, .ref nn, .ref l19, .int (nI 1)]))) l19 (.inl (G.2 0, 78, .inr (.inl (fun _ => 0))))) (va_up fA i1 (some q14)) (va_up sa i1 q14) (va_up la i1 l19) (va_up bE i1 1) (va_up F i1 (fun _ => 0)) (by omega) (by omega) (h0a) ((mu_n nqbn_l19).trans ((mu_n nqbn_q14).trans ((mu_n ((mp_ne hb1 ha1 (by simp)))).trans hb1))) ((mu_n nqa1_l19).trans ((mu_n nqa1_q14).trans (mu_s _ _ _))) (es_A hA) (hE.next h0a ha1 hnq14 hn19) _ _ hP hS ls (lv_sub hl [1, 2, 3, 0] rfl)
  have hl := lv_entry ([.ref bn, .int (nI n9)]) (n := 4) (Nat.le_of_ble_eq_true rfl)
  have he9 : entryFrame m args 4 = entryFrame m ([.ref bn, .int (nI n9)] : List Value).toArray 4 := by rw [hargs]
  rw [he9, lg_entry_eq]
  generalize (lg_sl ([.ref bn, .int (nI n9)]) ++ List.replicate (4 - (lg_sl ([.ref bn, .int (nI n9)])).length) Slot.unset).toArray = ls at hl ⊢
  have hl : lv_has ls 4 [(0, .ref bn), (1, .int (nI n9))] := hl
  refine lv_iload_n hx hb dX6_emptyShapes_0 rfl (lv_at hl 1 rfl) ?_
  refine mw_newq hx hb hown (hts (.classLink RX6 21 RX4) (by decide +kernel)) hKK.2.2.1.1 hK hP hS hBs 3 rfl (by omega) (Nat.le_trans (m := 1 + 2 * n9) (by omega) (Nat.le_refl _)) (Nat.le_trans (m := n9 + 82 * n9) (by omega) (Nat.le_refl _)) dX6_emptyShapes_1 (fun q1 H hsq1 hzq1 hnq1 hP hS => ?_)
  have nqbn_q1 : bn ≠ q1 := mp_nn (hbn) hnq1
  have hP : mw G.1 vwCl B (mu μ q1 (.inl (G.2 3, n9, .inr (.inr (.inr (.inr (fun _ => none))))))) _ := hP
  refine lv_astore_n (lv' := [(2, .ref q1), (0, .ref bn), (1, .int (nI n9))]) hx hb dX6_emptyShapes_4 rfl hl (by decide) rfl (fun ls hl => ?_)
  refine lv_iconst (v := nI 0) hx hb dX6_emptyShapes_5 (by decide) ?_
  refine lv_istore_n (lv' := [(3, .int (nI 0)), (2, .ref q1), (0, .ref bn), (1, .int (nI n9))]) hx hb dX6_emptyShapes_6 rfl hl (by decide) rfl (fun ls hl => ?_)
  refine W.widen (k := 1 + 2 * (0)) (n := n9 + 82 * (0)) (by omega) (by omega) ?_
  exact L7 _ 0 q1 (mu μ q1 (.inl (G.2 3, n9, .inr (.inr (.inr (.inr (fun _ => none))))))) (fun _ => none) (fun _ => 0) (fun _ => 0) (fun _ => 0) (fun _ _ => 0) (Nat.lt_succ_self _) (by omega) (hnq1) (((mu_n nqbn_q1).trans (hbn))) ((mu_s _ _ _)) (fun j hj => absurd hj (by omega)) (EM.zero G bn nn ((Ext.rf μ).mo hnq1) _ _ _ _) _ _ hP hS ls (lv_sub hl [2, 3, 1, 0] rfl)
