abbrev rm_X1_init : Room := { frames := 2, cells := 2, slots := 162, locals := 33 }
set_option maxHeartbeats 4000000 in
set_option maxRecDepth 100000 in
theorem c_X1_init (l : Launch) (G : GG) (B : Nat) (μ : mp) (h : Nat) (hh : μ h = some (.inr (1, [.null, .int (nI 0)]))) : Met l yX1_init wsX1_init rm_X1_init (va_Pc [.ref h] (KW G B μ)) (va_Qv (fun μ2 => ∃ hn la : Nat, μ hn = none ∧ μ la = none ∧ hn ≠ la ∧ hn ≠ h ∧ la ≠ h ∧ μ2 = mu (mu (mu μ h (.inr (1, [.ref hn, .int (nI 1)]))) hn (.inr (0, [.int (nI 158), .int (nI 157), .ref la, .int (nI (158 * 0))]))) la (.inl (G.2 0, 158 * 0 + 158, .inr (.inl (fun _ => 0))))) (BB G B) (fun q => B ≤ q)) 2 162 (fun q => B ≤ q) := by
  refine Met.ofW (cc := cX1_init) (maxL := 1) (ret := none) (by decide) rfl ?_
  intro p e s m args below meth c s₁ B9 hml hv
  obtain ⟨hargs, hBs, hP, hKK⟩ := hv
  have hx := B9.exec
  have hb := B9.bytes
  have hr := B9.returns
  have hts := atoms_spec (ws := wsX1_init) B9.pre
  have hown : s.vm.findClass RX1 = some m.cls := findClass_of_methodNamed B9.named
  have hlocks := B9.notSynchronized
  have hin : meth.name = "<init>" := (name_of_methodNamed B9.named B9.method).1
  have hK := hKK.k
  have hS : va_S (fun q => B ≤ q) s.heap s.heap [] := va_S.rf
  obtain ⟨Q, hQ⟩ : ∃ Q, Q = MQ below (va_Qv (fun μ2 => ∃ hn la : Nat, μ hn = none ∧ μ la = none ∧ hn ≠ la ∧ hn ≠ h ∧ la ≠ h ∧ μ2 = mu (mu (mu μ h (.inr (1, [.ref hn, .int (nI 1)]))) hn (.inr (0, [.int (nI 158), .int (nI 157), .ref la, .int (nI (158 * 0))]))) la (.inl (G.2 0, 158 * 0 + 158, .inr (.inl (fun _ => 0))))) (BB G B) (fun q => B ≤ q)) args s 2 162 (fun q => B ≤ q) := ⟨_, rfl⟩
  rw [← hQ]
  have in_X1_init_X0 : ∀ w ∈ wsX00, w ∈ wsX1_init := by decide +kernel
  have in_X1_init_X1 : ∀ w ∈ wsX10, w ∈ wsX1_init := by decide +kernel
  have hP : mw G.1 vwCl B (mu μ h (.inr (1, [.null, .int (nI 0)]))) s.heap := mw_eq (mu_i hh).symm hP
  have hl := lv_entry ([.ref h]) (n := 1) (Nat.le_of_ble_eq_true rfl)
  have he9 : entryFrame m args 1 = entryFrame m ([.ref h] : List Value).toArray 1 := by rw [hargs]
  rw [he9, lg_entry_eq]
  generalize (lg_sl ([.ref h]) ++ List.replicate (1 - (lg_sl ([.ref h])).length) Slot.unset).toArray = ls at hl ⊢
  have hl : lv_has ls 1 [(0, .ref h)] := hl
  refine lv_aload_n hx hb dX1_init_0 rfl (lv_at hl 0 rfl) ?_
  refine W.objInit hx hb hown (hts (.methodLink RX1 5 objectInit) (by decide +kernel)) (hts (.instanceMethod objectInit) (by decide +kernel)) (hts (.code objectInit ⟨#[0xb1]⟩ 1 none) (by decide +kernel)) rfl (by rw [hml]; exact hl.1) rfl dX1_init_1 (Nat.le_of_ble_eq_true rfl) (Nat.le_of_ble_eq_true rfl) ?_
  refine lv_aload_n hx hb dX1_init_4 rfl (lv_at hl 0 rfl) ?_
  refine mw_new (ci := 0) (fs := [.int (nI 0), .int (nI 0), .null, .int (nI 0)]) (C := RX0) (T := TX0) (N := 4) hx hb hts in_X1_init_X0 tyX0 tyX0_ok hown (hts (.classLink RX1 11 RX0) (by decide +kernel)) (hts (.instantiable RX0 4) (by decide +kernel)) (hts (.initialized RX0) (by decide +kernel)) hK hP hS hBs rfl (fun j hj => by rcases (show j = 0 ∨ j = 1 ∨ j = 2 ∨ j = 3 by omega) with rfl | rfl | rfl | rfl <;> rfl) (Nat.le_of_ble_eq_true rfl) (Nat.le_of_ble_eq_true rfl) dX1_init_5 (fun q5 H hsq5 hzq5 hnq5 hP hS => ?_)
  have nqh_q5 : h ≠ q5 := mp_nn (mu_s _ _ _) hnq5
  have hP : mw G.1 vwCl B (mu (mu μ h (.inr (1, [.null, .int (nI 0)]))) q5 (.inr (0, [.int (nI 0), .int (nI 0), .null, .int (nI 0)]))) _ := hP
  refine lv_dup hx hb dX1_init_8 rfl ?_
  refine lv_sipush (v := nI 157) hx hb dX1_init_9 (by decide) ?_
  refine kc_v (va_runI (As := [.int (nI 157)]) (rest := [.ref q5, .ref h]) ⟨hx, hb, hml, hown, hts⟩ (c_X0_init l G B (mu (mu μ h (.inr (1, [.null, .int (nI 0)]))) q5 (.inr (0, [.int (nI 0), .int (nI 0), .null, .int (nI 0)]))) q5 (mu_s _ _ _)) (cwI 1 hts gX1_init_X0_init rfl rfl rfl (hts (.initialized RX0) (by decide +kernel)) (hts (.methodLink RX1 13 yX0_init) (by decide +kernel)) (hts (.instanceMethod yX0_init) (by decide +kernel)) rfl (by decide +kernel) ⟨Nat.le_of_ble_eq_true rfl, Nat.le_of_ble_eq_true rfl⟩) ⟨KW.blind, fun U9 hU9 hW9 => ⟨rfl, KW.pre hBs hKK hS hP U9 hU9 hW9⟩⟩ rfl rfl hl.1 rfl (lv_room (Nat.le_of_ble_eq_true rfl)) dX1_init_12 ⟨(Nat.le_of_ble_eq_true rfl), (Nat.le_of_ble_eq_true rfl)⟩) hS (fun m12 H locs hq9 hP hz9 hS => ?_)
  obtain ⟨la12, hn12, -, rfl⟩ := hq9
  have nqh_la12 : h ≠ la12 := mp_nn ((mu_n nqh_q5).trans (mu_s _ _ _)) hn12
  have nqq5_la12 : q5 ≠ la12 := mp_nn (mu_s _ _ _) hn12
  have hP : mw G.1 vwCl B (mu (mu (mu μ h (.inr (1, [.null, .int (nI 0)]))) q5 (.inr (0, [.int (nI 158), .int (nI 157), .ref la12, .int (nI (158 * 0))]))) la12 (.inl (G.2 0, 158 * 0 + 158, .inr (.inl (fun _ => 0))))) _ := mw_eq (congrArg (fun z => mu z la12 (.inl (G.2 0, 158 * 0 + 158, .inr (.inl (fun _ => 0))))) (mu_u _ _ _ _)) hP
  refine mw_putF (ty := .object "OctagonDesk$Numbers") (v := .ref q5) (C := RX1) (T := TX1) (N := 2) hx hb hts in_X1_init_X1 tyX1 tyX1_ok nmX1 hown hK hP hS ((mu_n nqh_la12).trans ((mu_n nqh_q5).trans (mu_s _ _ _))) rfl 0 (by decide) (hts (.fieldLink RX1 16 "OctagonDesk$Shape" "numbers" "LOctagonDesk$Numbers;") (by decide +kernel)) (fun _ h9 => h9) rfl hin rfl (by decide +kernel) (by first | rfl | decide +kernel) (by first | rfl | decide +kernel) (Nat.le_of_ble_eq_true rfl) dX1_init_15 (fun H locs hP hS => ?_)
  have hP : mw G.1 vwCl B (mu (mu (mu μ h (.inr (1, [.ref q5, .int (nI 0)]))) q5 (.inr (0, [.int (nI 158), .int (nI 157), .ref la12, .int (nI (158 * 0))]))) la12 (.inl (G.2 0, 158 * 0 + 158, .inr (.inl (fun _ => 0))))) _ := mw_eq ((mu_c _ _ ((Ne.symm nqh_la12))).trans (congrArg (fun z => mu z la12 (.inl (G.2 0, 158 * 0 + 158, .inr (.inl (fun _ => 0))))) ((mu_c _ _ ((Ne.symm nqh_q5))).trans (congrArg (fun z => mu z q5 (.inr (0, [.int (nI 158), .int (nI 157), .ref la12, .int (nI (158 * 0))]))) (mu_u _ _ _ _))))) hP
  refine lv_aload_n hx hb dX1_init_18 rfl (lv_at hl 0 rfl) ?_
  refine lv_iconst (v := nI 1) hx hb dX1_init_19 (by decide) ?_
  refine mw_put (ty := .boolean) (v := .int (nI 1)) (C := RX1) (T := TX1) (N := 2) hx hb hts in_X1_init_X1 tyX1 tyX1_ok nmX1 hown hK hP hS ((mu_n nqh_la12).trans ((mu_n nqh_q5).trans (mu_s _ _ _))) rfl 1 (by decide) (hts (.fieldLink RX1 20 "OctagonDesk$Shape" "empty" "Z") (by decide +kernel)) (fun _ h9 => h9) rfl (by decide +kernel) (by first | rfl | decide) (by first | rfl | decide) (Nat.le_of_ble_eq_true rfl) dX1_init_20 (fun H locs hP hS => ?_)
  have hP : mw G.1 vwCl B (mu (mu (mu μ h (.inr (1, [.ref q5, .int (nI 1)]))) q5 (.inr (0, [.int (nI 158), .int (nI 157), .ref la12, .int (nI (158 * 0))]))) la12 (.inl (G.2 0, 158 * 0 + 158, .inr (.inl (fun _ => 0))))) _ := mw_eq ((mu_c _ _ ((Ne.symm nqh_la12))).trans (congrArg (fun z => mu z la12 (.inl (G.2 0, 158 * 0 + 158, .inr (.inl (fun _ => 0))))) ((mu_c _ _ ((Ne.symm nqh_q5))).trans (congrArg (fun z => mu z q5 (.inr (0, [.int (nI 158), .int (nI 157), .ref la12, .int (nI (158 * 0))]))) (mu_u _ _ _ _))))) hP
  rw [hQ]
  refine W.widen (k := 2) (n := 162) (by omega) (by omega) ?_
  exact W.vret hx hb hr (fun t99 ht99 hW99 => ⟨⟨mu (mu (mu μ h (.inr (1, [.ref q5, .int (nI 1)]))) q5 (.inr (0, [.int (nI 158), .int (nI 157), .ref la12, .int (nI (158 * 0))]))) la12 (.inl (G.2 0, 158 * 0 + 158, .inr (.inl (fun _ => 0)))), rfl, (⟨q5, la12, (mu_none hnq5).2, (mu_none (mu_none hn12).2).2, Ne.symm (mu_none hn12).1, (mu_none hnq5).1, (mu_none (mu_none hn12).2).1, rfl⟩), by show mw _ _ _ _ t99.heap; rw [ht99]; exact hP⟩, hS.F ht99⟩) hS.2.2 dX1_init_23
