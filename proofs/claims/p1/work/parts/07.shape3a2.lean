abbrev rm_X0_init : Room := { frames := 1, cells := 1, slots := 158, locals := 12 }
set_option maxHeartbeats 4000000 in
set_option maxRecDepth 100000 in
theorem c_X0_init (l : Launch) (G : GG) (B : Nat) (μ : mp) (h : Nat) (hh : μ h = some (.inr (0, [.int (nI 0), .int (nI 0), .null, .int (nI 0)]))) : Met l yX0_init wsX0_init rm_X0_init (va_Pc [.ref h, .int (nI 157)] (KW G B μ)) (va_Qv (fun μ2 => ∃ la : Nat, μ la = none ∧ la ≠ h ∧ μ2 = mu (mu μ h (.inr (0, [.int (nI 158), .int (nI 157), .ref la, .int (nI (158 * 0))]))) la (.inl (G.2 0, 158 * 0 + 158, .inr (.inl (fun _ => 0))))) (BB G B) (fun q => B ≤ q)) 1 158 (fun q => B ≤ q) := by
  refine Met.ofW (cc := cX0_init) (maxL := 2) (ret := none) (by decide) rfl ?_
  intro p e s m args below meth c s₁ B9 hml hv
  obtain ⟨hargs, hBs, hP, hKK⟩ := hv
  have hx := B9.exec
  have hb := B9.bytes
  have hr := B9.returns
  have hts := atoms_spec (ws := wsX0_init) B9.pre
  have hown : s.vm.findClass RX0 = some m.cls := findClass_of_methodNamed B9.named
  have hlocks := B9.notSynchronized
  have hin : meth.name = "<init>" := (name_of_methodNamed B9.named B9.method).1
  have hK := hKK.k
  have hS : va_S (fun q => B ≤ q) s.heap s.heap [] := va_S.rf
  obtain ⟨Q, hQ⟩ : ∃ Q, Q = MQ below (va_Qv (fun μ2 => ∃ la : Nat, μ la = none ∧ la ≠ h ∧ μ2 = mu (mu μ h (.inr (0, [.int (nI 158), .int (nI 157), .ref la, .int (nI (158 * 0))]))) la (.inl (G.2 0, 158 * 0 + 158, .inr (.inl (fun _ => 0))))) (BB G B) (fun q => B ≤ q)) args s 1 158 (fun q => B ≤ q) := ⟨_, rfl⟩
  rw [← hQ]
  have in_X0_init_X0 : ∀ w ∈ wsX00, w ∈ wsX0_init := by decide +kernel
  have hP : mw G.1 vwCl B (mu μ h (.inr (0, [.int (nI 0), .int (nI 0), .null, .int (nI 0)]))) s.heap := mw_eq (mu_i hh).symm hP
  have hl := lv_entry ([.ref h, .int (nI 157)]) (n := 2) (Nat.le_of_ble_eq_true rfl)
  have he9 : entryFrame m args 2 = entryFrame m ([.ref h, .int (nI 157)] : List Value).toArray 2 := by rw [hargs]
  rw [he9, lg_entry_eq]
  generalize (lg_sl ([.ref h, .int (nI 157)]) ++ List.replicate (2 - (lg_sl ([.ref h, .int (nI 157)])).length) Slot.unset).toArray = ls at hl ⊢
  have hl : lv_has ls 2 [(0, .ref h), (1, .int (nI 157))] := hl
  refine lv_aload_n hx hb dX0_init_0 rfl (lv_at hl 0 rfl) ?_
  refine W.objInit hx hb hown (hts (.methodLink RX0 5 objectInit) (by decide +kernel)) (hts (.instanceMethod objectInit) (by decide +kernel)) (hts (.code objectInit ⟨#[0xb1]⟩ 1 none) (by decide +kernel)) rfl (by rw [hml]; exact hl.1) rfl dX0_init_1 (Nat.le_of_ble_eq_true rfl) (Nat.le_of_ble_eq_true rfl) ?_
  refine lv_aload_n hx hb dX0_init_4 rfl (lv_at hl 0 rfl) ?_
  refine lv_iload_n hx hb dX0_init_5 rfl (lv_at hl 1 rfl) ?_
  refine mw_putF (ty := .int) (v := .int (nI 157)) (C := RX0) (T := TX0) (N := 4) hx hb hts in_X0_init_X0 tyX0 tyX0_ok nmX0 hown hK hP hS (mu_s _ _ _) rfl 1 (by decide) (hts (.fieldLink RX0 11 "OctagonDesk$Numbers" "sum" "I") (by decide +kernel)) (fun _ h9 => h9) rfl hin rfl (by decide +kernel) (by first | rfl | decide +kernel) (by first | rfl | decide +kernel) (Nat.le_of_ble_eq_true rfl) dX0_init_6 (fun H locs hP hS => ?_)
  have hP : mw G.1 vwCl B (mu μ h (.inr (0, [.int (nI 0), .int (nI 157), .null, .int (nI 0)]))) _ := mw_eq (mu_u _ _ _ _) hP
  refine lv_aload_n hx hb dX0_init_9 rfl (lv_at hl 0 rfl) ?_
  refine lv_iload_n hx hb dX0_init_10 rfl (lv_at hl 1 rfl) ?_
  refine lv_iconst (v := nI 1) hx hb dX0_init_11 (by decide) ?_
  refine nv_iadd hx hb dX0_init_12 ?_
  refine mw_putF (ty := .int) (v := .int (nI 158)) (C := RX0) (T := TX0) (N := 4) hx hb hts in_X0_init_X0 tyX0 tyX0_ok nmX0 hown hK hP hS (mu_s _ _ _) rfl 0 (by decide) (hts (.fieldLink RX0 15 "OctagonDesk$Numbers" "cells" "I") (by decide +kernel)) (fun _ h9 => h9) rfl hin rfl (by decide +kernel) (by first | rfl | decide +kernel) (by first | rfl | decide +kernel) (Nat.le_of_ble_eq_true rfl) dX0_init_13 (fun H locs hP hS => ?_)
  have hP : mw G.1 vwCl B (mu μ h (.inr (0, [.int (nI 158), .int (nI 157), .null, .int (nI 0)]))) _ := mw_eq (mu_u _ _ _ _) hP
  refine lv_aload_n hx hb dX0_init_16 rfl (lv_at hl 0 rfl) ?_
  refine lv_aload_n hx hb dX0_init_17 rfl (lv_at hl 0 rfl) ?_
  refine mw_get (C := RX0) (T := TX0) (N := 4) hx hb hts in_X0_init_X0 hown hK hP (mu_s _ _ _) rfl 0 (by decide) (hts (.fieldLink RX0 15 "OctagonDesk$Numbers" "cells" "I") (by decide +kernel)) (fun _ h9 => h9) rfl dX0_init_18 ?_
  refine mw_newa (a0 := (158, .inr (.inl (fun _ => 0)))) (ty := .long) hx hb (hts (.arrayClass .long) (by decide +kernel)) rfl hK hP hS hBs 0 rfl (fun _ => rfl) (by omega) (by show (158) * _ ≤ _; simp only [componentBytes]; omega) (Nat.le_of_ble_eq_true rfl) (Nat.le_of_ble_eq_true rfl) dX0_init_21 (fun q21 H hsq21 hzq21 hnq21 hP hS => ?_)
  have nqh_q21 : h ≠ q21 := mp_nn (mu_s _ _ _) hnq21
  have hP : mw G.1 vwCl B (mu (mu μ h (.inr (0, [.int (nI 158), .int (nI 157), .null, .int (nI 0)]))) q21 (.inl (G.2 0, 158, .inr (.inl (fun _ => 0))))) _ := hP
  refine mw_put (ty := .array .long) (v := .ref q21) (C := RX0) (T := TX0) (N := 4) hx hb hts in_X0_init_X0 tyX0 tyX0_ok nmX0 hown hK hP hS ((mu_n nqh_q21).trans (mu_s _ _ _)) rfl 2 (by decide) (hts (.fieldLink RX0 18 "OctagonDesk$Numbers" "limbs" "[J") (by decide +kernel)) (fun _ h9 => h9) rfl (by decide +kernel) (by first | rfl | decide +kernel) (by first | rfl | decide +kernel) (Nat.le_of_ble_eq_true rfl) dX0_init_23 (fun H locs hP hS => ?_)
  have hP : mw G.1 vwCl B (mu (mu μ h (.inr (0, [.int (nI 158), .int (nI 157), .ref q21, .int (nI 0)]))) q21 (.inl (G.2 0, 158, .inr (.inl (fun _ => 0))))) _ := mw_eq ((mu_c _ _ ((Ne.symm nqh_q21))).trans (congrArg (fun z => mu z q21 (.inl (G.2 0, 158, .inr (.inl (fun _ => 0))))) (mu_u _ _ _ _))) hP
  refine lv_aload_n hx hb dX0_init_26 rfl (lv_at hl 0 rfl) ?_
  refine lv_iconst (v := nI 0) hx hb dX0_init_27 (by decide) ?_
  refine mw_put (ty := .int) (v := .int (nI 0)) (C := RX0) (T := TX0) (N := 4) hx hb hts in_X0_init_X0 tyX0 tyX0_ok nmX0 hown hK hP hS ((mu_n nqh_q21).trans (mu_s _ _ _)) rfl 3 (by decide) (hts (.fieldLink RX0 22 "OctagonDesk$Numbers" "top" "I") (by decide +kernel)) (fun _ h9 => h9) rfl (by decide +kernel) (by first | rfl | decide +kernel) (by first | rfl | decide +kernel) (Nat.le_of_ble_eq_true rfl) dX0_init_28 (fun H locs hP hS => ?_)
  have hP : mw G.1 vwCl B (mu (mu μ h (.inr (0, [.int (nI 158), .int (nI 157), .ref q21, .int (nI 0)]))) q21 (.inl (G.2 0, 158, .inr (.inl (fun _ => 0))))) _ := mw_eq ((mu_c _ _ ((Ne.symm nqh_q21))).trans (congrArg (fun z => mu z q21 (.inl (G.2 0, 158, .inr (.inl (fun _ => 0))))) (mu_u _ _ _ _))) hP
  rw [hQ]
  refine W.widen (k := 1) (n := 158) (by omega) (by omega) ?_
  exact W.vret hx hb hr (fun t99 ht99 hW99 => ⟨⟨mu (mu μ h (.inr (0, [.int (nI 158), .int (nI 157), .ref q21, .int (nI 0)]))) q21 (.inl (G.2 0, 158, .inr (.inl (fun _ => 0)))), rfl, (⟨q21, (mu_none hnq21).2, (mu_none hnq21).1, rfl⟩), by show mw _ _ _ _ t99.heap; rw [ht99]; exact hP⟩, hS.F ht99⟩) hS.2.2 dX0_init_31
