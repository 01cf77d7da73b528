abbrev rm_X0_growTwofold (k : Nat) : Room := { frames := 2, cells := 1, slots := 2 * (158 * k + 158), locals := 82 }
set_option maxHeartbeats 4000000 in
set_option maxRecDepth 100000 in
theorem c_X0_growTwofold (l : Launch) (G : GG) (B : Nat) (μ : mp) (h la k : Nat) (f : Nat → Int64) (hh : μ h = some (.inr (0, [.int (nI 158), .int (nI 157), .ref la, .int (nI (158 * k))]))) (ha : μ la = some (.inl (G.2 0, 158 * k + 158, .inr (.inl f)))) (hk : k ≤ 1022) : Met l yX0_growTwofold wsX0_growTwofold (rm_X0_growTwofold k) (va_Pc [.ref h] (KW G B μ)) (va_Qv (fun μ2 => ∃ (la9 k9 : Nat) (g9 : Nat → Int64), μ2 = mu (mu μ h (.inr (0, [.int (nI 158), .int (nI 157), .ref la9, .int (nI (158 * k9))]))) la9 (.inl (G.2 0, 158 * k9 + 158, .inr (.inl g9))) ∧ k9 ≤ 1022 ∧ (la9 = la ∨ μ la9 = none) ∧ k9 = gr k) (BB G B) (fun q => B ≤ q)) 1 (2 * (158 * k + 158)) (fun q => B ≤ q) := by
  refine Met.ofW (cc := cX0_growTwofold) (maxL := 3) (ret := none) (by decide) rfl ?_
  intro p e s m args below meth c s₁ B9 hml hv
  obtain ⟨hargs, hBs, hP, hKK⟩ := hv
  have hx := B9.exec
  have hb := B9.bytes
  have hr := B9.returns
  have hts := atoms_spec (ws := wsX0_growTwofold) B9.pre
  have hown : s.vm.findClass RX0 = some m.cls := findClass_of_methodNamed B9.named
  have hlocks := B9.notSynchronized
  have hK := hKK.k
  have hS : va_S (fun q => B ≤ q) s.heap s.heap [] := va_S.rf
  obtain ⟨Q, hQ⟩ : ∃ Q, Q = MQ below (va_Qv (fun μ2 => ∃ (la9 k9 : Nat) (g9 : Nat → Int64), μ2 = mu (mu μ h (.inr (0, [.int (nI 158), .int (nI 157), .ref la9, .int (nI (158 * k9))]))) la9 (.inl (G.2 0, 158 * k9 + 158, .inr (.inl g9))) ∧ k9 ≤ 1022 ∧ (la9 = la ∨ μ la9 = none) ∧ k9 = gr k) (BB G B) (fun q => B ≤ q)) args s 1 (2 * (158 * k + 158)) (fun q => B ≤ q) := ⟨_, rfl⟩
  rw [← hQ]
  have ne0_1 : h ≠ la := mp_ne hh ha (by simp)
  have in_X0_growTwofold_X0 : ∀ w ∈ wsX00, w ∈ wsX0_growTwofold := by decide +kernel
  have hP : mw G.1 vwCl B (mu μ h (.inr (0, [.int (nI 158), .int (nI 157), .ref la, .int (nI (158 * k))]))) s.heap := mw_eq (mu_i hh).symm hP
  have L56 : ∀ (N56 : Nat) (i1 : Nat) (q9 : Nat) (g1 : Nat → Int64) (hN56 : 158 - i1 < N56) (hi : i1 ≤ 158) (hk2 : k + 1 < 512) (hqn : μ q9 = none), ∀ (H : Heap) (locs : List Loc), mw G.1 vwCl B (mu (mu μ h (.inr (0, [.int (nI 158), .int (nI 157), .ref q9, .int (nI (158 * (2 * k + 1)))]))) q9 (.inl (G.2 0, 158 * (2 * k + 1) + 158, .inr (.inl g1)))) H → va_S (fun q => B ≤ q) s.heap H locs → ∀ ls : Array Slot, lv_has ls 3 [(0, .ref h), (1, .int (nI (158 * k))), (2, .int (nI i1))] → W p l e (rm_X0_growTwofold k) s m args below meth c H locs 1 (2 * (158 * k + 158)) Q (F0 m 56 ls []) := by
    intro N56
    induction N56 with
    | zero => intro i1 q9 g1 hN56; exact absurd hN56 (Nat.not_lt_zero _)
    | succ N56 ih56 =>
      intro i1 q9 g1 hN56 hi hk2 hqn H locs hP hS ls hl
      refine lv_iload_n hx hb dX0_growTwofold_56 rfl (lv_at hl 2 rfl) ?_
      refine lv_aload_n hx hb dX0_growTwofold_57 rfl (lv_at hl 0 rfl) ?_
      refine mw_get (C := RX0) (T := TX0) (N := 4) hx hb hts in_X0_growTwofold_X0 hown hK hP ((mu_n ((mp_nn hh hqn))).trans (mu_s _ _ _)) rfl 0 (by decide) (hts (.fieldLink RX0 15 "OctagonDesk$Numbers" "cells" "I") (by decide +kernel)) (fun _ h9 => h9) rfl dX0_growTwofold_58 ?_
      refine nv_icmp_ge (tgt := 76) hx hb (by omega) (by omega) dX0_growTwofold_61 (by decide) (fun hc61 => ?_) (fun hc61 => ?_)
      · rw [hQ]
        refine W.widen (k := 1) (n := 2 * (158 * k + 158)) (by omega) (by omega) ?_
        exact W.vret hx hb hr (fun t99 ht99 hW99 => ⟨⟨mu (mu μ h (.inr (0, [.int (nI 158), .int (nI 157), .ref q9, .int (nI (158 * (2 * k + 1)))]))) q9 (.inl (G.2 0, 158 * (2 * k + 1) + 158, .inr (.inl g1))), rfl, (⟨q9, 2 * k + 1, _, rfl, by omega, Or.inr hqn, by rw [gr, if_pos hk2]⟩), by show mw _ _ _ _ t99.heap; rw [ht99]; exact hP⟩, hS.F ht99⟩) hS.2.2 dX0_growTwofold_76
      · refine lv_aload_n hx hb dX0_growTwofold_64 rfl (lv_at hl 0 rfl) ?_
        refine lv_iload_n hx hb dX0_growTwofold_65 rfl (lv_at hl 2 rfl) ?_
        refine lv_iload_n hx hb dX0_growTwofold_66 rfl (lv_at hl 1 rfl) ?_
        refine kc_v (va_runV (As := [.int (nI i1), .int (nI (158 * k))]) (rest := []) ⟨hx, hb, hml, hown, hts⟩ (c_X0_extend l G B (mu (mu μ h (.inr (0, [.int (nI 158), .int (nI 157), .ref q9, .int (nI (158 * (2 * k + 1)))]))) q9 (.inl (G.2 0, 158 * (2 * k + 1) + 158, .inr (.inl g1)))) h q9 ((2 * k + 1)) g1 i1 k ((mu_n ((mp_nn hh hqn))).trans (mu_s _ _ _)) (mu_s _ _ _) (by omega) (by omega) (by omega)) (cwV 2 hts gX0_growTwofold_X0_extend rfl rfl rfl (by decide +kernel) ⟨Nat.le_of_ble_eq_true rfl, Nat.le_of_ble_eq_true rfl⟩) ⟨KW.blind, hP.recv hK rfl ((mu_n ((mp_nn hh hqn))).trans (mu_s _ _ _)), fun U9 hU9 hW9 => ⟨rfl, KW.pre hBs hKK hS hP U9 hU9 hW9⟩⟩ rfl rfl hl.1 rfl (lv_room (Nat.le_of_ble_eq_true rfl)) dX0_growTwofold_67 ⟨(Nat.le_of_ble_eq_true rfl), (Nat.le_trans (m := 2 * (158 * k + 158)) (by omega) (Nat.le_refl _))⟩) hS (fun m67 H locs hq9 hP hz9 hS => ?_)
        obtain ⟨g67, rfl⟩ := hq9
        have hP : mw G.1 vwCl B (mu (mu μ h (.inr (0, [.int (nI 158), .int (nI 157), .ref q9, .int (nI (158 * (2 * k + 1)))]))) q9 (.inl (G.2 0, 158 * (2 * k + 1) + 158, .inr (.inl g67)))) _ := mw_eq (mu_u _ _ _ _) hP
        refine lv_iinc (v := nI (i1 + 1)) (lv' := [(2, .int (nI (i1 + 1))), (0, .ref h), (1, .int (nI (158 * k)))]) hx hb dX0_growTwofold_70 hl (k := 2) rfl (nI_add _ _) (by decide) rfl (fun ls hl => ?_)
        refine lv_goto (tgt := 56) hx hb dX0_growTwofold_73 (by decide) ?_
        refine W.widen (k := 1) (n := 2 * (158 * k + 158)) (by omega) (by omega) ?_
        exact ih56 (i1 + 1) q9 g67 (by omega) (by omega) (by omega) (hqn) _ _ hP hS ls (lv_sub hl [1, 2, 0] rfl)
  have hl := lv_entry ([.ref h]) (n := 3) (Nat.le_of_ble_eq_true rfl)
  have he9 : entryFrame m args 3 = entryFrame m ([.ref h] : List Value).toArray 3 := by rw [hargs]
  rw [he9, lg_entry_eq]
  generalize (lg_sl ([.ref h]) ++ List.replicate (3 - (lg_sl ([.ref h])).length) Slot.unset).toArray = ls at hl ⊢
  have hl : lv_has ls 3 [(0, .ref h)] := hl
  refine lv_aload_n hx hb dX0_growTwofold_0 rfl (lv_at hl 0 rfl) ?_
  refine mw_get (C := RX0) (T := TX0) (N := 4) hx hb hts in_X0_growTwofold_X0 hown hK hP (mu_s _ _ _) rfl 2 (by decide) (hts (.fieldLink RX0 18 "OctagonDesk$Numbers" "limbs" "[J") (by decide +kernel)) (fun _ h9 => h9) rfl dX0_growTwofold_1 ?_
  refine mw_alen hx hb hK hP 0 ((mu_n ((Ne.symm ne0_1))).trans (ha)) rfl dX0_growTwofold_4 ?_
  refine lv_sipush (v := nI 512) hx hb dX0_growTwofold_5 (by decide) ?_
  refine lv_aload_n hx hb dX0_growTwofold_8 rfl (lv_at hl 0 rfl) ?_
  refine mw_get (C := RX0) (T := TX0) (N := 4) hx hb hts in_X0_growTwofold_X0 hown hK hP (mu_s _ _ _) rfl 0 (by decide) (hts (.fieldLink RX0 15 "OctagonDesk$Numbers" "cells" "I") (by decide +kernel)) (fun _ h9 => h9) rfl dX0_growTwofold_9 ?_
  refine nv_imul hx hb dX0_growTwofold_12 ?_
  refine nv_icmp_lt (tgt := 17) hx hb (by omega) (by omega) dX0_growTwofold_13 (by decide) (fun hc13 => ?_) (fun hc13 => ?_)
  · refine lv_aload_n hx hb dX0_growTwofold_17 rfl (lv_at hl 0 rfl) ?_
    refine mw_get (C := RX0) (T := TX0) (N := 4) hx hb hts in_X0_growTwofold_X0 hown hK hP (mu_s _ _ _) rfl 3 (by decide) (hts (.fieldLink RX0 22 "OctagonDesk$Numbers" "top" "I") (by decide +kernel)) (fun _ h9 => h9) rfl dX0_growTwofold_18 ?_
    refine lv_istore_n (lv' := [(1, .int (nI (158 * k))), (0, .ref h)]) hx hb dX0_growTwofold_21 rfl hl (by decide) rfl (fun ls hl => ?_)
    refine lv_aload_n hx hb dX0_growTwofold_22 rfl (lv_at hl 1 rfl) ?_
    refine lv_aload_n hx hb dX0_growTwofold_23 rfl (lv_at hl 1 rfl) ?_
    refine mw_get (C := RX0) (T := TX0) (N := 4) hx hb hts in_X0_growTwofold_X0 hown hK hP (mu_s _ _ _) rfl 2 (by decide) (hts (.fieldLink RX0 18 "OctagonDesk$Numbers" "limbs" "[J") (by decide +kernel)) (fun _ h9 => h9) rfl dX0_growTwofold_24 ?_
    refine lv_iconst (v := nI 2) hx hb dX0_growTwofold_27 (by decide) ?_
    refine lv_aload_n hx hb dX0_growTwofold_28 rfl (lv_at hl 1 rfl) ?_
    refine mw_get (C := RX0) (T := TX0) (N := 4) hx hb hts in_X0_growTwofold_X0 hown hK hP (mu_s _ _ _) rfl 2 (by decide) (hts (.fieldLink RX0 18 "OctagonDesk$Numbers" "limbs" "[J") (by decide +kernel)) (fun _ h9 => h9) rfl dX0_growTwofold_29 ?_
    refine mw_alen hx hb hK hP 0 ((mu_n ((Ne.symm ne0_1))).trans (ha)) rfl dX0_growTwofold_32 ?_
    refine nv_imul hx hb dX0_growTwofold_33 ?_
    refine kc_r (va_runS (As := [.ref la, .int (nI (2 * (158 * k + 158)))]) (rest := [.ref h]) ⟨hx, hb, hml, hown, hts⟩ (c_J7_copyOf_c38d5 l G B (mu μ h (.inr (0, [.int (nI 158), .int (nI 157), .ref la, .int (nI (158 * k))]))) la (158 * k + 158) f ((mu_n ((Ne.symm ne0_1))).trans (ha)) (by omega) (by omega)) (va_cwS 2 hts gX0_growTwofold_J7_copyOf_c38d5 rfl rfl rfl (by decide +kernel) ⟨Nat.le_of_ble_eq_true rfl, Nat.le_of_ble_eq_true rfl⟩) ⟨KW.blind, fun U9 hU9 hW9 => ⟨rfl, KW.pre hBs hKK hS hP U9 hU9 hW9⟩⟩ rfl rfl hl.1 rfl (lv_room (Nat.le_of_ble_eq_true rfl)) dX0_growTwofold_34 ⟨(Nat.le_of_ble_eq_true rfl), (Nat.le_trans (m := 2 * (158 * k + 158)) (by omega) (Nat.le_refl _))⟩) hS (fun m34 r34 H locs hq9 hP hz9 hS => ?_)
    obtain ⟨hn34, g34, rfl⟩ := hq9
    have nqh_r34 : h ≠ r34 := mp_nn (mu_s _ _ _) hn34
    have nqla_r34 : la ≠ r34 := mp_nn ((mu_n ((Ne.symm ne0_1))).trans (ha)) hn34
    have hP : mw G.1 vwCl B (mu (mu μ h (.inr (0, [.int (nI 158), .int (nI 157), .ref la, .int (nI (158 * k))]))) r34 (.inl (G.2 0, 2 * (158 * k + 158), .inr (.inl g34)))) _ := hP
    refine mw_put (ty := .array .long) (v := .ref r34) (C := RX0) (T := TX0) (N := 4) hx hb hts in_X0_growTwofold_X0 tyX0 tyX0_ok nmX0 hown hK hP hS ((mu_n nqh_r34).trans (mu_s _ _ _)) rfl 2 (by decide) (hts (.fieldLink RX0 18 "OctagonDesk$Numbers" "limbs" "[J") (by decide +kernel)) (fun _ h9 => h9) rfl (by decide +kernel) (by first | rfl | decide +kernel) (by first | rfl | decide +kernel) (Nat.le_of_ble_eq_true rfl) dX0_growTwofold_37 (fun H locs hP hS => ?_)
    have hP : mw G.1 vwCl B (mu (mu μ h (.inr (0, [.int (nI 158), .int (nI 157), .ref r34, .int (nI (158 * k))]))) r34 (.inl (G.2 0, 2 * (158 * k + 158), .inr (.inl g34)))) _ := mw_eq ((mu_c _ _ ((Ne.symm nqh_r34))).trans (congrArg (fun z => mu z r34 (.inl (G.2 0, 2 * (158 * k + 158), .inr (.inl g34)))) (mu_u _ _ _ _))) hP
    rw [show 2 * (158 * k + 158) = 158 * (2 * k + 1) + 158 by omega] at hP
    have hP : mw G.1 vwCl B (mu (mu μ h (.inr (0, [.int (nI 158), .int (nI 157), .ref r34, .int (nI (158 * k))]))) r34 (.inl (G.2 0, 158 * (2 * k + 1) + 158, .inr (.inl g34)))) _ := hP
    refine lv_aload_n hx hb dX0_growTwofold_40 rfl (lv_at hl 1 rfl) ?_
    refine lv_aload_n hx hb dX0_growTwofold_41 rfl (lv_at hl 1 rfl) ?_
    refine mw_get (C := RX0) (T := TX0) (N := 4) hx hb hts in_X0_growTwofold_X0 hown hK hP ((mu_n nqh_r34).trans (mu_s _ _ _)) rfl 2 (by decide) (hts (.fieldLink RX0 18 "OctagonDesk$Numbers" "limbs" "[J") (by decide +kernel)) (fun _ h9 => h9) rfl dX0_growTwofold_42 ?_
    refine mw_alen hx hb hK hP 0 (mu_s _ _ _) rfl dX0_growTwofold_45 ?_
    refine lv_aload_n hx hb dX0_growTwofold_46 rfl (lv_at hl 1 rfl) ?_
    refine mw_get (C := RX0) (T := TX0) (N := 4) hx hb hts in_X0_growTwofold_X0 hown hK hP ((mu_n nqh_r34).trans (mu_s _ _ _)) rfl 0 (by decide) (hts (.fieldLink RX0 15 "OctagonDesk$Numbers" "cells" "I") (by decide +kernel)) (fun _ h9 => h9) rfl dX0_growTwofold_47 ?_
    refine nv_isub hx hb (by omega) dX0_growTwofold_50 ?_
    refine nv_eqi (y := nI (158 * (2 * k + 1))) (congrArg nI (by omega)) ?_
    refine mw_put (ty := .int) (v := .int (nI (158 * (2 * k + 1)))) (C := RX0) (T := TX0) (N := 4) hx hb hts in_X0_growTwofold_X0 tyX0 tyX0_ok nmX0 hown hK hP hS ((mu_n nqh_r34).trans (mu_s _ _ _)) rfl 3 (by decide) (hts (.fieldLink RX0 22 "OctagonDesk$Numbers" "top" "I") (by decide +kernel)) (fun _ h9 => h9) rfl (by decide +kernel) (by first | rfl | decide +kernel) (by first | rfl | decide +kernel) (Nat.le_of_ble_eq_true rfl) dX0_growTwofold_51 (fun H locs hP hS => ?_)
    have hP : mw G.1 vwCl B (mu (mu μ h (.inr (0, [.int (nI 158), .int (nI 157), .ref r34, .int (nI (158 * (2 * k + 1)))]))) r34 (.inl (G.2 0, 158 * (2 * k + 1) + 158, .inr (.inl g34)))) _ := mw_eq ((mu_c _ _ ((Ne.symm nqh_r34))).trans (congrArg (fun z => mu z r34 (.inl (G.2 0, 158 * (2 * k + 1) + 158, .inr (.inl g34)))) (mu_u _ _ _ _))) hP
    refine lv_iconst (v := nI 0) hx hb dX0_growTwofold_54 (by decide) ?_
    refine lv_istore_n (lv' := [(2, .int (nI 0)), (1, .int (nI (158 * k))), (0, .ref h)]) hx hb dX0_growTwofold_55 rfl hl (by decide) rfl (fun ls hl => ?_)
    refine W.widen (k := 1) (n := 2 * (158 * k + 158)) (by omega) (by omega) ?_
    exact L56 _ 0 r34 g34 (Nat.lt_succ_self _) (by omega) (by omega) ((mu_none hn34).2) _ _ hP hS ls (lv_sub hl [2, 1, 0] rfl)
  · rw [hQ]
    refine W.widen (k := 1) (n := 2 * (158 * k + 158)) (by omega) (by omega) ?_
    exact W.vret hx hb hr (fun t99 ht99 hW99 => ⟨⟨mu μ h (.inr (0, [.int (nI 158), .int (nI 157), .ref la, .int (nI (158 * k))])), rfl, (⟨la, k, f, (mu_i ((mu_n (Ne.symm ne0_1)).trans ha)).symm, hk, Or.inl rfl, by rw [gr, if_neg (by omega)]⟩), by show mw _ _ _ _ t99.heap; rw [ht99]; exact hP⟩, hS.F ht99⟩) hS.2.2 dX0_growTwofold_16
