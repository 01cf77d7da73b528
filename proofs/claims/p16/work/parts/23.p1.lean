abbrev rv_X0_setInfinite : Room := { frames := 0, cells := 0, slots := 0, locals := 0 }
set_option maxHeartbeats 4000000 in
set_option maxRecDepth 100000 in
theorem v_X0_setInfinite (l : Launch) (G : GG) (B : Nat) (μ : mp) (h la k : Nat) (f : Nat → Int64) (i : Nat) (hh : μ h = some (.inr (0, [.int (nI 158), .int (nI 157), .ref la, .int (nI (158 * k))]))) (ha : μ la = some (.inl (G.2 0, 158 * k + 158, .inr (.inl f)))) (hk : k ≤ 1022) (hi : i < 158) : Met l yX0_setInfinite wsX0_setInfinite rv_X0_setInfinite (va_Pc [.ref h, .int (nI i)] (KW G B μ)) (va_Qv (fun μ2 => ∃ g9 : Nat → Int64, μ2 = mu μ la (.inl (G.2 0, 158 * k + 158, .inr (.inl g9))) ∧ (Off i f g9 ∧ g9 (158 * k + i) = INF)) (BB G B) (fun q => B ≤ q)) 0 0 (fun q => B ≤ q) := by
  refine Met.ofW (cc := cX0_setInfinite) (maxL := 3) (ret := none) (by decide) rfl ?_
  intro p e s m args below meth c s₁ B9 hml hv
  obtain ⟨hargs, hBs, hP, hKK⟩ := hv
  have hx := B9.exec
  have hb := B9.bytes
  have hr := B9.returns
  have hts := atoms_spec (ws := wsX0_setInfinite) B9.pre
  have hown : s.vm.findClass RX0 = some m.cls := findClass_of_methodNamed B9.named
  have hlocks := B9.notSynchronized
  have hK := hKK.k
  have hS : va_S (fun q => B ≤ q) s.heap s.heap [] := va_S.rf
  obtain ⟨Q, hQ⟩ : ∃ Q, Q = MQ below (va_Qv (fun μ2 => ∃ g9 : Nat → Int64, μ2 = mu μ la (.inl (G.2 0, 158 * k + 158, .inr (.inl g9))) ∧ (Off i f g9 ∧ g9 (158 * k + i) = INF)) (BB G B) (fun q => B ≤ q)) args s 0 0 (fun q => B ≤ q) := ⟨_, rfl⟩
  rw [← hQ]
  have ne0_1 : h ≠ la := mp_ne hh ha (by simp)
  have in_X0_setInfinite_X0 : ∀ w ∈ wsX00, w ∈ wsX0_setInfinite := by decide +kernel
  have hP : mw G.1 vwCl B (mu μ la (.inl (G.2 0, 158 * k + 158, .inr (.inl f)))) s.heap := mw_eq (mu_i ha).symm hP
  have L2 : ∀ (N2 : Nat) (a : Nat) (q : Nat) (g : Nat → Int64) (hN2 : k - q < N2) (ha4 : a = 158 * q) (hq : q ≤ k) (hz : Off i f g), ∀ (H : Heap) (locs : List Loc), mw G.1 vwCl B (mu μ la (.inl (G.2 0, 158 * k + 158, .inr (.inl g)))) H → va_S (fun q => B ≤ q) s.heap H locs → ∀ ls : Array Slot, lv_has ls 3 [(0, .ref h), (1, .int (nI i)), (2, .int (nI a))] → W p l e rv_X0_setInfinite s m args below meth c H locs 0 0 Q (F0 m 2 ls []) := by
    intro N2
    induction N2 with
    | zero => intro a q g hN2; exact absurd hN2 (Nat.not_lt_zero _)
    | succ N2 ih2 =>
      intro a q g hN2 ha4 hq hz H locs hP hS ls hl
      refine lv_iload_n hx hb dX0_setInfinite_2 rfl (lv_at hl 2 rfl) ?_
      refine lv_aload_n hx hb dX0_setInfinite_3 rfl (lv_at hl 0 rfl) ?_
      refine mw_get (C := RX0) (T := TX0) (N := 4) hx hb hts in_X0_setInfinite_X0 hown hK hP ((mu_n ne0_1).trans (hh)) rfl 3 (by decide) (hts (.fieldLink RX0 22 "OctagonDesk$Numbers" "top" "I") (by decide +kernel)) (fun _ h9 => h9) rfl dX0_setInfinite_4 ?_
      refine nv_icmp_ge (tgt := 29) hx hb (by omega) (by omega) dX0_setInfinite_7 (by decide) (fun hc7 => ?_) (fun hc7 => ?_)
      · refine lv_aload_n hx hb dX0_setInfinite_29 rfl (lv_at hl 0 rfl) ?_
        refine mw_get (C := RX0) (T := TX0) (N := 4) hx hb hts in_X0_setInfinite_X0 hown hK hP ((mu_n ne0_1).trans (hh)) rfl 2 (by decide) (hts (.fieldLink RX0 18 "OctagonDesk$Numbers" "limbs" "[J") (by decide +kernel)) (fun _ h9 => h9) rfl dX0_setInfinite_30 ?_
        refine lv_aload_n hx hb dX0_setInfinite_33 rfl (lv_at hl 0 rfl) ?_
        refine mw_get (C := RX0) (T := TX0) (N := 4) hx hb hts in_X0_setInfinite_X0 hown hK hP ((mu_n ne0_1).trans (hh)) rfl 3 (by decide) (hts (.fieldLink RX0 22 "OctagonDesk$Numbers" "top" "I") (by decide +kernel)) (fun _ h9 => h9) rfl dX0_setInfinite_34 ?_
        refine lv_iload_n hx hb dX0_setInfinite_37 rfl (lv_at hl 1 rfl) ?_
        refine nv_iadd hx hb dX0_setInfinite_38 ?_
        refine lv_ldc2 (v := (9223372036854775807)) hx hb hown (hts (.constantLong RX0 25 (9223372036854775807)) (by decide +kernel)) dX0_setInfinite_39 ?_
        refine mw_last hx hb hK hP hS 0 (mu_s _ _ _) rfl (by omega) (by omega) dX0_setInfinite_42 (fun H locs hP hS => ?_)
        have hP : mw G.1 vwCl B (mu μ la (.inl (G.2 0, 158 * k + 158, .inr (.inl (vp_updL g ((158 * k) + i) 9223372036854775807))))) _ := mw_eq (mu_u _ _ _ _) hP
        rw [hQ]
        exact W.vret hx hb hr (fun t99 ht99 hW99 => ⟨⟨mu μ la (.inl (G.2 0, 158 * k + 158, .inr (.inl (vp_updL g ((158 * k) + i) 9223372036854775807)))), rfl, (⟨_, rfl, hz.up hi, pk_uLs⟩), by show mw _ _ _ _ t99.heap; rw [ht99]; exact hP⟩, hS.F ht99⟩) hS.2.2 dX0_setInfinite_43
      · refine lv_aload_n hx hb dX0_setInfinite_10 rfl (lv_at hl 0 rfl) ?_
        refine mw_get (C := RX0) (T := TX0) (N := 4) hx hb hts in_X0_setInfinite_X0 hown hK hP ((mu_n ne0_1).trans (hh)) rfl 2 (by decide) (hts (.fieldLink RX0 18 "OctagonDesk$Numbers" "limbs" "[J") (by decide +kernel)) (fun _ h9 => h9) rfl dX0_setInfinite_11 ?_
        refine lv_iload_n hx hb dX0_setInfinite_14 rfl (lv_at hl 2 rfl) ?_
        refine lv_iload_n hx hb dX0_setInfinite_15 rfl (lv_at hl 1 rfl) ?_
        refine nv_iadd hx hb dX0_setInfinite_16 ?_
        refine lv_lconst (v := 0) hx hb dX0_setInfinite_17 (by decide) ?_
        refine mw_last hx hb hK hP hS 0 (mu_s _ _ _) rfl (by omega) (by omega) dX0_setInfinite_18 (fun H locs hP hS => ?_)
        have hP : mw G.1 vwCl B (mu μ la (.inl (G.2 0, 158 * k + 158, .inr (.inl (vp_updL g (a + i) 0))))) _ := mw_eq (mu_u _ _ _ _) hP
        refine lv_iload_n hx hb dX0_setInfinite_19 rfl (lv_at hl 2 rfl) ?_
        refine lv_aload_n hx hb dX0_setInfinite_20 rfl (lv_at hl 0 rfl) ?_
        refine mw_get (C := RX0) (T := TX0) (N := 4) hx hb hts in_X0_setInfinite_X0 hown hK hP ((mu_n ne0_1).trans (hh)) rfl 0 (by decide) (hts (.fieldLink RX0 15 "OctagonDesk$Numbers" "cells" "I") (by decide +kernel)) (fun _ h9 => h9) rfl dX0_setInfinite_21 ?_
        refine nv_iadd hx hb dX0_setInfinite_24 ?_
        refine lv_istore_n (lv' := [(2, .int (nI (a + 158))), (0, .ref h), (1, .int (nI i))]) hx hb dX0_setInfinite_25 rfl hl (by decide) rfl (fun ls hl => ?_)
        refine lv_goto (tgt := 2) hx hb dX0_setInfinite_26 (by decide) ?_
        exact ih2 (a + 158) (q + 1) (vp_updL g (a + i) 0) (by omega) (by omega) (by omega) (by subst ha4; exact hz.up hi) _ _ hP hS ls (lv_sub hl [1, 2, 0] rfl)
  have hl := lv_entry ([.ref h, .int (nI i)]) (n := 3) (Nat.le_of_ble_eq_true rfl)
  have he9 : entryFrame m args 3 = entryFrame m ([.ref h, .int (nI i)] : List Value).toArray 3 := by rw [hargs]
  rw [he9, lg_entry_eq]
  generalize (lg_sl ([.ref h, .int (nI i)]) ++ List.replicate (3 - (lg_sl ([.ref h, .int (nI i)])).length) Slot.unset).toArray = ls at hl ⊢
  have hl : lv_has ls 3 [(0, .ref h), (1, .int (nI i))] := hl
  refine lv_iconst (v := nI 0) hx hb dX0_setInfinite_0 (by decide) ?_
  refine lv_istore_n (lv' := [(2, .int (nI 0)), (0, .ref h), (1, .int (nI i))]) hx hb dX0_setInfinite_1 rfl hl (by decide) rfl (fun ls hl => ?_)
  exact L2 _ 0 0 f (Nat.lt_succ_self _) (by omega) (by omega) (Off.rf _ _) _ _ hP hS ls (lv_sub hl [1, 2, 0] rfl)

abbrev rv_X0_putHalf : Room := { frames := 1, cells := 0, slots := 0, locals := 22 }
set_option maxHeartbeats 4000000 in
set_option maxRecDepth 100000 in
theorem v_X0_putHalf (l : Launch) (G : GG) (B : Nat) (μ : mp) (h la k : Nat) (f : Nat → Int64) (to i : Nat) (hh : μ h = some (.inr (0, [.int (nI 158), .int (nI 157), .ref la, .int (nI (158 * k))]))) (ha : μ la = some (.inl (G.2 0, 158 * k + 158, .inr (.inl f)))) (hk : k ≤ 1022) (ht : to < 158) (hi : i < 158) (hne : i ≠ to) : Met l yX0_putHalf wsX0_putHalf rv_X0_putHalf (va_Pc [.ref h, .int (nI to), .int (nI i)] (KW G B μ)) (va_Qv (fun μ2 => ∃ g9 : Nat → Int64, μ2 = mu μ la (.inl (G.2 0, 158 * k + 158, .inr (.inl g9))) ∧ HP k f g9 to i) (BB G B) (fun q => B ≤ q)) 0 0 (fun q => B ≤ q) := by
  refine Met.ofW (cc := cX0_putHalf) (maxL := 8) (ret := none) (by decide) rfl ?_
  intro p e s m args below meth c s₁ B9 hml hv
  obtain ⟨hargs, hBs, hP, hKK⟩ := hv
  have hx := B9.exec
  have hb := B9.bytes
  have hr := B9.returns
  have hts := atoms_spec (ws := wsX0_putHalf) B9.pre
  have hown : s.vm.findClass RX0 = some m.cls := findClass_of_methodNamed B9.named
  have hlocks := B9.notSynchronized
  have hK := hKK.k
  have hS : va_S (fun q => B ≤ q) s.heap s.heap [] := va_S.rf
  obtain ⟨Q, hQ⟩ : ∃ Q, Q = MQ below (va_Qv (fun μ2 => ∃ g9 : Nat → Int64, μ2 = mu μ la (.inl (G.2 0, 158 * k + 158, .inr (.inl g9))) ∧ HP k f g9 to i) (BB G B) (fun q => B ≤ q)) args s 0 0 (fun q => B ≤ q) := ⟨_, rfl⟩
  rw [← hQ]
  have ne0_1 : h ≠ la := mp_ne hh ha (by simp)
  have in_X0_putHalf_X0 : ∀ w ∈ wsX00, w ∈ wsX0_putHalf := by decide +kernel
  have hP : mw G.1 vwCl B (mu μ la (.inl (G.2 0, 158 * k + 158, .inr (.inl f)))) s.heap := mw_eq (mu_i ha).symm hP
  have L63 : ∀ (N63 : Nat) (a : Int32) (q : Nat) (x : Int64) (g : Nat → Int64) (hN63 : q < N63) (ha4 : a = dn q) (hq : q ≤ k) (hnI : ¬ f (158 * k + i) = INF) (hz : HZ f g to i k q x), ∀ (H : Heap) (locs : List Loc), mw G.1 vwCl B (mu μ la (.inl (G.2 0, 158 * k + 158, .inr (.inl g)))) H → va_S (fun q => B ≤ q) s.heap H locs → ∀ ls : Array Slot, lv_has ls 8 [(0, .ref h), (1, .int (nI to)), (2, .int (nI i)), (3, .long x), (5, .int a)] → W p l e rv_X0_putHalf s m args below meth c H locs 0 0 Q (F0 m 63 ls []) := by
    intro N63
    induction N63 with
    | zero => intro a q x g hN63; exact absurd hN63 (Nat.not_lt_zero _)
    | succ N63 ih63 =>
      intro a q x g hN63 ha4 hq hnI hz H locs hP hS ls hl
      rcases q with _ | q
      · have ha4 : a = -158 := ha4
        subst ha4
        refine lv_iload hx hb dX0_putHalf_63 (lv_at hl 4 rfl) ?_
        refine lv_if_lt (tgt := 114) hx hb dX0_putHalf_65 (by decide) (fun hc65 => ?_) (fun hc65 => ?_)
        · rw [hQ]
          exact W.vret hx hb hr (fun t99 ht99 hW99 => ⟨⟨mu μ la (.inl (G.2 0, 158 * k + 158, .inr (.inl g))), rfl, (⟨_, rfl, hz.1, fun h9 => absurd h9 hnI, fun _ n hn => hz.2.1 n hn (Nat.zero_le _)⟩), by show mw _ _ _ _ t99.heap; rw [ht99]; exact hP⟩, hS.F ht99⟩) hS.2.2 dX0_putHalf_114
        · exact absurd (by decide : (-158 : Int32) < 0) hc65
      · have ha4 : a = nI (158 * q) := ha4
        subst ha4
        refine lv_iload hx hb dX0_putHalf_63 (lv_at hl 4 rfl) ?_
        refine lv_if_lt (tgt := 114) hx hb dX0_putHalf_65 (by decide) (fun hc65 => ?_) (fun hc65 => ?_)
        · exact absurd hc65 (nI_pos (by omega))
        · refine lv_aload_n hx hb dX0_putHalf_68 rfl (lv_at hl 0 rfl) ?_
          refine mw_get (C := RX0) (T := TX0) (N := 4) hx hb hts in_X0_putHalf_X0 hown hK hP ((mu_n ne0_1).trans (hh)) rfl 2 (by decide) (hts (.fieldLink RX0 18 "OctagonDesk$Numbers" "limbs" "[J") (by decide +kernel)) (fun _ h9 => h9) rfl dX0_putHalf_69 ?_
          refine lv_iload hx hb dX0_putHalf_72 (lv_at hl 4 rfl) ?_
          refine lv_iload_n hx hb dX0_putHalf_74 rfl (lv_at hl 2 rfl) ?_
          refine nv_iadd hx hb dX0_putHalf_75 ?_
          refine mw_lald hx hb hK hP 0 (mu_s _ _ _) rfl (by omega) (by omega) dX0_putHalf_76 ?_
          refine lv_lload_n hx hb dX0_putHalf_77 rfl (lv_at hl 3 rfl) ?_
          refine lv_bipush (v := nI 60) hx hb dX0_putHalf_78 (by decide) ?_
          refine lv_lshl (v := x <<< ((nI 60).toInt64 &&& 63)) hx hb dX0_putHalf_80 rfl ?_
          refine lv_ladd hx hb dX0_putHalf_81 ?_
          refine lv_topl (fun v82 ev82 => ?_)
          refine lv_lstore (lv' := [(6, .long v82), (0, .ref h), (1, .int (nI to)), (2, .int (nI i)), (3, .long x), (5, .int (nI (158 * q)))]) hx hb dX0_putHalf_82 hl (by decide) rfl (fun ls hl => ?_)
          refine lv_lload hx hb dX0_putHalf_84 (lv_at hl 0 rfl) ?_
          refine lv_lconst (v := 1) hx hb dX0_putHalf_86 (by decide) ?_
          refine lv_land hx hb dX0_putHalf_87 ?_
          refine lv_topl (fun v88 ev88 => ?_)
          refine lv_lstore_n (lv' := [(3, .long v88), (6, .long v82), (0, .ref h), (1, .int (nI to)), (2, .int (nI i)), (5, .int (nI (158 * q)))]) hx hb dX0_putHalf_88 rfl hl (by decide) rfl (fun ls hl => ?_)
          refine lv_aload_n hx hb dX0_putHalf_89 rfl (lv_at hl 2 rfl) ?_
          refine mw_get (C := RX0) (T := TX0) (N := 4) hx hb hts in_X0_putHalf_X0 hown hK hP ((mu_n ne0_1).trans (hh)) rfl 2 (by decide) (hts (.fieldLink RX0 18 "OctagonDesk$Numbers" "limbs" "[J") (by decide +kernel)) (fun _ h9 => h9) rfl dX0_putHalf_90 ?_
          refine lv_iload hx hb dX0_putHalf_93 (lv_at hl 5 rfl) ?_
          refine lv_iload_n hx hb dX0_putHalf_95 rfl (lv_at hl 3 rfl) ?_
          refine nv_iadd hx hb dX0_putHalf_96 ?_
          refine lv_lload hx hb dX0_putHalf_97 (lv_at hl 1 rfl) ?_
          refine lv_iconst (v := nI 1) hx hb dX0_putHalf_99 (by decide) ?_
          refine lv_lshr (v := v82 >>> ((nI 1).toInt64 &&& 63)) hx hb dX0_putHalf_100 rfl ?_
          refine lv_topl (fun v101 ev101 => ?_)
          refine mw_last hx hb hK hP hS 0 (mu_s _ _ _) rfl (by omega) (by omega) dX0_putHalf_101 (fun H locs hP hS => ?_)
          have hP : mw G.1 vwCl B (mu μ la (.inl (G.2 0, 158 * k + 158, .inr (.inl (vp_updL g ((158 * q) + to) v101))))) _ := mw_eq (mu_u _ _ _ _) hP
          refine lv_iload hx hb dX0_putHalf_102 (lv_at hl 5 rfl) ?_
          refine lv_aload_n hx hb dX0_putHalf_104 rfl (lv_at hl 2 rfl) ?_
          refine mw_get (C := RX0) (T := TX0) (N := 4) hx hb hts in_X0_putHalf_X0 hown hK hP ((mu_n ne0_1).trans (hh)) rfl 0 (by decide) (hts (.fieldLink RX0 15 "OctagonDesk$Numbers" "cells" "I") (by decide +kernel)) (fun _ h9 => h9) rfl dX0_putHalf_105 ?_
          refine lv_isub hx hb dX0_putHalf_108 ?_
          refine lv_topi (fun v109 ev109 => ?_)
          refine lv_istore (lv' := [(5, .int v109), (3, .long v88), (6, .long v82), (0, .ref h), (1, .int (nI to)), (2, .int (nI i))]) hx hb dX0_putHalf_109 hl (by decide) rfl (fun ls hl => ?_)
          refine lv_goto (tgt := 63) hx hb dX0_putHalf_111 (by decide) ?_
          exact ih63 v109 q v88 (vp_updL g ((158 * q) + to) v101) (by omega) (by rw [ev109]; exact dn_sub _) (by omega) (hnI) (by rw [ev101, ev88]; exact hz.s (by omega) hi ht hne ev82) _ _ hP hS ls (lv_sub hl [3, 4, 5, 1, 0] rfl)
  have hl := lv_entry ([.ref h, .int (nI to), .int (nI i)]) (n := 8) (Nat.le_of_ble_eq_true rfl)
  have he9 : entryFrame m args 8 = entryFrame m ([.ref h, .int (nI to), .int (nI i)] : List Value).toArray 8 := by rw [hargs]
  rw [he9, lg_entry_eq]
  generalize (lg_sl ([.ref h, .int (nI to), .int (nI i)]) ++ List.replicate (8 - (lg_sl ([.ref h, .int (nI to), .int (nI i)])).length) Slot.unset).toArray = ls at hl ⊢
  have hl : lv_has ls 8 [(0, .ref h), (1, .int (nI to)), (2, .int (nI i))] := hl
  refine lv_aload_n hx hb dX0_putHalf_0 rfl (lv_at hl 0 rfl) ?_
  refine lv_iload_n hx hb dX0_putHalf_1 rfl (lv_at hl 2 rfl) ?_
  refine kc_i (va_runV (As := [.int (nI i)]) (rest := []) ⟨hx, hb, hml, hown, hts⟩ (c_X0_isInfinite l G B (mu μ la (.inl (G.2 0, 158 * k + 158, .inr (.inl f)))) h la k f i ((mu_n ne0_1).trans (hh)) (mu_s _ _ _) (by omega) (by omega)) (cwV 1 hts gX0_putHalf_X0_isInfinite rfl rfl rfl (by decide +kernel) ⟨Nat.le_of_ble_eq_true rfl, Nat.le_of_ble_eq_true rfl⟩) ⟨KW.blind, hP.recv hK rfl ((mu_n ne0_1).trans (hh)), fun U9 hU9 hW9 => ⟨rfl, KW.pre hBs hKK hS hP U9 hU9 hW9⟩⟩ rfl rfl hl.1 rfl (lv_room (Nat.le_of_ble_eq_true rfl)) dX0_putHalf_2 ⟨(Nat.le_of_ble_eq_true rfl), (Nat.le_of_ble_eq_true rfl)⟩) hS (fun r2 m2 H locs hq9 hP hz9 hS => ?_)
  obtain ⟨he9, hr2⟩ := hq9
  rw [he9] at hP
  refine lv_if_eq (tgt := 14) hx hb dX0_putHalf_5 (by decide) (fun hc5 => ?_) (fun hc5 => ?_)
  · refine lv_aload_n hx hb dX0_putHalf_14 rfl (lv_at hl 0 rfl) ?_
    refine mw_get (C := RX0) (T := TX0) (N := 4) hx hb hts in_X0_putHalf_X0 hown hK hP ((mu_n ne0_1).trans (hh)) rfl 2 (by decide) (hts (.fieldLink RX0 18 "OctagonDesk$Numbers" "limbs" "[J") (by decide +kernel)) (fun _ h9 => h9) rfl dX0_putHalf_15 ?_
    refine lv_aload_n hx hb dX0_putHalf_18 rfl (lv_at hl 0 rfl) ?_
    refine mw_get (C := RX0) (T := TX0) (N := 4) hx hb hts in_X0_putHalf_X0 hown hK hP ((mu_n ne0_1).trans (hh)) rfl 3 (by decide) (hts (.fieldLink RX0 22 "OctagonDesk$Numbers" "top" "I") (by decide +kernel)) (fun _ h9 => h9) rfl dX0_putHalf_19 ?_
    refine lv_iload_n hx hb dX0_putHalf_22 rfl (lv_at hl 2 rfl) ?_
    refine nv_iadd hx hb dX0_putHalf_23 ?_
    refine mw_lald hx hb hK hP 0 (mu_s _ _ _) rfl (by omega) (by omega) dX0_putHalf_24 ?_
    refine lv_lconst (v := 1) hx hb dX0_putHalf_25 (by decide) ?_
    refine lv_land hx hb dX0_putHalf_26 ?_
    refine lv_topl (fun v27 ev27 => ?_)
    refine lv_lstore_n (lv' := [(3, .long v27), (0, .ref h), (1, .int (nI to)), (2, .int (nI i))]) hx hb dX0_putHalf_27 rfl hl (by decide) rfl (fun ls hl => ?_)
    refine lv_aload_n hx hb dX0_putHalf_28 rfl (lv_at hl 1 rfl) ?_
    refine mw_get (C := RX0) (T := TX0) (N := 4) hx hb hts in_X0_putHalf_X0 hown hK hP ((mu_n ne0_1).trans (hh)) rfl 2 (by decide) (hts (.fieldLink RX0 18 "OctagonDesk$Numbers" "limbs" "[J") (by decide +kernel)) (fun _ h9 => h9) rfl dX0_putHalf_29 ?_
    refine lv_aload_n hx hb dX0_putHalf_32 rfl (lv_at hl 1 rfl) ?_
    refine mw_get (C := RX0) (T := TX0) (N := 4) hx hb hts in_X0_putHalf_X0 hown hK hP ((mu_n ne0_1).trans (hh)) rfl 3 (by decide) (hts (.fieldLink RX0 22 "OctagonDesk$Numbers" "top" "I") (by decide +kernel)) (fun _ h9 => h9) rfl dX0_putHalf_33 ?_
    refine lv_iload_n hx hb dX0_putHalf_36 rfl (lv_at hl 2 rfl) ?_
    refine nv_iadd hx hb dX0_putHalf_37 ?_
    refine lv_aload_n hx hb dX0_putHalf_38 rfl (lv_at hl 1 rfl) ?_
    refine mw_get (C := RX0) (T := TX0) (N := 4) hx hb hts in_X0_putHalf_X0 hown hK hP ((mu_n ne0_1).trans (hh)) rfl 2 (by decide) (hts (.fieldLink RX0 18 "OctagonDesk$Numbers" "limbs" "[J") (by decide +kernel)) (fun _ h9 => h9) rfl dX0_putHalf_39 ?_
    refine lv_aload_n hx hb dX0_putHalf_42 rfl (lv_at hl 1 rfl) ?_
    refine mw_get (C := RX0) (T := TX0) (N := 4) hx hb hts in_X0_putHalf_X0 hown hK hP ((mu_n ne0_1).trans (hh)) rfl 3 (by decide) (hts (.fieldLink RX0 22 "OctagonDesk$Numbers" "top" "I") (by decide +kernel)) (fun _ h9 => h9) rfl dX0_putHalf_43 ?_
    refine lv_iload_n hx hb dX0_putHalf_46 rfl (lv_at hl 3 rfl) ?_
    refine nv_iadd hx hb dX0_putHalf_47 ?_
    refine mw_lald hx hb hK hP 0 (mu_s _ _ _) rfl (by omega) (by omega) dX0_putHalf_48 ?_
    refine lv_iconst (v := nI 1) hx hb dX0_putHalf_49 (by decide) ?_
    refine lv_lshr (v := (f ((158 * k) + i)) >>> ((nI 1).toInt64 &&& 63)) hx hb dX0_putHalf_50 rfl ?_
    refine lv_topl (fun v51 ev51 => ?_)
    refine mw_last hx hb hK hP hS 0 (mu_s _ _ _) rfl (by omega) (by omega) dX0_putHalf_51 (fun H locs hP hS => ?_)
    have hP : mw G.1 vwCl B (mu μ la (.inl (G.2 0, 158 * k + 158, .inr (.inl (vp_updL f ((158 * k) + to) v51))))) _ := mw_eq (mu_u _ _ _ _) hP
    refine lv_aload_n hx hb dX0_putHalf_52 rfl (lv_at hl 1 rfl) ?_
    refine mw_get (C := RX0) (T := TX0) (N := 4) hx hb hts in_X0_putHalf_X0 hown hK hP ((mu_n ne0_1).trans (hh)) rfl 3 (by decide) (hts (.fieldLink RX0 22 "OctagonDesk$Numbers" "top" "I") (by decide +kernel)) (fun _ h9 => h9) rfl dX0_putHalf_53 ?_
    refine lv_aload_n hx hb dX0_putHalf_56 rfl (lv_at hl 1 rfl) ?_
    refine mw_get (C := RX0) (T := TX0) (N := 4) hx hb hts in_X0_putHalf_X0 hown hK hP ((mu_n ne0_1).trans (hh)) rfl 0 (by decide) (hts (.fieldLink RX0 15 "OctagonDesk$Numbers" "cells" "I") (by decide +kernel)) (fun _ h9 => h9) rfl dX0_putHalf_57 ?_
    refine lv_isub hx hb dX0_putHalf_60 ?_
    refine lv_topi (fun v61 ev61 => ?_)
    refine lv_istore (lv' := [(5, .int v61), (3, .long v27), (0, .ref h), (1, .int (nI to)), (2, .int (nI i))]) hx hb dX0_putHalf_61 hl (by decide) rfl (fun ls hl => ?_)
    exact L63 _ v61 k v27 (vp_updL f ((158 * k) + to) v51) (Nat.lt_succ_self _) (by rw [ev61]; exact dn_sub _) (by omega) (pi_0 hr2 hc5) (by rw [ev27, ev51]; exact HZ.z ht) _ _ hP hS ls (lv_sub hl [2, 3, 4, 1, 0] rfl)
  · refine lv_aload_n hx hb dX0_putHalf_8 rfl (lv_at hl 0 rfl) ?_
    refine lv_iload_n hx hb dX0_putHalf_9 rfl (lv_at hl 1 rfl) ?_
    refine kc_v (va_runV (As := [.int (nI to)]) (rest := []) ⟨hx, hb, hml, hown, hts⟩ (v_X0_setInfinite l G B (mu μ la (.inl (G.2 0, 158 * k + 158, .inr (.inl f)))) h la k f to ((mu_n ne0_1).trans (hh)) (mu_s _ _ _) (by omega) (by omega)) (cwV 1 hts gX0_putHalf_X0_setInfinite rfl rfl rfl (by decide +kernel) ⟨Nat.le_of_ble_eq_true rfl, Nat.le_of_ble_eq_true rfl⟩) ⟨KW.blind, hP.recv hK rfl ((mu_n ne0_1).trans (hh)), fun U9 hU9 hW9 => ⟨rfl, KW.pre hBs hKK hS hP U9 hU9 hW9⟩⟩ rfl rfl hl.1 rfl (lv_room (Nat.le_of_ble_eq_true rfl)) dX0_putHalf_10 ⟨(Nat.le_of_ble_eq_true rfl), (Nat.le_of_ble_eq_true rfl)⟩) hS (fun m10 H locs hq9 hP hz9 hS => ?_)
    obtain ⟨g10, rfl, ho10, hi10⟩ := hq9
    have hP : mw G.1 vwCl B (mu μ la (.inl (G.2 0, 158 * k + 158, .inr (.inl g10)))) _ := mw_eq (mu_u _ _ _ _) hP
    rw [hQ]
    exact W.vret hx hb hr (fun t99 ht99 hW99 => ⟨⟨mu μ la (.inl (G.2 0, 158 * k + 158, .inr (.inl g10))), rfl, (⟨_, rfl, ho10, fun _ => hi10, fun h9 => absurd (pi_2 hr2 hc5) h9⟩), by show mw _ _ _ _ t99.heap; rw [ht99]; exact hP⟩, hS.F ht99⟩) hS.2.2 dX0_putHalf_13

abbrev rv_X0_nearestLong : Room := { frames := 0, cells := 0, slots := 0, locals := 0 }
set_option maxHeartbeats 4000000 in
set_option maxRecDepth 100000 in
theorem v_X0_nearestLong (l : Launch) (G : GG) (B : Nat) (μ : mp) (h la k : Nat) (f : Nat → Int64) (i : Nat) (hh : μ h = some (.inr (0, [.int (nI 158), .int (nI 157), .ref la, .int (nI (158 * k))]))) (ha : μ la = some (.inl (G.2 0, 158 * k + 158, .inr (.inl f)))) (hk : k ≤ 1022) (hi : i < 158) : Met l yX0_nearestLong wsX0_nearestLong rv_X0_nearestLong (va_Pc [.ref h, .int (nI i)] (KW G B μ)) (va_Ql (fun r μ2 => μ2 = μ ∧ r = NLk k f i) (BB G B) (fun q => B ≤ q)) 0 0 (fun q => B ≤ q) := by
  refine Met.ofW (cc := cX0_nearestLong) (maxL := 5) (ret := (some .long)) (by decide) rfl ?_
  intro p e s m args below meth c s₁ B9 hml hv
  obtain ⟨hargs, hBs, hP, hKK⟩ := hv
  have hx := B9.exec
  have hb := B9.bytes
  have hr := B9.returns
  have hts := atoms_spec (ws := wsX0_nearestLong) B9.pre
  have hown : s.vm.findClass RX0 = some m.cls := findClass_of_methodNamed B9.named
  have hlocks := B9.notSynchronized
  have hK := hKK.k
  have hS : va_S (fun q => B ≤ q) s.heap s.heap [] := va_S.rf
  obtain ⟨Q, hQ⟩ : ∃ Q, Q = MQ below (va_Ql (fun r μ2 => μ2 = μ ∧ r = NLk k f i) (BB G B) (fun q => B ≤ q)) args s 0 0 (fun q => B ≤ q) := ⟨_, rfl⟩
  rw [← hQ]
  have ne0_1 : h ≠ la := mp_ne hh ha (by simp)
  have in_X0_nearestLong_X0 : ∀ w ∈ wsX00, w ∈ wsX0_nearestLong := by decide +kernel
  have L35 : ∀ (N35 : Nat) (a : Int32) (q : Nat) (x : Int64) (hN35 : q < N35) (ha4 : a = dn q) (hq : q ≤ k) (hnI : ¬ f (158 * k + i) = INF) (hz : nlr f i q x = nlr f i k (f (158 * k + i))), ∀ (H : Heap) (locs : List Loc), mw G.1 vwCl B (μ) H → va_S (fun q => B ≤ q) s.heap H locs → ∀ ls : Array Slot, lv_has ls 5 [(0, .ref h), (1, .int (nI i)), (2, .long x), (4, .int a)] → W p l e rv_X0_nearestLong s m args below meth c H locs 0 0 Q (F0 m 35 ls []) := by
    intro N35
    induction N35 with
    | zero => intro a q x hN35; exact absurd hN35 (Nat.not_lt_zero _)
    | succ N35 ih35 =>
      intro a q x hN35 ha4 hq hnI hz H locs hP hS ls hl
      rcases q with _ | q
      · have ha4 : a = -158 := ha4
        subst ha4
        refine lv_iload hx hb dX0_nearestLong_35 (lv_at hl 3 rfl) ?_
        refine lv_if_lt (tgt := 91) hx hb dX0_nearestLong_37 (by decide) (fun hc37 => ?_) (fun hc37 => ?_)
        · refine lv_lload_n hx hb dX0_nearestLong_91 rfl (lv_at hl 2 rfl) ?_
          rw [hQ]
          exact W.lret (v := x) hx hb hr (fun t99 ht99 hW99 => ⟨⟨x, μ, rfl, (⟨rfl, by rw [NLk, if_neg hnI, ← hz]; exact (rfl).symm⟩), by show mw _ _ _ _ t99.heap; rw [ht99]; exact hP⟩, hS.F ht99⟩) hS.2.2 dX0_nearestLong_92
        · exact absurd (by decide : (-158 : Int32) < 0) hc37
      · have ha4 : a = nI (158 * q) := ha4
        subst ha4
        refine lv_iload hx hb dX0_nearestLong_35 (lv_at hl 3 rfl) ?_
        refine lv_if_lt (tgt := 91) hx hb dX0_nearestLong_37 (by decide) (fun hc37 => ?_) (fun hc37 => ?_)
        · exact absurd hc37 (nI_pos (by omega))
        · refine lv_lload_n hx hb dX0_nearestLong_40 rfl (lv_at hl 2 rfl) ?_
          refine lv_ldc2 (v := (7)) hx hb hown (hts (.constantLong RX0 27 (7)) (by decide +kernel)) dX0_nearestLong_41 ?_
          refine nl_if_le (tgt := 52) hx hb dX0_nearestLong_44 dX0_nearestLong_45 (by decide) (fun hc44 => ?_) (fun hc44 => ?_)
          · refine lv_lload_n hx hb dX0_nearestLong_52 rfl (lv_at hl 2 rfl) ?_
            refine lv_ldc2 (v := (-8)) hx hb hown (hts (.constantLong RX0 29 (-8)) (by decide +kernel)) dX0_nearestLong_53 ?_
            refine nl_if_ge (tgt := 64) hx hb dX0_nearestLong_56 dX0_nearestLong_57 (by decide) (fun hc56 => ?_) (fun hc56 => ?_)
            · refine lv_lload_n hx hb dX0_nearestLong_64 rfl (lv_at hl 2 rfl) ?_
              refine lv_bipush (v := nI 60) hx hb dX0_nearestLong_65 (by decide) ?_
              refine lv_lshl (v := x <<< ((nI 60).toInt64 &&& 63)) hx hb dX0_nearestLong_67 rfl ?_
              refine lv_aload_n hx hb dX0_nearestLong_68 rfl (lv_at hl 0 rfl) ?_
              refine mw_get (C := RX0) (T := TX0) (N := 4) hx hb hts in_X0_nearestLong_X0 hown hK hP (hh) rfl 2 (by decide) (hts (.fieldLink RX0 18 "OctagonDesk$Numbers" "limbs" "[J") (by decide +kernel)) (fun _ h9 => h9) rfl dX0_nearestLong_69 ?_
              refine lv_iload hx hb dX0_nearestLong_72 (lv_at hl 3 rfl) ?_
              refine lv_iload_n hx hb dX0_nearestLong_74 rfl (lv_at hl 1 rfl) ?_
              refine nv_iadd hx hb dX0_nearestLong_75 ?_
              refine mw_lald hx hb hK hP 0 (ha) rfl (by omega) (by omega) dX0_nearestLong_76 ?_
              refine lv_ladd hx hb dX0_nearestLong_77 ?_
              refine lv_topl (fun v78 ev78 => ?_)
              refine lv_lstore_n (lv' := [(2, .long v78), (0, .ref h), (1, .int (nI i)), (4, .int (nI (158 * q)))]) hx hb dX0_nearestLong_78 rfl hl (by decide) rfl (fun ls hl => ?_)
              refine lv_iload hx hb dX0_nearestLong_79 (lv_at hl 3 rfl) ?_
              refine lv_aload_n hx hb dX0_nearestLong_81 rfl (lv_at hl 1 rfl) ?_
              refine mw_get (C := RX0) (T := TX0) (N := 4) hx hb hts in_X0_nearestLong_X0 hown hK hP (hh) rfl 0 (by decide) (hts (.fieldLink RX0 15 "OctagonDesk$Numbers" "cells" "I") (by decide +kernel)) (fun _ h9 => h9) rfl dX0_nearestLong_82 ?_
              refine lv_isub hx hb dX0_nearestLong_85 ?_
              refine lv_topi (fun v86 ev86 => ?_)
              refine lv_istore (lv' := [(4, .int v86), (2, .long v78), (0, .ref h), (1, .int (nI i))]) hx hb dX0_nearestLong_86 hl (by decide) rfl (fun ls hl => ?_)
              refine lv_goto (tgt := 35) hx hb dX0_nearestLong_88 (by decide) ?_
              exact ih35 v86 q v78 (by omega) (by rw [ev86]; exact dn_sub _) (by omega) (hnI) (by rw [← hz]; exact (nlr_s hc44 hc56 ev78).symm) _ _ hP hS ls (lv_sub hl [2, 3, 1, 0] rfl)
            · refine lv_ldc2 (v := (-9223372036854775808)) hx hb hown (hts (.constantLong RX0 31 (-9223372036854775808)) (by decide +kernel)) dX0_nearestLong_60 ?_
              rw [hQ]
              exact W.lret (v := (-9223372036854775808)) hx hb hr (fun t99 ht99 hW99 => ⟨⟨(-9223372036854775808), μ, rfl, (⟨rfl, by rw [NLk, if_neg hnI, ← hz]; exact (nlr_l hc44 hc56).symm⟩), by show mw _ _ _ _ t99.heap; rw [ht99]; exact hP⟩, hS.F ht99⟩) hS.2.2 dX0_nearestLong_63
          · refine lv_ldc2 (v := (9223372036854775807)) hx hb hown (hts (.constantLong RX0 25 (9223372036854775807)) (by decide +kernel)) dX0_nearestLong_48 ?_
            rw [hQ]
            exact W.lret (v := 9223372036854775807) hx hb hr (fun t99 ht99 hW99 => ⟨⟨9223372036854775807, μ, rfl, (⟨rfl, by rw [NLk, if_neg hnI, ← hz]; exact (nlr_h hc44).symm⟩), by show mw _ _ _ _ t99.heap; rw [ht99]; exact hP⟩, hS.F ht99⟩) hS.2.2 dX0_nearestLong_51
  have hl := lv_entry ([.ref h, .int (nI i)]) (n := 5) (Nat.le_of_ble_eq_true rfl)
  have he9 : entryFrame m args 5 = entryFrame m ([.ref h, .int (nI i)] : List Value).toArray 5 := by rw [hargs]
  rw [he9, lg_entry_eq]
  generalize (lg_sl ([.ref h, .int (nI i)]) ++ List.replicate (5 - (lg_sl ([.ref h, .int (nI i)])).length) Slot.unset).toArray = ls at hl ⊢
  have hl : lv_has ls 5 [(0, .ref h), (1, .int (nI i))] := hl
  refine lv_aload_n hx hb dX0_nearestLong_0 rfl (lv_at hl 0 rfl) ?_
  refine mw_get (C := RX0) (T := TX0) (N := 4) hx hb hts in_X0_nearestLong_X0 hown hK hP (hh) rfl 2 (by decide) (hts (.fieldLink RX0 18 "OctagonDesk$Numbers" "limbs" "[J") (by decide +kernel)) (fun _ h9 => h9) rfl dX0_nearestLong_1 ?_
  refine lv_aload_n hx hb dX0_nearestLong_4 rfl (lv_at hl 0 rfl) ?_
  refine mw_get (C := RX0) (T := TX0) (N := 4) hx hb hts in_X0_nearestLong_X0 hown hK hP (hh) rfl 3 (by decide) (hts (.fieldLink RX0 22 "OctagonDesk$Numbers" "top" "I") (by decide +kernel)) (fun _ h9 => h9) rfl dX0_nearestLong_5 ?_
  refine lv_iload_n hx hb dX0_nearestLong_8 rfl (lv_at hl 1 rfl) ?_
  refine nv_iadd hx hb dX0_nearestLong_9 ?_
  refine mw_lald hx hb hK hP 0 (ha) rfl (by omega) (by omega) dX0_nearestLong_10 ?_
  refine lv_topl (fun v11 ev11 => ?_)
  refine lv_lstore_n (lv' := [(2, .long v11), (0, .ref h), (1, .int (nI i))]) hx hb dX0_nearestLong_11 rfl hl (by decide) rfl (fun ls hl => ?_)
  refine lv_lload_n hx hb dX0_nearestLong_12 rfl (lv_at hl 0 rfl) ?_
  refine lv_ldc2 (v := (9223372036854775807)) hx hb hown (hts (.constantLong RX0 25 (9223372036854775807)) (by decide +kernel)) dX0_nearestLong_13 ?_
  refine nl_if_ne (tgt := 24) hx hb dX0_nearestLong_16 dX0_nearestLong_17 (by decide) (fun hc16 => ?_) (fun hc16 => ?_)
  · refine lv_aload_n hx hb dX0_nearestLong_24 rfl (lv_at hl 1 rfl) ?_
    refine mw_get (C := RX0) (T := TX0) (N := 4) hx hb hts in_X0_nearestLong_X0 hown hK hP (hh) rfl 3 (by decide) (hts (.fieldLink RX0 22 "OctagonDesk$Numbers" "top" "I") (by decide +kernel)) (fun _ h9 => h9) rfl dX0_nearestLong_25 ?_
    refine lv_aload_n hx hb dX0_nearestLong_28 rfl (lv_at hl 1 rfl) ?_
    refine mw_get (C := RX0) (T := TX0) (N := 4) hx hb hts in_X0_nearestLong_X0 hown hK hP (hh) rfl 0 (by decide) (hts (.fieldLink RX0 15 "OctagonDesk$Numbers" "cells" "I") (by decide +kernel)) (fun _ h9 => h9) rfl dX0_nearestLong_29 ?_
    refine lv_isub hx hb dX0_nearestLong_32 ?_
    refine lv_topi (fun v33 ev33 => ?_)
    refine lv_istore (lv' := [(4, .int v33), (2, .long v11), (0, .ref h), (1, .int (nI i))]) hx hb dX0_nearestLong_33 hl (by decide) rfl (fun ls hl => ?_)
    exact L35 _ v33 k v11 (Nat.lt_succ_self _) (by rw [ev33]; exact dn_sub _) (by omega) (by rw [ev11] at hc16; exact hc16) (by rw [ev11]) _ _ hP hS ls (lv_sub hl [2, 3, 1, 0] rfl)
  · refine lv_ldc2 (v := (9223372036854775807)) hx hb hown (hts (.constantLong RX0 25 (9223372036854775807)) (by decide +kernel)) dX0_nearestLong_20 ?_
    rw [hQ]
    exact W.lret (v := 9223372036854775807) hx hb hr (fun t99 ht99 hW99 => ⟨⟨9223372036854775807, μ, rfl, (⟨rfl, by rw [ev11] at hc16; rw [NLk, if_pos hc16]⟩), by show mw _ _ _ _ t99.heap; rw [ht99]; exact hP⟩, hS.F ht99⟩) hS.2.2 dX0_nearestLong_23

abbrev rv_X1_mostOf : Room := { frames := 2, cells := 0, slots := 0, locals := 49 }
set_option maxHeartbeats 4000000 in
set_option maxRecDepth 100000 in
theorem v_X1_mostOf (l : Launch) (G : GG) (B : Nat) (μ : mp) (h hn la k b : Nat) (f : Nat → Int64) (p9 q9 : Nat) (hh : μ h = some (.inr (1, [.ref hn, .int (nI b)]))) (hhn : μ hn = some (.inr (0, [.int (nI 158), .int (nI 157), .ref la, .int (nI (158 * k))]))) (ha : μ la = some (.inl (G.2 0, 158 * k + 158, .inr (.inl f)))) (hk : k ≤ 1022) (hp9 : p9 < 12) (hq9a : q9 < 12) : Met l yX1_mostOf wsX1_mostOf rv_X1_mostOf (va_Pc [.ref h, .int (nI p9), .int (nI q9)] (KW G B μ)) (va_Ql (fun r μ2 => ∃ g9 : Nat → Int64, μ2 = mu μ la (.inl (G.2 0, 158 * k + 158, .inr (.inl g9))) ∧ Off 156 f g9 ∧ r = MV k f p9 q9) (BB G B) (fun q => B ≤ q)) 0 0 (fun q => B ≤ q) := by
  refine Met.ofW (cc := cX1_mostOf) (maxL := 3) (ret := (some .long)) (by decide) rfl ?_
  intro p e s m args below meth c s₁ B9 hml hv
  obtain ⟨hargs, hBs, hP, hKK⟩ := hv
  have hx := B9.exec
  have hb := B9.bytes
  have hr := B9.returns
  have hts := atoms_spec (ws := wsX1_mostOf) B9.pre
  have hown : s.vm.findClass RX1 = some m.cls := findClass_of_methodNamed B9.named
  have hlocks := B9.notSynchronized
  have hK := hKK.k
  have hS : va_S (fun q => B ≤ q) s.heap s.heap [] := va_S.rf
  obtain ⟨Q, hQ⟩ : ∃ Q, Q = MQ below (va_Ql (fun r μ2 => ∃ g9 : Nat → Int64, μ2 = mu μ la (.inl (G.2 0, 158 * k + 158, .inr (.inl g9))) ∧ Off 156 f g9 ∧ r = MV k f p9 q9) (BB G B) (fun q => B ≤ q)) args s 0 0 (fun q => B ≤ q) := ⟨_, rfl⟩
  rw [← hQ]
  have ne0_1 : h ≠ hn := mp_ne hh hhn (by simp)
  have ne0_2 : h ≠ la := mp_ne hh ha (by simp)
  have ne1_2 : hn ≠ la := mp_ne hhn ha (by simp)
  have in_X1_mostOf_X1 : ∀ w ∈ wsX10, w ∈ wsX1_mostOf := by decide +kernel
  have hP : mw G.1 vwCl B (mu μ la (.inl (G.2 0, 158 * k + 158, .inr (.inl f)))) s.heap := mw_eq (mu_i ha).symm hP
  have hl := lv_entry ([.ref h, .int (nI p9), .int (nI q9)]) (n := 3) (Nat.le_of_ble_eq_true rfl)
  have he9 : entryFrame m args 3 = entryFrame m ([.ref h, .int (nI p9), .int (nI q9)] : List Value).toArray 3 := by rw [hargs]
  rw [he9, lg_entry_eq]
  generalize (lg_sl ([.ref h, .int (nI p9), .int (nI q9)]) ++ List.replicate (3 - (lg_sl ([.ref h, .int (nI p9), .int (nI q9)])).length) Slot.unset).toArray = ls at hl ⊢
  have hl : lv_has ls 3 [(0, .ref h), (1, .int (nI p9)), (2, .int (nI q9))] := hl
  refine lv_iload_n hx hb dX1_mostOf_0 rfl (lv_at hl 1 rfl) ?_
  refine lv_iload_n hx hb dX1_mostOf_1 rfl (lv_at hl 2 rfl) ?_
  refine nv_icmp_eq (tgt := 18) hx hb (by omega) (by omega) dX1_mostOf_2 (by decide) (fun hc2 => ?_) (fun hc2 => ?_)
  · refine lv_aload_n hx hb dX1_mostOf_18 rfl (lv_at hl 0 rfl) ?_
    refine mw_get (C := RX1) (T := TX1) (N := 2) hx hb hts in_X1_mostOf_X1 hown hK hP ((mu_n ne0_2).trans (hh)) rfl 0 (by decide) (hts (.fieldLink RX1 16 "OctagonDesk$Shape" "numbers" "LOctagonDesk$Numbers;") (by decide +kernel)) (fun _ h9 => h9) rfl dX1_mostOf_19 ?_
    refine lv_sipush (v := nI 156) hx hb dX1_mostOf_22 (by decide) ?_
    refine lv_iload_n hx hb dX1_mostOf_25 rfl (lv_at hl 1 rfl) ?_
    refine lv_iload_n hx hb dX1_mostOf_26 rfl (lv_at hl 1 rfl) ?_
    refine kc_i (va_runS (As := [.int (nI p9), .int (nI p9)]) (rest := [.int (nI 156), .ref hn]) ⟨hx, hb, hml, hown, hts⟩ (c_X1_cell l G B (mu μ la (.inl (G.2 0, 158 * k + 158, .inr (.inl f)))) p9 p9) (va_cwS 2 hts gX1_mostOf_X1_cell rfl rfl rfl (by decide +kernel) ⟨Nat.le_of_ble_eq_true rfl, Nat.le_of_ble_eq_true rfl⟩) ⟨KW.blind, fun U9 hU9 hW9 => ⟨rfl, KW.pre hBs hKK hS hP U9 hU9 hW9⟩⟩ rfl rfl hl.1 rfl (lv_room (Nat.le_of_ble_eq_true rfl)) dX1_mostOf_27 ⟨(Nat.le_of_ble_eq_true rfl), (Nat.le_of_ble_eq_true rfl)⟩) hS (fun r27 m27 H locs hq9 hP hz9 hS => ?_)
    obtain ⟨he9, rfl⟩ := hq9
    rw [he9] at hP
    refine kc_v (va_runV (As := [.int (nI 156), .int (nI (p9 * 12 + p9))]) (rest := []) ⟨hx, hb, hml, hown, hts⟩ (v_X0_putHalf l G B (mu μ la (.inl (G.2 0, 158 * k + 158, .inr (.inl f)))) hn la k f 156 (p9 * 12 + p9) ((mu_n ne1_2).trans (hhn)) (mu_s _ _ _) (by omega) (by omega) (by omega) (by omega)) (cwV 2 hts gX1_mostOf_X0_putHalf rfl rfl rfl (by decide +kernel) ⟨Nat.le_of_ble_eq_true rfl, Nat.le_of_ble_eq_true rfl⟩) ⟨KW.blind, hP.recv hK rfl ((mu_n ne1_2).trans (hhn)), fun U9 hU9 hW9 => ⟨rfl, KW.pre hBs hKK hS hP U9 hU9 hW9⟩⟩ rfl rfl hl.1 rfl (lv_room (Nat.le_of_ble_eq_true rfl)) dX1_mostOf_30 ⟨(Nat.le_of_ble_eq_true rfl), (Nat.le_of_ble_eq_true rfl)⟩) hS (fun m30 H locs hq9 hP hz9 hS => ?_)
    obtain ⟨g30, rfl, hg30⟩ := hq9
    have hP : mw G.1 vwCl B (mu μ la (.inl (G.2 0, 158 * k + 158, .inr (.inl g30)))) _ := mw_eq (mu_u _ _ _ _) hP
    refine lv_aload_n hx hb dX1_mostOf_33 rfl (lv_at hl 0 rfl) ?_
    refine mw_get (C := RX1) (T := TX1) (N := 2) hx hb hts in_X1_mostOf_X1 hown hK hP ((mu_n ne0_2).trans (hh)) rfl 0 (by decide) (hts (.fieldLink RX1 16 "OctagonDesk$Shape" "numbers" "LOctagonDesk$Numbers;") (by decide +kernel)) (fun _ h9 => h9) rfl dX1_mostOf_34 ?_
    refine lv_sipush (v := nI 156) hx hb dX1_mostOf_37 (by decide) ?_
    refine kc_l (va_runV (As := [.int (nI 156)]) (rest := []) ⟨hx, hb, hml, hown, hts⟩ (v_X0_nearestLong l G B (mu μ la (.inl (G.2 0, 158 * k + 158, .inr (.inl g30)))) hn la k g30 156 ((mu_n ne1_2).trans (hhn)) (mu_s _ _ _) (by omega) (by omega)) (cwV 1 hts gX1_mostOf_X0_nearestLong rfl rfl rfl (by decide +kernel) ⟨Nat.le_of_ble_eq_true rfl, Nat.le_of_ble_eq_true rfl⟩) ⟨KW.blind, hP.recv hK rfl ((mu_n ne1_2).trans (hhn)), fun U9 hU9 hW9 => ⟨rfl, KW.pre hBs hKK hS hP U9 hU9 hW9⟩⟩ rfl rfl hl.1 rfl (lv_room (Nat.le_of_ble_eq_true rfl)) dX1_mostOf_40 ⟨(Nat.le_of_ble_eq_true rfl), (Nat.le_of_ble_eq_true rfl)⟩) hS (fun r40 m40 H locs hq9 hP hz9 hS => ?_)
    obtain ⟨he9, hr40⟩ := hq9
    rw [he9] at hP
    rw [hQ]
    exact W.lret (v := r40) hx hb hr (fun t99 ht99 hW99 => ⟨⟨r40, mu μ la (.inl (G.2 0, 158 * k + 158, .inr (.inl g30))), rfl, (⟨_, rfl, hg30.1, by rw [hr40]; exact MV_h hc2 hg30⟩), by show mw _ _ _ _ t99.heap; rw [ht99]; exact hP⟩, hS.F ht99⟩) hS.2.2 dX1_mostOf_43
  · refine lv_aload_n hx hb dX1_mostOf_5 rfl (lv_at hl 0 rfl) ?_
    refine mw_get (C := RX1) (T := TX1) (N := 2) hx hb hts in_X1_mostOf_X1 hown hK hP ((mu_n ne0_2).trans (hh)) rfl 0 (by decide) (hts (.fieldLink RX1 16 "OctagonDesk$Shape" "numbers" "LOctagonDesk$Numbers;") (by decide +kernel)) (fun _ h9 => h9) rfl dX1_mostOf_6 ?_
    refine lv_iload_n hx hb dX1_mostOf_9 rfl (lv_at hl 1 rfl) ?_
    refine lv_iload_n hx hb dX1_mostOf_10 rfl (lv_at hl 2 rfl) ?_
    refine kc_i (va_runS (As := [.int (nI p9), .int (nI q9)]) (rest := [.ref hn]) ⟨hx, hb, hml, hown, hts⟩ (c_X1_cell l G B (mu μ la (.inl (G.2 0, 158 * k + 158, .inr (.inl f)))) p9 q9) (va_cwS 2 hts gX1_mostOf_X1_cell rfl rfl rfl (by decide +kernel) ⟨Nat.le_of_ble_eq_true rfl, Nat.le_of_ble_eq_true rfl⟩) ⟨KW.blind, fun U9 hU9 hW9 => ⟨rfl, KW.pre hBs hKK hS hP U9 hU9 hW9⟩⟩ rfl rfl hl.1 rfl (lv_room (Nat.le_of_ble_eq_true rfl)) dX1_mostOf_11 ⟨(Nat.le_of_ble_eq_true rfl), (Nat.le_of_ble_eq_true rfl)⟩) hS (fun r11 m11 H locs hq9 hP hz9 hS => ?_)
    obtain ⟨he9, rfl⟩ := hq9
    rw [he9] at hP
    refine kc_l (va_runV (As := [.int (nI (p9 * 12 + q9))]) (rest := []) ⟨hx, hb, hml, hown, hts⟩ (v_X0_nearestLong l G B (mu μ la (.inl (G.2 0, 158 * k + 158, .inr (.inl f)))) hn la k f (p9 * 12 + q9) ((mu_n ne1_2).trans (hhn)) (mu_s _ _ _) (by omega) (by omega)) (cwV 1 hts gX1_mostOf_X0_nearestLong rfl rfl rfl (by decide +kernel) ⟨Nat.le_of_ble_eq_true rfl, Nat.le_of_ble_eq_true rfl⟩) ⟨KW.blind, hP.recv hK rfl ((mu_n ne1_2).trans (hhn)), fun U9 hU9 hW9 => ⟨rfl, KW.pre hBs hKK hS hP U9 hU9 hW9⟩⟩ rfl rfl hl.1 rfl (lv_room (Nat.le_of_ble_eq_true rfl)) dX1_mostOf_14 ⟨(Nat.le_of_ble_eq_true rfl), (Nat.le_of_ble_eq_true rfl)⟩) hS (fun r14 m14 H locs hq9 hP hz9 hS => ?_)
    obtain ⟨he9, hr14⟩ := hq9
    rw [he9] at hP
    rw [hQ]
    exact W.lret (v := r14) hx hb hr (fun t99 ht99 hW99 => ⟨⟨r14, mu μ la (.inl (G.2 0, 158 * k + 158, .inr (.inl f))), rfl, (⟨_, rfl, Off.rf _ _, by rw [hr14]; exact MV_n hc2⟩), by show mw _ _ _ _ t99.heap; rw [ht99]; exact hP⟩, hS.F ht99⟩) hS.2.2 dX1_mostOf_17

abbrev rv_X3_madeFitsTheBox : Room := { frames := 3, cells := 0, slots := 0, locals := 71 }
set_option maxHeartbeats 4000000 in
set_option maxRecDepth 100000 in
theorem v_X3_madeFitsTheBox (l : Launch) (G : GG) (B : Nat) (μ : mp) (d aS s2 aT aO aL aR n2 l2 k sc b : Nat) (f : Nat → Int64) (hd : μ d = some (.inr (3, [.ref aS, .ref s2, .ref aT, .ref aO, .int (nI sc), .ref aL, .ref aR]))) (hs2 : μ s2 = some (.inr (1, [.ref n2, .int (nI b)]))) (hn2 : μ n2 = some (.inr (0, [.int (nI 158), .int (nI 157), .ref l2, .int (nI (158 * k))]))) (hl2 : μ l2 = some (.inl (G.2 0, 158 * k + 158, .inr (.inl f)))) (hk : k ≤ 1022) : Met l yX3_madeFitsTheBox wsX3_madeFitsTheBox rv_X3_madeFitsTheBox (va_Pc [.ref d] (KW G B μ)) (va_Qi (fun r μ2 => (r = 0 ∨ r = 1) ∧ ∃ g9 : Nat → Int64, μ2 = mu μ l2 (.inl (G.2 0, 158 * k + 158, .inr (.inl g9))) ∧ Off 156 f g9 ∧ (r = 1 → ∀ i, i < 6 → MV k f (2 * i) (2 * i) < 4096)) (BB G B) (fun q => B ≤ q)) 0 0 (fun q => B ≤ q) := by
  refine Met.ofW (cc := cX3_madeFitsTheBox) (maxL := 6) (ret := (some .boolean)) (by decide) rfl ?_
  intro p e s m args below meth c s₁ B9 hml hv
  obtain ⟨hargs, hBs, hP, hKK⟩ := hv
  have hx := B9.exec
  have hb := B9.bytes
  have hr := B9.returns
  have hts := atoms_spec (ws := wsX3_madeFitsTheBox) B9.pre
  have hown : s.vm.findClass RX3 = some m.cls := findClass_of_methodNamed B9.named
  have hlocks := B9.notSynchronized
  have hK := hKK.k
  have hS : va_S (fun q => B ≤ q) s.heap s.heap [] := va_S.rf
  obtain ⟨Q, hQ⟩ : ∃ Q, Q = MQ below (va_Qi (fun r μ2 => (r = 0 ∨ r = 1) ∧ ∃ g9 : Nat → Int64, μ2 = mu μ l2 (.inl (G.2 0, 158 * k + 158, .inr (.inl g9))) ∧ Off 156 f g9 ∧ (r = 1 → ∀ i, i < 6 → MV k f (2 * i) (2 * i) < 4096)) (BB G B) (fun q => B ≤ q)) args s 0 0 (fun q => B ≤ q) := ⟨_, rfl⟩
  rw [← hQ]
  have ne0_1 : d ≠ s2 := mp_ne hd hs2 (by simp)
  have ne0_2 : d ≠ n2 := mp_ne hd hn2 (by simp)
  have ne0_3 : d ≠ l2 := mp_ne hd hl2 (by simp)
  have ne1_2 : s2 ≠ n2 := mp_ne hs2 hn2 (by simp)
  have ne1_3 : s2 ≠ l2 := mp_ne hs2 hl2 (by simp)
  have ne2_3 : n2 ≠ l2 := mp_ne hn2 hl2 (by simp)
  have in_X3_madeFitsTheBox_X3 : ∀ w ∈ wsX30, w ∈ wsX3_madeFitsTheBox := by decide +kernel
  have hP : mw G.1 vwCl B (mu μ l2 (.inl (G.2 0, 158 * k + 158, .inr (.inl f)))) s.heap := mw_eq (mu_i hl2).symm hP
  have L4 : ∀ (N4 : Nat) (i1 : Nat) (bx : Int64) (g1 : Nat → Int64) (hN4 : 6 - i1 < N4) (hi : i1 ≤ 6) (hO : Off 156 f g1) (hM : ∀ i, i < i1 → MV k f (2 * i) (2 * i) < 4096), ∀ (H : Heap) (locs : List Loc), mw G.1 vwCl B (mu μ l2 (.inl (G.2 0, 158 * k + 158, .inr (.inl g1)))) H → va_S (fun q => B ≤ q) s.heap H locs → ∀ ls : Array Slot, lv_has ls 6 [(0, .ref d), (1, .long bx), (3, .int (nI i1))] → W p l e rv_X3_madeFitsTheBox s m args below meth c H locs 0 0 Q (F0 m 4 ls []) := by
    intro N4
    induction N4 with
    | zero => intro i1 bx g1 hN4; exact absurd hN4 (Nat.not_lt_zero _)
    | succ N4 ih4 =>
      intro i1 bx g1 hN4 hi hO hM H locs hP hS ls hl
      refine lv_iload_n hx hb dX3_madeFitsTheBox_4 rfl (lv_at hl 2 rfl) ?_
      refine lv_bipush (v := nI 6) hx hb dX3_madeFitsTheBox_5 (by decide) ?_
      refine nv_icmp_ge (tgt := 66) hx hb (by omega) (by omega) dX3_madeFitsTheBox_7 (by decide) (fun hc7 => ?_) (fun hc7 => ?_)
      · refine lv_iconst (v := nI 1) hx hb dX3_madeFitsTheBox_66 (by decide) ?_
        rw [hQ]
        exact W.zret (v := nI 1) (ty := .boolean) hx hb hr (by first | rfl | decide) (fun t99 ht99 hW99 => ⟨⟨nI 1, mu μ l2 (.inl (G.2 0, 158 * k + 158, .inr (.inl g1))), rfl, (⟨Or.inr rfl, _, rfl, hO, fun _ i h9 => hM i (by omega)⟩), by show mw _ _ _ _ t99.heap; rw [ht99]; exact hP⟩, hS.F ht99⟩) hS.2.2 dX3_madeFitsTheBox_67
      · refine lv_aload_n hx hb dX3_madeFitsTheBox_10 rfl (lv_at hl 0 rfl) ?_
        refine mw_get (C := RX3) (T := TX3) (N := 7) hx hb hts in_X3_madeFitsTheBox_X3 hown hK hP ((mu_n ne0_3).trans (hd)) rfl 1 (by decide) (hts (.fieldLink RX3 29 "OctagonDesk" "made" "LOctagonDesk$Shape;") (by decide +kernel)) (fun _ h9 => h9) rfl dX3_madeFitsTheBox_11 ?_
        refine lv_iconst (v := nI 2) hx hb dX3_madeFitsTheBox_14 (by decide) ?_
        refine lv_iload_n hx hb dX3_madeFitsTheBox_15 rfl (lv_at hl 2 rfl) ?_
        refine nv_imul hx hb dX3_madeFitsTheBox_16 ?_
        refine lv_iconst (v := nI 2) hx hb dX3_madeFitsTheBox_17 (by decide) ?_
        refine lv_iload_n hx hb dX3_madeFitsTheBox_18 rfl (lv_at hl 2 rfl) ?_
        refine nv_imul hx hb dX3_madeFitsTheBox_19 ?_
        refine kc_l (va_runV (As := [.int (nI (2 * i1)), .int (nI (2 * i1))]) (rest := []) ⟨hx, hb, hml, hown, hts⟩ (v_X1_mostOf l G B (mu μ l2 (.inl (G.2 0, 158 * k + 158, .inr (.inl g1)))) s2 n2 l2 k b g1 (2 * i1) (2 * i1) ((mu_n ne1_3).trans (hs2)) ((mu_n ne2_3).trans (hn2)) (mu_s _ _ _) (by omega) (by omega) (by omega)) (cwV 2 hts gX3_madeFitsTheBox_X1_mostOf rfl rfl rfl (by decide +kernel) ⟨Nat.le_of_ble_eq_true rfl, Nat.le_of_ble_eq_true rfl⟩) ⟨KW.blind, hP.recv hK rfl ((mu_n ne1_3).trans (hs2)), fun U9 hU9 hW9 => ⟨rfl, KW.pre hBs hKK hS hP U9 hU9 hW9⟩⟩ rfl rfl hl.1 rfl (lv_room (Nat.le_of_ble_eq_true rfl)) dX3_madeFitsTheBox_20 ⟨(Nat.le_of_ble_eq_true rfl), (Nat.le_of_ble_eq_true rfl)⟩) hS (fun r20 m20 H locs hq9 hP hz9 hS => ?_)
        obtain ⟨g20, rfl, ho20, hv20⟩ := hq9
        have hP : mw G.1 vwCl B (mu μ l2 (.inl (G.2 0, 158 * k + 158, .inr (.inl g20)))) _ := mw_eq (mu_u _ _ _ _) hP
        refine lv_lstore (lv' := [(4, .long r20), (0, .ref d), (1, .long bx), (3, .int (nI i1))]) hx hb dX3_madeFitsTheBox_23 hl (by decide) rfl (fun ls hl => ?_)
        refine lv_lload hx hb dX3_madeFitsTheBox_25 (lv_at hl 0 rfl) ?_
        refine lv_lconst (v := 0) hx hb dX3_madeFitsTheBox_27 (by decide) ?_
        refine nl_if_lt (tgt := 41) hx hb dX3_madeFitsTheBox_28 dX3_madeFitsTheBox_29 (by decide) (fun hc28 => ?_) (fun hc28 => ?_)
        · refine lv_iconst (v := nI 0) hx hb dX3_madeFitsTheBox_41 (by decide) ?_
          rw [hQ]
          exact W.zret (v := nI 0) (ty := .boolean) hx hb hr (by first | rfl | decide) (fun t99 ht99 hW99 => ⟨⟨nI 0, mu μ l2 (.inl (G.2 0, 158 * k + 158, .inr (.inl g20))), rfl, (⟨Or.inl rfl, _, rfl, hO.tr ho20, fun h9 => absurd h9 (by decide)⟩), by show mw _ _ _ _ t99.heap; rw [ht99]; exact hP⟩, hS.F ht99⟩) hS.2.2 dX3_madeFitsTheBox_42
        · refine lv_lload hx hb dX3_madeFitsTheBox_32 (lv_at hl 0 rfl) ?_
          refine lv_ldc2 (v := (4096)) hx hb hown (hts (.constantLong RX3 212 (4096)) (by decide +kernel)) dX3_madeFitsTheBox_34 ?_
          refine nl_if_lt (tgt := 43) hx hb dX3_madeFitsTheBox_37 dX3_madeFitsTheBox_38 (by decide) (fun hc37 => ?_) (fun hc37 => ?_)
          · refine lv_lload_n hx hb dX3_madeFitsTheBox_43 rfl (lv_at hl 2 rfl) ?_
            refine lv_lload hx hb dX3_madeFitsTheBox_44 (lv_at hl 0 rfl) ?_
            refine lv_lconst (v := 1) hx hb dX3_madeFitsTheBox_46 (by decide) ?_
            refine lv_ladd hx hb dX3_madeFitsTheBox_47 ?_
            refine lv_lmul hx hb dX3_madeFitsTheBox_48 ?_
            refine lv_topl (fun v49 ev49 => ?_)
            refine lv_lstore_n (lv' := [(1, .long v49), (4, .long r20), (0, .ref d), (3, .int (nI i1))]) hx hb dX3_madeFitsTheBox_49 rfl hl (by decide) rfl (fun ls hl => ?_)
            refine lv_lload_n hx hb dX3_madeFitsTheBox_50 rfl (lv_at hl 0 rfl) ?_
            refine lv_ldc2 (v := (4096)) hx hb hown (hts (.constantLong RX3 212 (4096)) (by decide +kernel)) dX3_madeFitsTheBox_51 ?_
            refine nl_if_le (tgt := 60) hx hb dX3_madeFitsTheBox_54 dX3_madeFitsTheBox_55 (by decide) (fun hc54 => ?_) (fun hc54 => ?_)
            · refine lv_iinc (v := nI (i1 + 1)) (lv' := [(3, .int (nI (i1 + 1))), (1, .long v49), (4, .long r20), (0, .ref d)]) hx hb dX3_madeFitsTheBox_60 hl (k := 3) rfl (nI_add _ _) (by decide) rfl (fun ls hl => ?_)
              refine lv_goto (tgt := 4) hx hb dX3_madeFitsTheBox_63 (by decide) ?_
              exact ih4 (i1 + 1) v49 g20 (by omega) (by omega) (hO.tr ho20) (all_s hM (by rw [← MV_cong (by omega) (by omega) hO, ← hv20]; exact hc37)) _ _ hP hS ls (lv_sub hl [3, 1, 0] rfl)
            · refine lv_iconst (v := nI 0) hx hb dX3_madeFitsTheBox_58 (by decide) ?_
              rw [hQ]
              exact W.zret (v := nI 0) (ty := .boolean) hx hb hr (by first | rfl | decide) (fun t99 ht99 hW99 => ⟨⟨nI 0, mu μ l2 (.inl (G.2 0, 158 * k + 158, .inr (.inl g20))), rfl, (⟨Or.inl rfl, _, rfl, hO.tr ho20, fun h9 => absurd h9 (by decide)⟩), by show mw _ _ _ _ t99.heap; rw [ht99]; exact hP⟩, hS.F ht99⟩) hS.2.2 dX3_madeFitsTheBox_59
          · refine lv_iconst (v := nI 0) hx hb dX3_madeFitsTheBox_41 (by decide) ?_
            rw [hQ]
            exact W.zret (v := nI 0) (ty := .boolean) hx hb hr (by first | rfl | decide) (fun t99 ht99 hW99 => ⟨⟨nI 0, mu μ l2 (.inl (G.2 0, 158 * k + 158, .inr (.inl g20))), rfl, (⟨Or.inl rfl, _, rfl, hO.tr ho20, fun h9 => absurd h9 (by decide)⟩), by show mw _ _ _ _ t99.heap; rw [ht99]; exact hP⟩, hS.F ht99⟩) hS.2.2 dX3_madeFitsTheBox_42
  have hl := lv_entry ([.ref d]) (n := 6) (Nat.le_of_ble_eq_true rfl)
  have he9 : entryFrame m args 6 = entryFrame m ([.ref d] : List Value).toArray 6 := by rw [hargs]
  rw [he9, lg_entry_eq]
  generalize (lg_sl ([.ref d]) ++ List.replicate (6 - (lg_sl ([.ref d])).length) Slot.unset).toArray = ls at hl ⊢
  have hl : lv_has ls 6 [(0, .ref d)] := hl
  refine lv_lconst (v := 1) hx hb dX3_madeFitsTheBox_0 (by decide) ?_
  refine lv_lstore_n (lv' := [(1, .long 1), (0, .ref d)]) hx hb dX3_madeFitsTheBox_1 rfl hl (by decide) rfl (fun ls hl => ?_)
  refine lv_iconst (v := nI 0) hx hb dX3_madeFitsTheBox_2 (by decide) ?_
  refine lv_istore_n (lv' := [(3, .int (nI 0)), (1, .long 1), (0, .ref d)]) hx hb dX3_madeFitsTheBox_3 rfl hl (by decide) rfl (fun ls hl => ?_)
  exact L4 _ 0 1 f (Nat.lt_succ_self _) (by omega) (Off.rf _ _) (fun i h9 => absurd h9 (by omega)) _ _ hP hS ls (lv_sub hl [2, 1, 0] rfl)

abbrev rv_X3_countFrom_0 : Room := { frames := 0, cells := 0, slots := 0, locals := 0 }
set_option maxHeartbeats 4000000 in
set_option maxRecDepth 100000 in
theorem v_X3_countFrom_0 (l : Launch) (G : GG) (B : Nat) (μ : mp) (d aS s2 aT aO aL aR n2 l2 k sc b : Nat) (f : Nat → Int64) (fo : Nat → Int64) (v9 : Nat) (hd : μ d = some (.inr (3, [.ref aS, .ref s2, .ref aT, .ref aO, .int (nI sc), .ref aL, .ref aR]))) (hs2 : μ s2 = some (.inr (1, [.ref n2, .int (nI b)]))) (hn2 : μ n2 = some (.inr (0, [.int (nI 158), .int (nI 157), .ref l2, .int (nI (158 * k))]))) (hl2 : μ l2 = some (.inl (G.2 0, 158 * k + 158, .inr (.inl f)))) (hao : μ aO = some (.inl (G.2 0, 6, .inr (.inl fo)))) (hk : k ≤ 1022) (hv9 : v9 + 0 = 6) (hMV : ∀ i, i < 6 → MV k f (2 * i) (2 * i) < 4096) (hne : l2 ≠ aO) : Met l yX3_countFrom wsX3_countFrom rv_X3_countFrom_0 (va_Pc [.ref d, .int (nI v9)] (KW G B μ)) (va_Qi (fun r μ2 => ∃ g9 fo9 : Nat → Int64, μ2 = mu (mu μ l2 (.inl (G.2 0, 158 * k + 158, .inr (.inl g9)))) aO (.inl (G.2 0, 6, .inr (.inl fo9))) ∧ Off 156 f g9) (BB G B) (fun q => B ≤ q)) 0 0 (fun q => B ≤ q) := by
  refine Met.ofW (cc := cX3_countFrom) (maxL := 11) (ret := (some .int)) (by decide) rfl ?_
  intro p e s m args below meth c s₁ B9 hml hv
  obtain ⟨hargs, hBs, hP, hKK⟩ := hv
  have hx := B9.exec
  have hb := B9.bytes
  have hr := B9.returns
  have hts := atoms_spec (ws := wsX3_countFrom) B9.pre
  have hown : s.vm.findClass RX3 = some m.cls := findClass_of_methodNamed B9.named
  have hlocks := B9.notSynchronized
  have hK := hKK.k
  have hS : va_S (fun q => B ≤ q) s.heap s.heap [] := va_S.rf
  obtain ⟨Q, hQ⟩ : ∃ Q, Q = MQ below (va_Qi (fun r μ2 => ∃ g9 fo9 : Nat → Int64, μ2 = mu (mu μ l2 (.inl (G.2 0, 158 * k + 158, .inr (.inl g9)))) aO (.inl (G.2 0, 6, .inr (.inl fo9))) ∧ Off 156 f g9) (BB G B) (fun q => B ≤ q)) args s 0 0 (fun q => B ≤ q) := ⟨_, rfl⟩
  rw [← hQ]
  have ne0_1 : d ≠ s2 := mp_ne hd hs2 (by simp)
  have ne0_2 : d ≠ n2 := mp_ne hd hn2 (by simp)
  have ne0_3 : d ≠ l2 := mp_ne hd hl2 (by simp)
  have ne0_4 : d ≠ aO := mp_ne hd hao (by simp)
  have ne1_2 : s2 ≠ n2 := mp_ne hs2 hn2 (by simp)
  have ne1_3 : s2 ≠ l2 := mp_ne hs2 hl2 (by simp)
  have ne1_4 : s2 ≠ aO := mp_ne hs2 hao (by simp)
  have ne2_3 : n2 ≠ l2 := mp_ne hn2 hl2 (by simp)
  have ne2_4 : n2 ≠ aO := mp_ne hn2 hao (by simp)
  have hP : mw G.1 vwCl B (mu (mu μ l2 (.inl (G.2 0, 158 * k + 158, .inr (.inl f)))) aO (.inl (G.2 0, 6, .inr (.inl fo)))) s.heap := mw_eq ((congrArg (fun z => mu z aO (.inl (G.2 0, 6, .inr (.inl fo)))) (mu_i hl2)).trans (mu_i hao)).symm hP
  have hl := lv_entry ([.ref d, .int (nI v9)]) (n := 11) (Nat.le_of_ble_eq_true rfl)
  have he9 : entryFrame m args 11 = entryFrame m ([.ref d, .int (nI v9)] : List Value).toArray 11 := by rw [hargs]
  rw [he9, lg_entry_eq]
  generalize (lg_sl ([.ref d, .int (nI v9)]) ++ List.replicate (11 - (lg_sl ([.ref d, .int (nI v9)])).length) Slot.unset).toArray = ls at hl ⊢
  have hl : lv_has ls 11 [(0, .ref d), (1, .int (nI v9))] := hl
  refine lv_iload_n hx hb dX3_countFrom_0 rfl (lv_at hl 1 rfl) ?_
  refine lv_bipush (v := nI 6) hx hb dX3_countFrom_1 (by decide) ?_
  refine nv_icmp_lt (tgt := 8) hx hb (by omega) (by omega) dX3_countFrom_3 (by decide) (fun hc3 => ?_) (fun hc3 => ?_)
  · exfalso; omega
  · refine lv_iconst (v := nI 1) hx hb dX3_countFrom_6 (by decide) ?_
    rw [hQ]
    exact W.iret (v := nI 1) hx hb hr (fun t99 ht99 hW99 => ⟨⟨nI 1, mu (mu μ l2 (.inl (G.2 0, 158 * k + 158, .inr (.inl f)))) aO (.inl (G.2 0, 6, .inr (.inl fo))), rfl, (⟨_, _, rfl, Off.rf _ _⟩), by show mw _ _ _ _ t99.heap; rw [ht99]; exact hP⟩, hS.F ht99⟩) hS.2.2 dX3_countFrom_7

abbrev rv_X3_countFrom_1 : Room := { frames := 3, cells := 0, slots := 0, locals := 71 }
set_option maxHeartbeats 4000000 in
set_option maxRecDepth 100000 in
theorem v_X3_countFrom_1 (l : Launch) (G : GG) (B : Nat) (μ : mp) (d aS s2 aT aO aL aR n2 l2 k sc b : Nat) (f : Nat → Int64) (fo : Nat → Int64) (v9 : Nat) (hd : μ d = some (.inr (3, [.ref aS, .ref s2, .ref aT, .ref aO, .int (nI sc), .ref aL, .ref aR]))) (hs2 : μ s2 = some (.inr (1, [.ref n2, .int (nI b)]))) (hn2 : μ n2 = some (.inr (0, [.int (nI 158), .int (nI 157), .ref l2, .int (nI (158 * k))]))) (hl2 : μ l2 = some (.inl (G.2 0, 158 * k + 158, .inr (.inl f)))) (hao : μ aO = some (.inl (G.2 0, 6, .inr (.inl fo)))) (hk : k ≤ 1022) (hv9 : v9 + 1 = 6) (hMV : ∀ i, i < 6 → MV k f (2 * i) (2 * i) < 4096) (hne : l2 ≠ aO) : Met l yX3_countFrom wsX3_countFrom rv_X3_countFrom_1 (va_Pc [.ref d, .int (nI v9)] (KW G B μ)) (va_Qi (fun r μ2 => ∃ g9 fo9 : Nat → Int64, μ2 = mu (mu μ l2 (.inl (G.2 0, 158 * k + 158, .inr (.inl g9)))) aO (.inl (G.2 0, 6, .inr (.inl fo9))) ∧ Off 156 f g9) (BB G B) (fun q => B ≤ q)) 0 0 (fun q => B ≤ q) := by
  refine Met.ofW (cc := cX3_countFrom) (maxL := 11) (ret := (some .int)) (by decide) rfl ?_
  intro p e s m args below meth c s₁ B9 hml hv
  obtain ⟨hargs, hBs, hP, hKK⟩ := hv
  have hx := B9.exec
  have hb := B9.bytes
  have hr := B9.returns
  have hts := atoms_spec (ws := wsX3_countFrom) B9.pre
  have hown : s.vm.findClass RX3 = some m.cls := findClass_of_methodNamed B9.named
  have hlocks := B9.notSynchronized
  have hK := hKK.k
  have hS : va_S (fun q => B ≤ q) s.heap s.heap [] := va_S.rf
  obtain ⟨Q, hQ⟩ : ∃ Q, Q = MQ below (va_Qi (fun r μ2 => ∃ g9 fo9 : Nat → Int64, μ2 = mu (mu μ l2 (.inl (G.2 0, 158 * k + 158, .inr (.inl g9)))) aO (.inl (G.2 0, 6, .inr (.inl fo9))) ∧ Off 156 f g9) (BB G B) (fun q => B ≤ q)) args s 0 0 (fun q => B ≤ q) := ⟨_, rfl⟩
  rw [← hQ]
  have ne0_1 : d ≠ s2 := mp_ne hd hs2 (by simp)
  have ne0_2 : d ≠ n2 := mp_ne hd hn2 (by simp)
  have ne0_3 : d ≠ l2 := mp_ne hd hl2 (by simp)
  have ne0_4 : d ≠ aO := mp_ne hd hao (by simp)
  have ne1_2 : s2 ≠ n2 := mp_ne hs2 hn2 (by simp)
  have ne1_3 : s2 ≠ l2 := mp_ne hs2 hl2 (by simp)
  have ne1_4 : s2 ≠ aO := mp_ne hs2 hao (by simp)
  have ne2_3 : n2 ≠ l2 := mp_ne hn2 hl2 (by simp)
  have ne2_4 : n2 ≠ aO := mp_ne hn2 hao (by simp)
  have in_X3_countFrom_X3 : ∀ w ∈ wsX30, w ∈ wsX3_countFrom := by decide +kernel
  have hP : mw G.1 vwCl B (mu (mu μ l2 (.inl (G.2 0, 158 * k + 158, .inr (.inl f)))) aO (.inl (G.2 0, 6, .inr (.inl fo)))) s.heap := mw_eq ((congrArg (fun z => mu z aO (.inl (G.2 0, 6, .inr (.inl fo)))) (mu_i hl2)).trans (mu_i hao)).symm hP
  have L154 : ∀ (N154 : Nat) (x : Int64) (ct : Int32) (lo : Int64) (hi : Int64) (g2 : Nat → Int64) (fo2 : Nat → Int64) (hN154 : (hi.toInt - x.toInt + 1).toNat < N154) (hh : hi < 4096) (hO2 : Off 156 f g2), ∀ (H : Heap) (locs : List Loc), mw G.1 vwCl B (mu (mu μ l2 (.inl (G.2 0, 158 * k + 158, .inr (.inl g2)))) aO (.inl (G.2 0, 6, .inr (.inl fo2)))) H → va_S (fun q => B ≤ q) s.heap H locs → ∀ ls : Array Slot, lv_has ls 11 [(0, .ref d), (1, .int (nI v9)), (2, .int (nI (2 * v9))), (3, .int (nI (2 * v9 + 1))), (4, .long lo), (6, .long hi), (8, .int ct), (9, .long x)] → W p l e rv_X3_countFrom_1 s m args below meth c H locs 0 0 Q (F0 m 154 ls []) := by
    intro N154
    induction N154 with
    | zero => intro x ct lo hi g2 fo2 hN154; exact absurd hN154 (Nat.not_lt_zero _)
    | succ N154 ih154 =>
      intro x ct lo hi g2 fo2 hN154 hh hO2 H locs hP hS ls hl
      refine lv_lload hx hb dX3_countFrom_154 (lv_at hl 7 rfl) ?_
      refine lv_lload hx hb dX3_countFrom_156 (lv_at hl 5 rfl) ?_
      refine nl_if_gt (tgt := 191) hx hb dX3_countFrom_158 dX3_countFrom_159 (by decide) (fun hc158 => ?_) (fun hc158 => ?_)
      · refine lv_iload hx hb dX3_countFrom_191 (lv_at hl 6 rfl) ?_
        rw [hQ]
        exact W.iret (v := ct) hx hb hr (fun t99 ht99 hW99 => ⟨⟨ct, mu (mu μ l2 (.inl (G.2 0, 158 * k + 158, .inr (.inl g2)))) aO (.inl (G.2 0, 6, .inr (.inl fo2))), rfl, (⟨_, _, rfl, hO2⟩), by show mw _ _ _ _ t99.heap; rw [ht99]; exact hP⟩, hS.F ht99⟩) hS.2.2 dX3_countFrom_193
      · refine lv_aload_n hx hb dX3_countFrom_162 rfl (lv_at hl 0 rfl) ?_
        refine mw_get (C := RX3) (T := TX3) (N := 7) hx hb hts in_X3_countFrom_X3 hown hK hP ((mu_n ne0_4).trans ((mu_n ne0_3).trans (hd))) rfl 3 (by decide) (hts (.fieldLink RX3 33 "OctagonDesk" "offsets" "[J") (by decide +kernel)) (fun _ h9 => h9) rfl dX3_countFrom_163 ?_
        refine lv_iload_n hx hb dX3_countFrom_166 rfl (lv_at hl 1 rfl) ?_
        refine lv_lload hx hb dX3_countFrom_167 (lv_at hl 7 rfl) ?_
        refine mw_last hx hb hK hP hS 0 (mu_s _ _ _) rfl (by omega) (by omega) dX3_countFrom_169 (fun H locs hP hS => ?_)
        have hP : mw G.1 vwCl B (mu (mu μ l2 (.inl (G.2 0, 158 * k + 158, .inr (.inl g2)))) aO (.inl (G.2 0, 6, .inr (.inl (vp_updL fo2 v9 x))))) _ := mw_eq (mu_u _ _ _ _) hP
        refine lv_iload hx hb dX3_countFrom_170 (lv_at hl 6 rfl) ?_
        refine lv_aload_n hx hb dX3_countFrom_172 rfl (lv_at hl 0 rfl) ?_
        refine lv_iload_n hx hb dX3_countFrom_173 rfl (lv_at hl 1 rfl) ?_
        refine lv_iconst (v := nI 1) hx hb dX3_countFrom_174 (by decide) ?_
        refine nv_iadd hx hb dX3_countFrom_175 ?_
        refine kc_i (va_runV (As := [.int (nI (v9 + 1))]) (rest := [.int ct]) ⟨hx, hb, hml, hown, hts⟩ (v_X3_countFrom_0 l G B (mu (mu μ l2 (.inl (G.2 0, 158 * k + 158, .inr (.inl g2)))) aO (.inl (G.2 0, 6, .inr (.inl (vp_updL fo2 v9 x))))) d aS s2 aT aO aL aR n2 l2 k sc b g2 (vp_updL fo2 v9 x) (v9 + 1) ((mu_n ne0_4).trans ((mu_n ne0_3).trans (hd))) ((mu_n ne1_4).trans ((mu_n ne1_3).trans (hs2))) ((mu_n ne2_4).trans ((mu_n ne2_3).trans (hn2))) ((mu_n hne).trans (mu_s _ _ _)) (mu_s _ _ _) (by omega) (by omega) (fun i h9 => by rw [MV_cong (by omega) (by omega) hO2]; exact hMV i h9) hne) (cwV 1 hts gX3_countFrom_X3_countFrom rfl rfl rfl (by decide +kernel) ⟨Nat.le_of_ble_eq_true rfl, Nat.le_of_ble_eq_true rfl⟩) ⟨KW.blind, hP.recv hK rfl ((mu_n ne0_4).trans ((mu_n ne0_3).trans (hd))), fun U9 hU9 hW9 => ⟨rfl, KW.pre hBs hKK hS hP U9 hU9 hW9⟩⟩ rfl rfl hl.1 rfl (lv_room (Nat.le_of_ble_eq_true rfl)) dX3_countFrom_176 ⟨(Nat.le_of_ble_eq_true rfl), (Nat.le_of_ble_eq_true rfl)⟩) hS (fun r176 m176 H locs hq9 hP hz9 hS => ?_)
        obtain ⟨g176, fo176, he176, ho176⟩ := hq9
        rw [he176] at hP
        have hP : mw G.1 vwCl B (mu (mu μ l2 (.inl (G.2 0, 158 * k + 158, .inr (.inl g176)))) aO (.inl (G.2 0, 6, .inr (.inl fo176)))) _ := mw_eq ((congrArg (fun z => mu z aO (.inl (G.2 0, 6, .inr (.inl fo176)))) ((mu_c _ _ ((Ne.symm hne))).trans (congrArg (fun z => mu z aO (.inl (G.2 0, 6, .inr (.inl (vp_updL fo2 v9 x))))) (mu_u _ _ _ _)))).trans (mu_u _ _ _ _)) hP
        refine lv_iadd hx hb dX3_countFrom_179 ?_
        refine lv_topi (fun v180 ev180 => ?_)
        refine lv_istore (lv' := [(8, .int v180), (0, .ref d), (1, .int (nI v9)), (2, .int (nI (2 * v9))), (3, .int (nI (2 * v9 + 1))), (4, .long lo), (6, .long hi), (9, .long x)]) hx hb dX3_countFrom_180 hl (by decide) rfl (fun ls hl => ?_)
        refine lv_lload hx hb dX3_countFrom_182 (lv_at hl 7 rfl) ?_
        refine lv_lconst (v := 1) hx hb dX3_countFrom_184 (by decide) ?_
        refine lv_ladd hx hb dX3_countFrom_185 ?_
        refine lv_topl (fun v186 ev186 => ?_)
        refine lv_lstore (lv' := [(9, .long v186), (8, .int v180), (0, .ref d), (1, .int (nI v9)), (2, .int (nI (2 * v9))), (3, .int (nI (2 * v9 + 1))), (4, .long lo), (6, .long hi)]) hx hb dX3_countFrom_186 hl (by decide) rfl (fun ls hl => ?_)
        refine lv_goto (tgt := 154) hx hb dX3_countFrom_188 (by decide) ?_
        exact ih154 v186 v180 lo hi g176 fo176 (Nat.lt_of_lt_of_le (cf_m hc158 hh ev186) (Nat.le_of_lt_succ hN154)) (hh) (hO2.tr ho176) _ _ hP hS ls (lv_sub hl [2, 3, 4, 5, 6, 7, 1, 0] rfl)
  have L33 : ∀ (N33 : Nat) (i1 : Nat) (lo : Int64) (hi : Int64) (g1 : Nat → Int64) (hN33 : v9 - i1 < N33) (hi1 : i1 ≤ v9) (hh : hi < 4096) (hO : Off 156 f g1), ∀ (H : Heap) (locs : List Loc), mw G.1 vwCl B (mu (mu μ l2 (.inl (G.2 0, 158 * k + 158, .inr (.inl g1)))) aO (.inl (G.2 0, 6, .inr (.inl fo)))) H → va_S (fun q => B ≤ q) s.heap H locs → ∀ ls : Array Slot, lv_has ls 11 [(0, .ref d), (1, .int (nI v9)), (2, .int (nI (2 * v9))), (3, .int (nI (2 * v9 + 1))), (4, .long lo), (6, .long hi), (8, .int (nI i1))] → W p l e rv_X3_countFrom_1 s m args below meth c H locs 0 0 Q (F0 m 33 ls []) := by
    intro N33
    induction N33 with
    | zero => intro i1 lo hi g1 hN33; exact absurd hN33 (Nat.not_lt_zero _)
    | succ N33 ih33 =>
      intro i1 lo hi g1 hN33 hi1 hh hO H locs hP hS ls hl
      refine lv_iload hx hb dX3_countFrom_33 (lv_at hl 6 rfl) ?_
      refine lv_iload_n hx hb dX3_countFrom_35 rfl (lv_at hl 1 rfl) ?_
      refine nv_icmp_ge (tgt := 147) hx hb (by omega) (by omega) dX3_countFrom_36 (by decide) (fun hc36 => ?_) (fun hc36 => ?_)
      · refine lv_iconst (v := nI 0) hx hb dX3_countFrom_147 (by decide) ?_
        refine lv_istore (lv' := [(8, .int (nI 0)), (0, .ref d), (1, .int (nI v9)), (2, .int (nI (2 * v9))), (3, .int (nI (2 * v9 + 1))), (4, .long lo), (6, .long hi)]) hx hb dX3_countFrom_148 hl (by decide) rfl (fun ls hl => ?_)
        refine lv_lload hx hb dX3_countFrom_150 (lv_at hl 5 rfl) ?_
        refine lv_lstore (lv' := [(9, .long lo), (8, .int (nI 0)), (0, .ref d), (1, .int (nI v9)), (2, .int (nI (2 * v9))), (3, .int (nI (2 * v9 + 1))), (4, .long lo), (6, .long hi)]) hx hb dX3_countFrom_152 hl (by decide) rfl (fun ls hl => ?_)
        exact L154 _ lo (nI 0) lo hi g1 fo (Nat.lt_succ_self _) (hh) (hO) _ _ hP hS ls (lv_sub hl [2, 3, 4, 5, 6, 7, 1, 0] rfl)
      · refine lv_aload_n hx hb dX3_countFrom_39 rfl (lv_at hl 0 rfl) ?_
        refine mw_get (C := RX3) (T := TX3) (N := 7) hx hb hts in_X3_countFrom_X3 hown hK hP ((mu_n ne0_4).trans ((mu_n ne0_3).trans (hd))) rfl 3 (by decide) (hts (.fieldLink RX3 33 "OctagonDesk" "offsets" "[J") (by decide +kernel)) (fun _ h9 => h9) rfl dX3_countFrom_40 ?_
        refine lv_iload hx hb dX3_countFrom_43 (lv_at hl 6 rfl) ?_
        refine mw_lald hx hb hK hP 0 (mu_s _ _ _) rfl (by omega) (by omega) dX3_countFrom_45 ?_
        refine lv_topl (fun v46 ev46 => ?_)
        refine lv_lstore (lv' := [(9, .long v46), (0, .ref d), (1, .int (nI v9)), (2, .int (nI (2 * v9))), (3, .int (nI (2 * v9 + 1))), (4, .long lo), (6, .long hi), (8, .int (nI i1))]) hx hb dX3_countFrom_46 hl (by decide) rfl (fun ls hl => ?_)
        refine lv_lload hx hb dX3_countFrom_48 (lv_at hl 6 rfl) ?_
        refine lv_aload_n hx hb dX3_countFrom_50 rfl (lv_at hl 1 rfl) ?_
        refine mw_get (C := RX3) (T := TX3) (N := 7) hx hb hts in_X3_countFrom_X3 hown hK hP ((mu_n ne0_4).trans ((mu_n ne0_3).trans (hd))) rfl 1 (by decide) (hts (.fieldLink RX3 29 "OctagonDesk" "made" "LOctagonDesk$Shape;") (by decide +kernel)) (fun _ h9 => h9) rfl dX3_countFrom_51 ?_
        refine lv_iload_n hx hb dX3_countFrom_54 rfl (lv_at hl 3 rfl) ?_
        refine lv_iconst (v := nI 2) hx hb dX3_countFrom_55 (by decide) ?_
        refine lv_iload hx hb dX3_countFrom_56 (lv_at hl 7 rfl) ?_
        refine nv_imul hx hb dX3_countFrom_58 ?_
        refine kc_l (va_runV (As := [.int (nI (2 * v9)), .int (nI (2 * i1))]) (rest := [.long hi]) ⟨hx, hb, hml, hown, hts⟩ (v_X1_mostOf l G B (mu (mu μ l2 (.inl (G.2 0, 158 * k + 158, .inr (.inl g1)))) aO (.inl (G.2 0, 6, .inr (.inl fo)))) s2 n2 l2 k b g1 (2 * v9) (2 * i1) ((mu_n ne1_4).trans ((mu_n ne1_3).trans (hs2))) ((mu_n ne2_4).trans ((mu_n ne2_3).trans (hn2))) ((mu_n hne).trans (mu_s _ _ _)) (by omega) (by omega) (by omega)) (cwV 2 hts gX3_countFrom_X1_mostOf rfl rfl rfl (by decide +kernel) ⟨Nat.le_of_ble_eq_true rfl, Nat.le_of_ble_eq_true rfl⟩) ⟨KW.blind, hP.recv hK rfl ((mu_n ne1_4).trans ((mu_n ne1_3).trans (hs2))), fun U9 hU9 hW9 => ⟨rfl, KW.pre hBs hKK hS hP U9 hU9 hW9⟩⟩ rfl rfl hl.1 rfl (lv_room (Nat.le_of_ble_eq_true rfl)) dX3_countFrom_59 ⟨(Nat.le_of_ble_eq_true rfl), (Nat.le_of_ble_eq_true rfl)⟩) hS (fun r59 m59 H locs hq9 hP hz9 hS => ?_)
        obtain ⟨g59, rfl, ho59, hv59⟩ := hq9
        have hP : mw G.1 vwCl B (mu (mu μ l2 (.inl (G.2 0, 158 * k + 158, .inr (.inl g59)))) aO (.inl (G.2 0, 6, .inr (.inl fo)))) _ := mw_eq ((mu_c _ _ ((Ne.symm hne))).trans (congrArg (fun z => mu z aO (.inl (G.2 0, 6, .inr (.inl fo)))) (mu_u _ _ _ _))) hP
        refine lv_lload hx hb dX3_countFrom_62 (lv_at hl 0 rfl) ?_
        refine lv_lsub hx hb dX3_countFrom_64 ?_
        refine va_mmin_long hx hb (hml.trans hl.1.symm) hown (hts (.methodLink RX3 214 Lib.MathLoose.min_long.x) (by decide +kernel)) (hts (.static Lib.MathLoose.min_long.x) (by decide +kernel)) (hts (.initialized "java/lang/Math") (by decide +kernel)) (hts (.code Lib.MathLoose.min_long.x Lib.MathLoose.min_long.code 4 (some .long)) (by decide +kernel)) (Nat.le_of_ble_eq_true rfl) (Nat.le_of_ble_eq_true rfl) (Nat.zero_le _) (Nat.zero_le _) dX3_countFrom_65 ?_
        refine lv_topl (fun v68 ev68 => ?_)
        refine lv_lstore (lv' := [(6, .long v68), (9, .long v46), (0, .ref d), (1, .int (nI v9)), (2, .int (nI (2 * v9))), (3, .int (nI (2 * v9 + 1))), (4, .long lo), (8, .int (nI i1))]) hx hb dX3_countFrom_68 hl (by decide) rfl (fun ls hl => ?_)
        refine lv_lload hx hb dX3_countFrom_70 (lv_at hl 0 rfl) ?_
        refine lv_aload_n hx hb dX3_countFrom_72 rfl (lv_at hl 2 rfl) ?_
        refine mw_get (C := RX3) (T := TX3) (N := 7) hx hb hts in_X3_countFrom_X3 hown hK hP ((mu_n ne0_4).trans ((mu_n ne0_3).trans (hd))) rfl 1 (by decide) (hts (.fieldLink RX3 29 "OctagonDesk" "made" "LOctagonDesk$Shape;") (by decide +kernel)) (fun _ h9 => h9) rfl dX3_countFrom_73 ?_
        refine lv_iload_n hx hb dX3_countFrom_76 rfl (lv_at hl 4 rfl) ?_
        refine lv_iconst (v := nI 2) hx hb dX3_countFrom_77 (by decide) ?_
        refine lv_iload hx hb dX3_countFrom_78 (lv_at hl 7 rfl) ?_
        refine nv_imul hx hb dX3_countFrom_80 ?_
        refine lv_iconst (v := nI 1) hx hb dX3_countFrom_81 (by decide) ?_
        refine nv_iadd hx hb dX3_countFrom_82 ?_
        refine kc_l (va_runV (As := [.int (nI (2 * v9)), .int (nI ((2 * i1) + 1))]) (rest := [.long v68]) ⟨hx, hb, hml, hown, hts⟩ (v_X1_mostOf l G B (mu (mu μ l2 (.inl (G.2 0, 158 * k + 158, .inr (.inl g59)))) aO (.inl (G.2 0, 6, .inr (.inl fo)))) s2 n2 l2 k b g59 (2 * v9) ((2 * i1) + 1) ((mu_n ne1_4).trans ((mu_n ne1_3).trans (hs2))) ((mu_n ne2_4).trans ((mu_n ne2_3).trans (hn2))) ((mu_n hne).trans (mu_s _ _ _)) (by omega) (by omega) (by omega)) (cwV 2 hts gX3_countFrom_X1_mostOf rfl rfl rfl (by decide +kernel) ⟨Nat.le_of_ble_eq_true rfl, Nat.le_of_ble_eq_true rfl⟩) ⟨KW.blind, hP.recv hK rfl ((mu_n ne1_4).trans ((mu_n ne1_3).trans (hs2))), fun U9 hU9 hW9 => ⟨rfl, KW.pre hBs hKK hS hP U9 hU9 hW9⟩⟩ rfl rfl hl.1 rfl (lv_room (Nat.le_of_ble_eq_true rfl)) dX3_countFrom_83 ⟨(Nat.le_of_ble_eq_true rfl), (Nat.le_of_ble_eq_true rfl)⟩) hS (fun r83 m83 H locs hq9 hP hz9 hS => ?_)
        obtain ⟨g83, rfl, ho83, hv83⟩ := hq9
        have hP : mw G.1 vwCl B (mu (mu μ l2 (.inl (G.2 0, 158 * k + 158, .inr (.inl g83)))) aO (.inl (G.2 0, 6, .inr (.inl fo)))) _ := mw_eq ((mu_c _ _ ((Ne.symm hne))).trans (congrArg (fun z => mu z aO (.inl (G.2 0, 6, .inr (.inl fo)))) (mu_u _ _ _ _))) hP
        refine lv_lload hx hb dX3_countFrom_86 (lv_at hl 1 rfl) ?_
        refine lv_ladd hx hb dX3_countFrom_88 ?_
        refine va_mmin_long hx hb (hml.trans hl.1.symm) hown (hts (.methodLink RX3 214 Lib.MathLoose.min_long.x) (by decide +kernel)) (hts (.static Lib.MathLoose.min_long.x) (by decide +kernel)) (hts (.initialized "java/lang/Math") (by decide +kernel)) (hts (.code Lib.MathLoose.min_long.x Lib.MathLoose.min_long.code 4 (some .long)) (by decide +kernel)) (Nat.le_of_ble_eq_true rfl) (Nat.le_of_ble_eq_true rfl) (Nat.zero_le _) (Nat.zero_le _) dX3_countFrom_89 ?_
        refine lv_topl (fun v92 ev92 => ?_)
        refine lv_lstore (lv' := [(6, .long v92), (9, .long v46), (0, .ref d), (1, .int (nI v9)), (2, .int (nI (2 * v9))), (3, .int (nI (2 * v9 + 1))), (4, .long lo), (8, .int (nI i1))]) hx hb dX3_countFrom_92 hl (by decide) rfl (fun ls hl => ?_)
        refine lv_lload hx hb dX3_countFrom_94 (lv_at hl 6 rfl) ?_
        refine lv_lload hx hb dX3_countFrom_96 (lv_at hl 1 rfl) ?_
        refine lv_aload_n hx hb dX3_countFrom_98 rfl (lv_at hl 2 rfl) ?_
        refine mw_get (C := RX3) (T := TX3) (N := 7) hx hb hts in_X3_countFrom_X3 hown hK hP ((mu_n ne0_4).trans ((mu_n ne0_3).trans (hd))) rfl 1 (by decide) (hts (.fieldLink RX3 29 "OctagonDesk" "made" "LOctagonDesk$Shape;") (by decide +kernel)) (fun _ h9 => h9) rfl dX3_countFrom_99 ?_
        refine lv_iload_n hx hb dX3_countFrom_102 rfl (lv_at hl 5 rfl) ?_
        refine lv_iconst (v := nI 2) hx hb dX3_countFrom_103 (by decide) ?_
        refine lv_iload hx hb dX3_countFrom_104 (lv_at hl 7 rfl) ?_
        refine nv_imul hx hb dX3_countFrom_106 ?_
        refine kc_l (va_runV (As := [.int (nI (2 * v9 + 1)), .int (nI (2 * i1))]) (rest := [.long v46, .long lo]) ⟨hx, hb, hml, hown, hts⟩ (v_X1_mostOf l G B (mu (mu μ l2 (.inl (G.2 0, 158 * k + 158, .inr (.inl g83)))) aO (.inl (G.2 0, 6, .inr (.inl fo)))) s2 n2 l2 k b g83 (2 * v9 + 1) (2 * i1) ((mu_n ne1_4).trans ((mu_n ne1_3).trans (hs2))) ((mu_n ne2_4).trans ((mu_n ne2_3).trans (hn2))) ((mu_n hne).trans (mu_s _ _ _)) (by omega) (by omega) (by omega)) (cwV 2 hts gX3_countFrom_X1_mostOf rfl rfl rfl (by decide +kernel) ⟨Nat.le_of_ble_eq_true rfl, Nat.le_of_ble_eq_true rfl⟩) ⟨KW.blind, hP.recv hK rfl ((mu_n ne1_4).trans ((mu_n ne1_3).trans (hs2))), fun U9 hU9 hW9 => ⟨rfl, KW.pre hBs hKK hS hP U9 hU9 hW9⟩⟩ rfl rfl hl.1 rfl (lv_room (Nat.le_of_ble_eq_true rfl)) dX3_countFrom_107 ⟨(Nat.le_of_ble_eq_true rfl), (Nat.le_of_ble_eq_true rfl)⟩) hS (fun r107 m107 H locs hq9 hP hz9 hS => ?_)
        obtain ⟨g107, rfl, ho107, hv107⟩ := hq9
        have hP : mw G.1 vwCl B (mu (mu μ l2 (.inl (G.2 0, 158 * k + 158, .inr (.inl g107)))) aO (.inl (G.2 0, 6, .inr (.inl fo)))) _ := mw_eq ((mu_c _ _ ((Ne.symm hne))).trans (congrArg (fun z => mu z aO (.inl (G.2 0, 6, .inr (.inl fo)))) (mu_u _ _ _ _))) hP
        refine lv_lsub hx hb dX3_countFrom_110 ?_
        refine va_mmax_long hx hb (hml.trans hl.1.symm) hown (hts (.methodLink RX3 220 Lib.MathLoose.max_long.x) (by decide +kernel)) (hts (.static Lib.MathLoose.max_long.x) (by decide +kernel)) (hts (.initialized "java/lang/Math") (by decide +kernel)) (hts (.code Lib.MathLoose.max_long.x Lib.MathLoose.max_long.code 4 (some .long)) (by decide +kernel)) (Nat.le_of_ble_eq_true rfl) (Nat.le_of_ble_eq_true rfl) (Nat.zero_le _) (Nat.zero_le _) dX3_countFrom_111 ?_
        refine lv_topl (fun v114 ev114 => ?_)
        refine lv_lstore (lv' := [(4, .long v114), (6, .long v92), (9, .long v46), (0, .ref d), (1, .int (nI v9)), (2, .int (nI (2 * v9))), (3, .int (nI (2 * v9 + 1))), (8, .int (nI i1))]) hx hb dX3_countFrom_114 hl (by decide) rfl (fun ls hl => ?_)
        refine lv_lload hx hb dX3_countFrom_116 (lv_at hl 0 rfl) ?_
        refine lv_lload hx hb dX3_countFrom_118 (lv_at hl 2 rfl) ?_
        refine lv_lneg hx hb dX3_countFrom_120 ?_
        refine lv_aload_n hx hb dX3_countFrom_121 rfl (lv_at hl 3 rfl) ?_
        refine mw_get (C := RX3) (T := TX3) (N := 7) hx hb hts in_X3_countFrom_X3 hown hK hP ((mu_n ne0_4).trans ((mu_n ne0_3).trans (hd))) rfl 1 (by decide) (hts (.fieldLink RX3 29 "OctagonDesk" "made" "LOctagonDesk$Shape;") (by decide +kernel)) (fun _ h9 => h9) rfl dX3_countFrom_122 ?_
        refine lv_iload_n hx hb dX3_countFrom_125 rfl (lv_at hl 6 rfl) ?_
        refine lv_iconst (v := nI 2) hx hb dX3_countFrom_126 (by decide) ?_
        refine lv_iload hx hb dX3_countFrom_127 (lv_at hl 7 rfl) ?_
        refine nv_imul hx hb dX3_countFrom_129 ?_
        refine lv_iconst (v := nI 1) hx hb dX3_countFrom_130 (by decide) ?_
        refine nv_iadd hx hb dX3_countFrom_131 ?_
        refine kc_l (va_runV (As := [.int (nI (2 * v9 + 1)), .int (nI ((2 * i1) + 1))]) (rest := [.long (-v46), .long v114]) ⟨hx, hb, hml, hown, hts⟩ (v_X1_mostOf l G B (mu (mu μ l2 (.inl (G.2 0, 158 * k + 158, .inr (.inl g107)))) aO (.inl (G.2 0, 6, .inr (.inl fo)))) s2 n2 l2 k b g107 (2 * v9 + 1) ((2 * i1) + 1) ((mu_n ne1_4).trans ((mu_n ne1_3).trans (hs2))) ((mu_n ne2_4).trans ((mu_n ne2_3).trans (hn2))) ((mu_n hne).trans (mu_s _ _ _)) (by omega) (by omega) (by omega)) (cwV 2 hts gX3_countFrom_X1_mostOf rfl rfl rfl (by decide +kernel) ⟨Nat.le_of_ble_eq_true rfl, Nat.le_of_ble_eq_true rfl⟩) ⟨KW.blind, hP.recv hK rfl ((mu_n ne1_4).trans ((mu_n ne1_3).trans (hs2))), fun U9 hU9 hW9 => ⟨rfl, KW.pre hBs hKK hS hP U9 hU9 hW9⟩⟩ rfl rfl hl.1 rfl (lv_room (Nat.le_of_ble_eq_true rfl)) dX3_countFrom_132 ⟨(Nat.le_of_ble_eq_true rfl), (Nat.le_of_ble_eq_true rfl)⟩) hS (fun r132 m132 H locs hq9 hP hz9 hS => ?_)
        obtain ⟨g132, rfl, ho132, hv132⟩ := hq9
        have hP : mw G.1 vwCl B (mu (mu μ l2 (.inl (G.2 0, 158 * k + 158, .inr (.inl g132)))) aO (.inl (G.2 0, 6, .inr (.inl fo)))) _ := mw_eq ((mu_c _ _ ((Ne.symm hne))).trans (congrArg (fun z => mu z aO (.inl (G.2 0, 6, .inr (.inl fo)))) (mu_u _ _ _ _))) hP
        refine lv_lsub hx hb dX3_countFrom_135 ?_
        refine va_mmax_long hx hb (hml.trans hl.1.symm) hown (hts (.methodLink RX3 220 Lib.MathLoose.max_long.x) (by decide +kernel)) (hts (.static Lib.MathLoose.max_long.x) (by decide +kernel)) (hts (.initialized "java/lang/Math") (by decide +kernel)) (hts (.code Lib.MathLoose.max_long.x Lib.MathLoose.max_long.code 4 (some .long)) (by decide +kernel)) (Nat.le_of_ble_eq_true rfl) (Nat.le_of_ble_eq_true rfl) (Nat.zero_le _) (Nat.zero_le _) dX3_countFrom_136 ?_
        refine lv_topl (fun v139 ev139 => ?_)
        refine lv_lstore (lv' := [(4, .long v139), (6, .long v92), (9, .long v46), (0, .ref d), (1, .int (nI v9)), (2, .int (nI (2 * v9))), (3, .int (nI (2 * v9 + 1))), (8, .int (nI i1))]) hx hb dX3_countFrom_139 hl (by decide) rfl (fun ls hl => ?_)
        refine lv_iinc (v := nI (i1 + 1)) (lv' := [(8, .int (nI (i1 + 1))), (4, .long v139), (6, .long v92), (9, .long v46), (0, .ref d), (1, .int (nI v9)), (2, .int (nI (2 * v9))), (3, .int (nI (2 * v9 + 1)))]) hx hb dX3_countFrom_141 hl (k := 7) rfl (nI_add _ _) (by decide) rfl (fun ls hl => ?_)
        refine lv_goto (tgt := 33) hx hb dX3_countFrom_144 (by decide) ?_
        exact ih33 (i1 + 1) v139 v92 g132 (by omega) (by omega) (cf_min ev92 (cf_min ev68 hh)) ((((hO.tr ho59).tr ho83).tr ho107).tr ho132) _ _ hP hS ls (lv_sub hl [4, 5, 6, 7, 1, 2, 0] rfl)
  have hl := lv_entry ([.ref d, .int (nI v9)]) (n := 11) (Nat.le_of_ble_eq_true rfl)
  have he9 : entryFrame m args 11 = entryFrame m ([.ref d, .int (nI v9)] : List Value).toArray 11 := by rw [hargs]
  rw [he9, lg_entry_eq]
  generalize (lg_sl ([.ref d, .int (nI v9)]) ++ List.replicate (11 - (lg_sl ([.ref d, .int (nI v9)])).length) Slot.unset).toArray = ls at hl ⊢
  have hl : lv_has ls 11 [(0, .ref d), (1, .int (nI v9))] := hl
  refine lv_iload_n hx hb dX3_countFrom_0 rfl (lv_at hl 1 rfl) ?_
  refine lv_bipush (v := nI 6) hx hb dX3_countFrom_1 (by decide) ?_
  refine nv_icmp_lt (tgt := 8) hx hb (by omega) (by omega) dX3_countFrom_3 (by decide) (fun hc3 => ?_) (fun hc3 => ?_)
  · refine lv_iconst (v := nI 2) hx hb dX3_countFrom_8 (by decide) ?_
    refine lv_iload_n hx hb dX3_countFrom_9 rfl (lv_at hl 1 rfl) ?_
    refine nv_imul hx hb dX3_countFrom_10 ?_
    refine lv_istore_n (lv' := [(2, .int (nI (2 * v9))), (0, .ref d), (1, .int (nI v9))]) hx hb dX3_countFrom_11 rfl hl (by decide) rfl (fun ls hl => ?_)
    refine lv_iload_n hx hb dX3_countFrom_12 rfl (lv_at hl 0 rfl) ?_
    refine lv_iconst (v := nI 1) hx hb dX3_countFrom_13 (by decide) ?_
    refine nv_iadd hx hb dX3_countFrom_14 ?_
    refine lv_istore_n (lv' := [(3, .int (nI ((2 * v9) + 1))), (2, .int (nI (2 * v9))), (0, .ref d), (1, .int (nI v9))]) hx hb dX3_countFrom_15 rfl hl (by decide) rfl (fun ls hl => ?_)
    refine lv_lconst (v := 0) hx hb dX3_countFrom_16 (by decide) ?_
    refine lv_lstore (lv' := [(4, .long 0), (3, .int (nI ((2 * v9) + 1))), (2, .int (nI (2 * v9))), (0, .ref d), (1, .int (nI v9))]) hx hb dX3_countFrom_17 hl (by decide) rfl (fun ls hl => ?_)
    refine lv_aload_n hx hb dX3_countFrom_19 rfl (lv_at hl 3 rfl) ?_
    refine mw_get (C := RX3) (T := TX3) (N := 7) hx hb hts in_X3_countFrom_X3 hown hK hP ((mu_n ne0_4).trans ((mu_n ne0_3).trans (hd))) rfl 1 (by decide) (hts (.fieldLink RX3 29 "OctagonDesk" "made" "LOctagonDesk$Shape;") (by decide +kernel)) (fun _ h9 => h9) rfl dX3_countFrom_20 ?_
    refine lv_iload_n hx hb dX3_countFrom_23 rfl (lv_at hl 2 rfl) ?_
    refine lv_iload_n hx hb dX3_countFrom_24 rfl (lv_at hl 2 rfl) ?_
    refine kc_l (va_runV (As := [.int (nI (2 * v9)), .int (nI (2 * v9))]) (rest := []) ⟨hx, hb, hml, hown, hts⟩ (v_X1_mostOf l G B (mu (mu μ l2 (.inl (G.2 0, 158 * k + 158, .inr (.inl f)))) aO (.inl (G.2 0, 6, .inr (.inl fo)))) s2 n2 l2 k b f (2 * v9) (2 * v9) ((mu_n ne1_4).trans ((mu_n ne1_3).trans (hs2))) ((mu_n ne2_4).trans ((mu_n ne2_3).trans (hn2))) ((mu_n hne).trans (mu_s _ _ _)) (by omega) (by omega) (by omega)) (cwV 2 hts gX3_countFrom_X1_mostOf rfl rfl rfl (by decide +kernel) ⟨Nat.le_of_ble_eq_true rfl, Nat.le_of_ble_eq_true rfl⟩) ⟨KW.blind, hP.recv hK rfl ((mu_n ne1_4).trans ((mu_n ne1_3).trans (hs2))), fun U9 hU9 hW9 => ⟨rfl, KW.pre hBs hKK hS hP U9 hU9 hW9⟩⟩ rfl rfl hl.1 rfl (lv_room (Nat.le_of_ble_eq_true rfl)) dX3_countFrom_25 ⟨(Nat.le_of_ble_eq_true rfl), (Nat.le_of_ble_eq_true rfl)⟩) hS (fun r25 m25 H locs hq9 hP hz9 hS => ?_)
    obtain ⟨g25, rfl, ho25, hv25⟩ := hq9
    have hP : mw G.1 vwCl B (mu (mu μ l2 (.inl (G.2 0, 158 * k + 158, .inr (.inl g25)))) aO (.inl (G.2 0, 6, .inr (.inl fo)))) _ := mw_eq ((mu_c _ _ ((Ne.symm hne))).trans (congrArg (fun z => mu z aO (.inl (G.2 0, 6, .inr (.inl fo)))) (mu_u _ _ _ _))) hP
    refine lv_lstore (lv' := [(6, .long r25), (4, .long 0), (3, .int (nI ((2 * v9) + 1))), (2, .int (nI (2 * v9))), (0, .ref d), (1, .int (nI v9))]) hx hb dX3_countFrom_28 hl (by decide) rfl (fun ls hl => ?_)
    refine lv_iconst (v := nI 0) hx hb dX3_countFrom_30 (by decide) ?_
    refine lv_istore (lv' := [(8, .int (nI 0)), (6, .long r25), (4, .long 0), (3, .int (nI ((2 * v9) + 1))), (2, .int (nI (2 * v9))), (0, .ref d), (1, .int (nI v9))]) hx hb dX3_countFrom_31 hl (by decide) rfl (fun ls hl => ?_)
    exact L33 _ 0 0 r25 g25 (Nat.lt_succ_self _) (by omega) (by rw [hv25]; exact hMV v9 (by omega)) (ho25) _ _ hP hS ls (lv_sub hl [5, 6, 4, 3, 2, 1, 0] rfl)
  · exfalso; omega

abbrev rv_X3_countFrom_2 : Room := { frames := 4, cells := 0, slots := 0, locals := 101 }
set_option maxHeartbeats 4000000 in
set_option maxRecDepth 100000 in
theorem v_X3_countFrom_2 (l : Launch) (G : GG) (B : Nat) (μ : mp) (d aS s2 aT aO aL aR n2 l2 k sc b : Nat) (f : Nat → Int64) (fo : Nat → Int64) (v9 : Nat) (hd : μ d = some (.inr (3, [.ref aS, .ref s2, .ref aT, .ref aO, .int (nI sc), .ref aL, .ref aR]))) (hs2 : μ s2 = some (.inr (1, [.ref n2, .int (nI b)]))) (hn2 : μ n2 = some (.inr (0, [.int (nI 158), .int (nI 157), .ref l2, .int (nI (158 * k))]))) (hl2 : μ l2 = some (.inl (G.2 0, 158 * k + 158, .inr (.inl f)))) (hao : μ aO = some (.inl (G.2 0, 6, .inr (.inl fo)))) (hk : k ≤ 1022) (hv9 : v9 + 2 = 6) (hMV : ∀ i, i < 6 → MV k f (2 * i) (2 * i) < 4096) (hne : l2 ≠ aO) : Met l yX3_countFrom wsX3_countFrom rv_X3_countFrom_2 (va_Pc [.ref d, .int (nI v9)] (KW G B μ)) (va_Qi (fun r μ2 => ∃ g9 fo9 : Nat → Int64, μ2 = mu (mu μ l2 (.inl (G.2 0, 158 * k + 158, .inr (.inl g9)))) aO (.inl (G.2 0, 6, .inr (.inl fo9))) ∧ Off 156 f g9) (BB G B) (fun q => B ≤ q)) 0 0 (fun q => B ≤ q) := by
  refine Met.ofW (cc := cX3_countFrom) (maxL := 11) (ret := (some .int)) (by decide) rfl ?_
  intro p e s m args below meth c s₁ B9 hml hv
  obtain ⟨hargs, hBs, hP, hKK⟩ := hv
  have hx := B9.exec
  have hb := B9.bytes
  have hr := B9.returns
  have hts := atoms_spec (ws := wsX3_countFrom) B9.pre
  have hown : s.vm.findClass RX3 = some m.cls := findClass_of_methodNamed B9.named
  have hlocks := B9.notSynchronized
  have hK := hKK.k
  have hS : va_S (fun q => B ≤ q) s.heap s.heap [] := va_S.rf
  obtain ⟨Q, hQ⟩ : ∃ Q, Q = MQ below (va_Qi (fun r μ2 => ∃ g9 fo9 : Nat → Int64, μ2 = mu (mu μ l2 (.inl (G.2 0, 158 * k + 158, .inr (.inl g9)))) aO (.inl (G.2 0, 6, .inr (.inl fo9))) ∧ Off 156 f g9) (BB G B) (fun q => B ≤ q)) args s 0 0 (fun q => B ≤ q) := ⟨_, rfl⟩
  rw [← hQ]
  have ne0_1 : d ≠ s2 := mp_ne hd hs2 (by simp)
  have ne0_2 : d ≠ n2 := mp_ne hd hn2 (by simp)
  have ne0_3 : d ≠ l2 := mp_ne hd hl2 (by simp)
  have ne0_4 : d ≠ aO := mp_ne hd hao (by simp)
  have ne1_2 : s2 ≠ n2 := mp_ne hs2 hn2 (by simp)
  have ne1_3 : s2 ≠ l2 := mp_ne hs2 hl2 (by simp)
  have ne1_4 : s2 ≠ aO := mp_ne hs2 hao (by simp)
  have ne2_3 : n2 ≠ l2 := mp_ne hn2 hl2 (by simp)
  have ne2_4 : n2 ≠ aO := mp_ne hn2 hao (by simp)
  have in_X3_countFrom_X3 : ∀ w ∈ wsX30, w ∈ wsX3_countFrom := by decide +kernel
  have hP : mw G.1 vwCl B (mu (mu μ l2 (.inl (G.2 0, 158 * k + 158, .inr (.inl f)))) aO (.inl (G.2 0, 6, .inr (.inl fo)))) s.heap := mw_eq ((congrArg (fun z => mu z aO (.inl (G.2 0, 6, .inr (.inl fo)))) (mu_i hl2)).trans (mu_i hao)).symm hP
  have L154 : ∀ (N154 : Nat) (x : Int64) (ct : Int32) (lo : Int64) (hi : Int64) (g2 : Nat → Int64) (fo2 : Nat → Int64) (hN154 : (hi.toInt - x.toInt + 1).toNat < N154) (hh : hi < 4096) (hO2 : Off 156 f g2), ∀ (H : Heap) (locs : List Loc), mw G.1 vwCl B (mu (mu μ l2 (.inl (G.2 0, 158 * k + 158, .inr (.inl g2)))) aO (.inl (G.2 0, 6, .inr (.inl fo2)))) H → va_S (fun q => B ≤ q) s.heap H locs → ∀ ls : Array Slot, lv_has ls 11 [(0, .ref d), (1, .int (nI v9)), (2, .int (nI (2 * v9))), (3, .int (nI (2 * v9 + 1))), (4, .long lo), (6, .long hi), (8, .int ct), (9, .long x)] → W p l e rv_X3_countFrom_2 s m args below meth c H locs 0 0 Q (F0 m 154 ls []) := by
    intro N154
    induction N154 with
    | zero => intro x ct lo hi g2 fo2 hN154; exact absurd hN154 (Nat.not_lt_zero _)
    | succ N154 ih154 =>
      intro x ct lo hi g2 fo2 hN154 hh hO2 H locs hP hS ls hl
      refine lv_lload hx hb dX3_countFrom_154 (lv_at hl 7 rfl) ?_
      refine lv_lload hx hb dX3_countFrom_156 (lv_at hl 5 rfl) ?_
      refine nl_if_gt (tgt := 191) hx hb dX3_countFrom_158 dX3_countFrom_159 (by decide) (fun hc158 => ?_) (fun hc158 => ?_)
      · refine lv_iload hx hb dX3_countFrom_191 (lv_at hl 6 rfl) ?_
        rw [hQ]
        exact W.iret (v := ct) hx hb hr (fun t99 ht99 hW99 => ⟨⟨ct, mu (mu μ l2 (.inl (G.2 0, 158 * k + 158, .inr (.inl g2)))) aO (.inl (G.2 0, 6, .inr (.inl fo2))), rfl, (⟨_, _, rfl, hO2⟩), by show mw _ _ _ _ t99.heap; rw [ht99]; exact hP⟩, hS.F ht99⟩) hS.2.2 dX3_countFrom_193
      · refine lv_aload_n hx hb dX3_countFrom_162 rfl (lv_at hl 0 rfl) ?_
        refine mw_get (C := RX3) (T := TX3) (N := 7) hx hb hts in_X3_countFrom_X3 hown hK hP ((mu_n ne0_4).trans ((mu_n ne0_3).trans (hd))) rfl 3 (by decide) (hts (.fieldLink RX3 33 "OctagonDesk" "offsets" "[J") (by decide +kernel)) (fun _ h9 => h9) rfl dX3_countFrom_163 ?_
        refine lv_iload_n hx hb dX3_countFrom_166 rfl (lv_at hl 1 rfl) ?_
        refine lv_lload hx hb dX3_countFrom_167 (lv_at hl 7 rfl) ?_
        refine mw_last hx hb hK hP hS 0 (mu_s _ _ _) rfl (by omega) (by omega) dX3_countFrom_169 (fun H locs hP hS => ?_)
        have hP : mw G.1 vwCl B (mu (mu μ l2 (.inl (G.2 0, 158 * k + 158, .inr (.inl g2)))) aO (.inl (G.2 0, 6, .inr (.inl (vp_updL fo2 v9 x))))) _ := mw_eq (mu_u _ _ _ _) hP
        refine lv_iload hx hb dX3_countFrom_170 (lv_at hl 6 rfl) ?_
        refine lv_aload_n hx hb dX3_countFrom_172 rfl (lv_at hl 0 rfl) ?_
        refine lv_iload_n hx hb dX3_countFrom_173 rfl (lv_at hl 1 rfl) ?_
        refine lv_iconst (v := nI 1) hx hb dX3_countFrom_174 (by decide) ?_
        refine nv_iadd hx hb dX3_countFrom_175 ?_
        refine kc_i (va_runV (As := [.int (nI (v9 + 1))]) (rest := [.int ct]) ⟨hx, hb, hml, hown, hts⟩ (v_X3_countFrom_1 l G B (mu (mu μ l2 (.inl (G.2 0, 158 * k + 158, .inr (.inl g2)))) aO (.inl (G.2 0, 6, .inr (.inl (vp_updL fo2 v9 x))))) d aS s2 aT aO aL aR n2 l2 k sc b g2 (vp_updL fo2 v9 x) (v9 + 1) ((mu_n ne0_4).trans ((mu_n ne0_3).trans (hd))) ((mu_n ne1_4).trans ((mu_n ne1_3).trans (hs2))) ((mu_n ne2_4).trans ((mu_n ne2_3).trans (hn2))) ((mu_n hne).trans (mu_s _ _ _)) (mu_s _ _ _) (by omega) (by omega) (fun i h9 => by rw [MV_cong (by omega) (by omega) hO2]; exact hMV i h9) hne) (cwV 1 hts gX3_countFrom_X3_countFrom rfl rfl rfl (by decide +kernel) ⟨Nat.le_of_ble_eq_true rfl, Nat.le_of_ble_eq_true rfl⟩) ⟨KW.blind, hP.recv hK rfl ((mu_n ne0_4).trans ((mu_n ne0_3).trans (hd))), fun U9 hU9 hW9 => ⟨rfl, KW.pre hBs hKK hS hP U9 hU9 hW9⟩⟩ rfl rfl hl.1 rfl (lv_room (Nat.le_of_ble_eq_true rfl)) dX3_countFrom_176 ⟨(Nat.le_of_ble_eq_true rfl), (Nat.le_of_ble_eq_true rfl)⟩) hS (fun r176 m176 H locs hq9 hP hz9 hS => ?_)
        obtain ⟨g176, fo176, he176, ho176⟩ := hq9
        rw [he176] at hP
        have hP : mw G.1 vwCl B (mu (mu μ l2 (.inl (G.2 0, 158 * k + 158, .inr (.inl g176)))) aO (.inl (G.2 0, 6, .inr (.inl fo176)))) _ := mw_eq ((congrArg (fun z => mu z aO (.inl (G.2 0, 6, .inr (.inl fo176)))) ((mu_c _ _ ((Ne.symm hne))).trans (congrArg (fun z => mu z aO (.inl (G.2 0, 6, .inr (.inl (vp_updL fo2 v9 x))))) (mu_u _ _ _ _)))).trans (mu_u _ _ _ _)) hP
        refine lv_iadd hx hb dX3_countFrom_179 ?_
        refine lv_topi (fun v180 ev180 => ?_)
        refine lv_istore (lv' := [(8, .int v180), (0, .ref d), (1, .int (nI v9)), (2, .int (nI (2 * v9))), (3, .int (nI (2 * v9 + 1))), (4, .long lo), (6, .long hi), (9, .long x)]) hx hb dX3_countFrom_180 hl (by decide) rfl (fun ls hl => ?_)
        refine lv_lload hx hb dX3_countFrom_182 (lv_at hl 7 rfl) ?_
        refine lv_lconst (v := 1) hx hb dX3_countFrom_184 (by decide) ?_
        refine lv_ladd hx hb dX3_countFrom_185 ?_
        refine lv_topl (fun v186 ev186 => ?_)
        refine lv_lstore (lv' := [(9, .long v186), (8, .int v180), (0, .ref d), (1, .int (nI v9)), (2, .int (nI (2 * v9))), (3, .int (nI (2 * v9 + 1))), (4, .long lo), (6, .long hi)]) hx hb dX3_countFrom_186 hl (by decide) rfl (fun ls hl => ?_)
        refine lv_goto (tgt := 154) hx hb dX3_countFrom_188 (by decide) ?_
        exact ih154 v186 v180 lo hi g176 fo176 (Nat.lt_of_lt_of_le (cf_m hc158 hh ev186) (Nat.le_of_lt_succ hN154)) (hh) (hO2.tr ho176) _ _ hP hS ls (lv_sub hl [2, 3, 4, 5, 6, 7, 1, 0] rfl)
  have L33 : ∀ (N33 : Nat) (i1 : Nat) (lo : Int64) (hi : Int64) (g1 : Nat → Int64) (hN33 : v9 - i1 < N33) (hi1 : i1 ≤ v9) (hh : hi < 4096) (hO : Off 156 f g1), ∀ (H : Heap) (locs : List Loc), mw G.1 vwCl B (mu (mu μ l2 (.inl (G.2 0, 158 * k + 158, .inr (.inl g1)))) aO (.inl (G.2 0, 6, .inr (.inl fo)))) H → va_S (fun q => B ≤ q) s.heap H locs → ∀ ls : Array Slot, lv_has ls 11 [(0, .ref d), (1, .int (nI v9)), (2, .int (nI (2 * v9))), (3, .int (nI (2 * v9 + 1))), (4, .long lo), (6, .long hi), (8, .int (nI i1))] → W p l e rv_X3_countFrom_2 s m args below meth c H locs 0 0 Q (F0 m 33 ls []) := by
    intro N33
    induction N33 with
    | zero => intro i1 lo hi g1 hN33; exact absurd hN33 (Nat.not_lt_zero _)
    | succ N33 ih33 =>
      intro i1 lo hi g1 hN33 hi1 hh hO H locs hP hS ls hl
      refine lv_iload hx hb dX3_countFrom_33 (lv_at hl 6 rfl) ?_
      refine lv_iload_n hx hb dX3_countFrom_35 rfl (lv_at hl 1 rfl) ?_
      refine nv_icmp_ge (tgt := 147) hx hb (by omega) (by omega) dX3_countFrom_36 (by decide) (fun hc36 => ?_) (fun hc36 => ?_)
      · refine lv_iconst (v := nI 0) hx hb dX3_countFrom_147 (by decide) ?_
        refine lv_istore (lv' := [(8, .int (nI 0)), (0, .ref d), (1, .int (nI v9)), (2, .int (nI (2 * v9))), (3, .int (nI (2 * v9 + 1))), (4, .long lo), (6, .long hi)]) hx hb dX3_countFrom_148 hl (by decide) rfl (fun ls hl => ?_)
        refine lv_lload hx hb dX3_countFrom_150 (lv_at hl 5 rfl) ?_
        refine lv_lstore (lv' := [(9, .long lo), (8, .int (nI 0)), (0, .ref d), (1, .int (nI v9)), (2, .int (nI (2 * v9))), (3, .int (nI (2 * v9 + 1))), (4, .long lo), (6, .long hi)]) hx hb dX3_countFrom_152 hl (by decide) rfl (fun ls hl => ?_)
        exact L154 _ lo (nI 0) lo hi g1 fo (Nat.lt_succ_self _) (hh) (hO) _ _ hP hS ls (lv_sub hl [2, 3, 4, 5, 6, 7, 1, 0] rfl)
      · refine lv_aload_n hx hb dX3_countFrom_39 rfl (lv_at hl 0 rfl) ?_
        refine mw_get (C := RX3) (T := TX3) (N := 7) hx hb hts in_X3_countFrom_X3 hown hK hP ((mu_n ne0_4).trans ((mu_n ne0_3).trans (hd))) rfl 3 (by decide) (hts (.fieldLink RX3 33 "OctagonDesk" "offsets" "[J") (by decide +kernel)) (fun _ h9 => h9) rfl dX3_countFrom_40 ?_
        refine lv_iload hx hb dX3_countFrom_43 (lv_at hl 6 rfl) ?_
        refine mw_lald hx hb hK hP 0 (mu_s _ _ _) rfl (by omega) (by omega) dX3_countFrom_45 ?_
        refine lv_topl (fun v46 ev46 => ?_)
        refine lv_lstore (lv' := [(9, .long v46), (0, .ref d), (1, .int (nI v9)), (2, .int (nI (2 * v9))), (3, .int (nI (2 * v9 + 1))), (4, .long lo), (6, .long hi), (8, .int (nI i1))]) hx hb dX3_countFrom_46 hl (by decide) rfl (fun ls hl => ?_)
        refine lv_lload hx hb dX3_countFrom_48 (lv_at hl 6 rfl) ?_
        refine lv_aload_n hx hb dX3_countFrom_50 rfl (lv_at hl 1 rfl) ?_
        refine mw_get (C := RX3) (T := TX3) (N := 7) hx hb hts in_X3_countFrom_X3 hown hK hP ((mu_n ne0_4).trans ((mu_n ne0_3).trans (hd))) rfl 1 (by decide) (hts (.fieldLink RX3 29 "OctagonDesk" "made" "LOctagonDesk$Shape;") (by decide +kernel)) (fun _ h9 => h9) rfl dX3_countFrom_51 ?_
        refine lv_iload_n hx hb dX3_countFrom_54 rfl (lv_at hl 3 rfl) ?_
        refine lv_iconst (v := nI 2) hx hb dX3_countFrom_55 (by decide) ?_
        refine lv_iload hx hb dX3_countFrom_56 (lv_at hl 7 rfl) ?_
        refine nv_imul hx hb dX3_countFrom_58 ?_
        refine kc_l (va_runV (As := [.int (nI (2 * v9)), .int (nI (2 * i1))]) (rest := [.long hi]) ⟨hx, hb, hml, hown, hts⟩ (v_X1_mostOf l G B (mu (mu μ l2 (.inl (G.2 0, 158 * k + 158, .inr (.inl g1)))) aO (.inl (G.2 0, 6, .inr (.inl fo)))) s2 n2 l2 k b g1 (2 * v9) (2 * i1) ((mu_n ne1_4).trans ((mu_n ne1_3).trans (hs2))) ((mu_n ne2_4).trans ((mu_n ne2_3).trans (hn2))) ((mu_n hne).trans (mu_s _ _ _)) (by omega) (by omega) (by omega)) (cwV 2 hts gX3_countFrom_X1_mostOf rfl rfl rfl (by decide +kernel) ⟨Nat.le_of_ble_eq_true rfl, Nat.le_of_ble_eq_true rfl⟩) ⟨KW.blind, hP.recv hK rfl ((mu_n ne1_4).trans ((mu_n ne1_3).trans (hs2))), fun U9 hU9 hW9 => ⟨rfl, KW.pre hBs hKK hS hP U9 hU9 hW9⟩⟩ rfl rfl hl.1 rfl (lv_room (Nat.le_of_ble_eq_true rfl)) dX3_countFrom_59 ⟨(Nat.le_of_ble_eq_true rfl), (Nat.le_of_ble_eq_true rfl)⟩) hS (fun r59 m59 H locs hq9 hP hz9 hS => ?_)
        obtain ⟨g59, rfl, ho59, hv59⟩ := hq9
        have hP : mw G.1 vwCl B (mu (mu μ l2 (.inl (G.2 0, 158 * k + 158, .inr (.inl g59)))) aO (.inl (G.2 0, 6, .inr (.inl fo)))) _ := mw_eq ((mu_c _ _ ((Ne.symm hne))).trans (congrArg (fun z => mu z aO (.inl (G.2 0, 6, .inr (.inl fo)))) (mu_u _ _ _ _))) hP
        refine lv_lload hx hb dX3_countFrom_62 (lv_at hl 0 rfl) ?_
        refine lv_lsub hx hb dX3_countFrom_64 ?_
        refine va_mmin_long hx hb (hml.trans hl.1.symm) hown (hts (.methodLink RX3 214 Lib.MathLoose.min_long.x) (by decide +kernel)) (hts (.static Lib.MathLoose.min_long.x) (by decide +kernel)) (hts (.initialized "java/lang/Math") (by decide +kernel)) (hts (.code Lib.MathLoose.min_long.x Lib.MathLoose.min_long.code 4 (some .long)) (by decide +kernel)) (Nat.le_of_ble_eq_true rfl) (Nat.le_of_ble_eq_true rfl) (Nat.zero_le _) (Nat.zero_le _) dX3_countFrom_65 ?_
        refine lv_topl (fun v68 ev68 => ?_)
        refine lv_lstore (lv' := [(6, .long v68), (9, .long v46), (0, .ref d), (1, .int (nI v9)), (2, .int (nI (2 * v9))), (3, .int (nI (2 * v9 + 1))), (4, .long lo), (8, .int (nI i1))]) hx hb dX3_countFrom_68 hl (by decide) rfl (fun ls hl => ?_)
        refine lv_lload hx hb dX3_countFrom_70 (lv_at hl 0 rfl) ?_
        refine lv_aload_n hx hb dX3_countFrom_72 rfl (lv_at hl 2 rfl) ?_
        refine mw_get (C := RX3) (T := TX3) (N := 7) hx hb hts in_X3_countFrom_X3 hown hK hP ((mu_n ne0_4).trans ((mu_n ne0_3).trans (hd))) rfl 1 (by decide) (hts (.fieldLink RX3 29 "OctagonDesk" "made" "LOctagonDesk$Shape;") (by decide +kernel)) (fun _ h9 => h9) rfl dX3_countFrom_73 ?_
        refine lv_iload_n hx hb dX3_countFrom_76 rfl (lv_at hl 4 rfl) ?_
        refine lv_iconst (v := nI 2) hx hb dX3_countFrom_77 (by decide) ?_
        refine lv_iload hx hb dX3_countFrom_78 (lv_at hl 7 rfl) ?_
        refine nv_imul hx hb dX3_countFrom_80 ?_
        refine lv_iconst (v := nI 1) hx hb dX3_countFrom_81 (by decide) ?_
        refine nv_iadd hx hb dX3_countFrom_82 ?_
        refine kc_l (va_runV (As := [.int (nI (2 * v9)), .int (nI ((2 * i1) + 1))]) (rest := [.long v68]) ⟨hx, hb, hml, hown, hts⟩ (v_X1_mostOf l G B (mu (mu μ l2 (.inl (G.2 0, 158 * k + 158, .inr (.inl g59)))) aO (.inl (G.2 0, 6, .inr (.inl fo)))) s2 n2 l2 k b g59 (2 * v9) ((2 * i1) + 1) ((mu_n ne1_4).trans ((mu_n ne1_3).trans (hs2))) ((mu_n ne2_4).trans ((mu_n ne2_3).trans (hn2))) ((mu_n hne).trans (mu_s _ _ _)) (by omega) (by omega) (by omega)) (cwV 2 hts gX3_countFrom_X1_mostOf rfl rfl rfl (by decide +kernel) ⟨Nat.le_of_ble_eq_true rfl, Nat.le_of_ble_eq_true rfl⟩) ⟨KW.blind, hP.recv hK rfl ((mu_n ne1_4).trans ((mu_n ne1_3).trans (hs2))), fun U9 hU9 hW9 => ⟨rfl, KW.pre hBs hKK hS hP U9 hU9 hW9⟩⟩ rfl rfl hl.1 rfl (lv_room (Nat.le_of_ble_eq_true rfl)) dX3_countFrom_83 ⟨(Nat.le_of_ble_eq_true rfl), (Nat.le_of_ble_eq_true rfl)⟩) hS (fun r83 m83 H locs hq9 hP hz9 hS => ?_)
        obtain ⟨g83, rfl, ho83, hv83⟩ := hq9
        have hP : mw G.1 vwCl B (mu (mu μ l2 (.inl (G.2 0, 158 * k + 158, .inr (.inl g83)))) aO (.inl (G.2 0, 6, .inr (.inl fo)))) _ := mw_eq ((mu_c _ _ ((Ne.symm hne))).trans (congrArg (fun z => mu z aO (.inl (G.2 0, 6, .inr (.inl fo)))) (mu_u _ _ _ _))) hP
        refine lv_lload hx hb dX3_countFrom_86 (lv_at hl 1 rfl) ?_
        refine lv_ladd hx hb dX3_countFrom_88 ?_
        refine va_mmin_long hx hb (hml.trans hl.1.symm) hown (hts (.methodLink RX3 214 Lib.MathLoose.min_long.x) (by decide +kernel)) (hts (.static Lib.MathLoose.min_long.x) (by decide +kernel)) (hts (.initialized "java/lang/Math") (by decide +kernel)) (hts (.code Lib.MathLoose.min_long.x Lib.MathLoose.min_long.code 4 (some .long)) (by decide +kernel)) (Nat.le_of_ble_eq_true rfl) (Nat.le_of_ble_eq_true rfl) (Nat.zero_le _) (Nat.zero_le _) dX3_countFrom_89 ?_
        refine lv_topl (fun v92 ev92 => ?_)
        refine lv_lstore (lv' := [(6, .long v92), (9, .long v46), (0, .ref d), (1, .int (nI v9)), (2, .int (nI (2 * v9))), (3, .int (nI (2 * v9 + 1))), (4, .long lo), (8, .int (nI i1))]) hx hb dX3_countFrom_92 hl (by decide) rfl (fun ls hl => ?_)
        refine lv_lload hx hb dX3_countFrom_94 (lv_at hl 6 rfl) ?_
        refine lv_lload hx hb dX3_countFrom_96 (lv_at hl 1 rfl) ?_
        refine lv_aload_n hx hb dX3_countFrom_98 rfl (lv_at hl 2 rfl) ?_
        refine mw_get (C := RX3) (T := TX3) (N := 7) hx hb hts in_X3_countFrom_X3 hown hK hP ((mu_n ne0_4).trans ((mu_n ne0_3).trans (hd))) rfl 1 (by decide) (hts (.fieldLink RX3 29 "OctagonDesk" "made" "LOctagonDesk$Shape;") (by decide +kernel)) (fun _ h9 => h9) rfl dX3_countFrom_99 ?_
        refine lv_iload_n hx hb dX3_countFrom_102 rfl (lv_at hl 5 rfl) ?_
        refine lv_iconst (v := nI 2) hx hb dX3_countFrom_103 (by decide) ?_
        refine lv_iload hx hb dX3_countFrom_104 (lv_at hl 7 rfl) ?_
        refine nv_imul hx hb dX3_countFrom_106 ?_
        refine kc_l (va_runV (As := [.int (nI (2 * v9 + 1)), .int (nI (2 * i1))]) (rest := [.long v46, .long lo]) ⟨hx, hb, hml, hown, hts⟩ (v_X1_mostOf l G B (mu (mu μ l2 (.inl (G.2 0, 158 * k + 158, .inr (.inl g83)))) aO (.inl (G.2 0, 6, .inr (.inl fo)))) s2 n2 l2 k b g83 (2 * v9 + 1) (2 * i1) ((mu_n ne1_4).trans ((mu_n ne1_3).trans (hs2))) ((mu_n ne2_4).trans ((mu_n ne2_3).trans (hn2))) ((mu_n hne).trans (mu_s _ _ _)) (by omega) (by omega) (by omega)) (cwV 2 hts gX3_countFrom_X1_mostOf rfl rfl rfl (by decide +kernel) ⟨Nat.le_of_ble_eq_true rfl, Nat.le_of_ble_eq_true rfl⟩) ⟨KW.blind, hP.recv hK rfl ((mu_n ne1_4).trans ((mu_n ne1_3).trans (hs2))), fun U9 hU9 hW9 => ⟨rfl, KW.pre hBs hKK hS hP U9 hU9 hW9⟩⟩ rfl rfl hl.1 rfl (lv_room (Nat.le_of_ble_eq_true rfl)) dX3_countFrom_107 ⟨(Nat.le_of_ble_eq_true rfl), (Nat.le_of_ble_eq_true rfl)⟩) hS (fun r107 m107 H locs hq9 hP hz9 hS => ?_)
        obtain ⟨g107, rfl, ho107, hv107⟩ := hq9
        have hP : mw G.1 vwCl B (mu (mu μ l2 (.inl (G.2 0, 158 * k + 158, .inr (.inl g107)))) aO (.inl (G.2 0, 6, .inr (.inl fo)))) _ := mw_eq ((mu_c _ _ ((Ne.symm hne))).trans (congrArg (fun z => mu z aO (.inl (G.2 0, 6, .inr (.inl fo)))) (mu_u _ _ _ _))) hP
        refine lv_lsub hx hb dX3_countFrom_110 ?_
        refine va_mmax_long hx hb (hml.trans hl.1.symm) hown (hts (.methodLink RX3 220 Lib.MathLoose.max_long.x) (by decide +kernel)) (hts (.static Lib.MathLoose.max_long.x) (by decide +kernel)) (hts (.initialized "java/lang/Math") (by decide +kernel)) (hts (.code Lib.MathLoose.max_long.x Lib.MathLoose.max_long.code 4 (some .long)) (by decide +kernel)) (Nat.le_of_ble_eq_true rfl) (Nat.le_of_ble_eq_true rfl) (Nat.zero_le _) (Nat.zero_le _) dX3_countFrom_111 ?_
        refine lv_topl (fun v114 ev114 => ?_)
        refine lv_lstore (lv' := [(4, .long v114), (6, .long v92), (9, .long v46), (0, .ref d), (1, .int (nI v9)), (2, .int (nI (2 * v9))), (3, .int (nI (2 * v9 + 1))), (8, .int (nI i1))]) hx hb dX3_countFrom_114 hl (by decide) rfl (fun ls hl => ?_)
        refine lv_lload hx hb dX3_countFrom_116 (lv_at hl 0 rfl) ?_
        refine lv_lload hx hb dX3_countFrom_118 (lv_at hl 2 rfl) ?_
        refine lv_lneg hx hb dX3_countFrom_120 ?_
        refine lv_aload_n hx hb dX3_countFrom_121 rfl (lv_at hl 3 rfl) ?_
        refine mw_get (C := RX3) (T := TX3) (N := 7) hx hb hts in_X3_countFrom_X3 hown hK hP ((mu_n ne0_4).trans ((mu_n ne0_3).trans (hd))) rfl 1 (by decide) (hts (.fieldLink RX3 29 "OctagonDesk" "made" "LOctagonDesk$Shape;") (by decide +kernel)) (fun _ h9 => h9) rfl dX3_countFrom_122 ?_
        refine lv_iload_n hx hb dX3_countFrom_125 rfl (lv_at hl 6 rfl) ?_
        refine lv_iconst (v := nI 2) hx hb dX3_countFrom_126 (by decide) ?_
        refine lv_iload hx hb dX3_countFrom_127 (lv_at hl 7 rfl) ?_
        refine nv_imul hx hb dX3_countFrom_129 ?_
        refine lv_iconst (v := nI 1) hx hb dX3_countFrom_130 (by decide) ?_
        refine nv_iadd hx hb dX3_countFrom_131 ?_
        refine kc_l (va_runV (As := [.int (nI (2 * v9 + 1)), .int (nI ((2 * i1) + 1))]) (rest := [.long (-v46), .long v114]) ⟨hx, hb, hml, hown, hts⟩ (v_X1_mostOf l G B (mu (mu μ l2 (.inl (G.2 0, 158 * k + 158, .inr (.inl g107)))) aO (.inl (G.2 0, 6, .inr (.inl fo)))) s2 n2 l2 k b g107 (2 * v9 + 1) ((2 * i1) + 1) ((mu_n ne1_4).trans ((mu_n ne1_3).trans (hs2))) ((mu_n ne2_4).trans ((mu_n ne2_3).trans (hn2))) ((mu_n hne).trans (mu_s _ _ _)) (by omega) (by omega) (by omega)) (cwV 2 hts gX3_countFrom_X1_mostOf rfl rfl rfl (by decide +kernel) ⟨Nat.le_of_ble_eq_true rfl, Nat.le_of_ble_eq_true rfl⟩) ⟨KW.blind, hP.recv hK rfl ((mu_n ne1_4).trans ((mu_n ne1_3).trans (hs2))), fun U9 hU9 hW9 => ⟨rfl, KW.pre hBs hKK hS hP U9 hU9 hW9⟩⟩ rfl rfl hl.1 rfl (lv_room (Nat.le_of_ble_eq_true rfl)) dX3_countFrom_132 ⟨(Nat.le_of_ble_eq_true rfl), (Nat.le_of_ble_eq_true rfl)⟩) hS (fun r132 m132 H locs hq9 hP hz9 hS => ?_)
        obtain ⟨g132, rfl, ho132, hv132⟩ := hq9
        have hP : mw G.1 vwCl B (mu (mu μ l2 (.inl (G.2 0, 158 * k + 158, .inr (.inl g132)))) aO (.inl (G.2 0, 6, .inr (.inl fo)))) _ := mw_eq ((mu_c _ _ ((Ne.symm hne))).trans (congrArg (fun z => mu z aO (.inl (G.2 0, 6, .inr (.inl fo)))) (mu_u _ _ _ _))) hP
        refine lv_lsub hx hb dX3_countFrom_135 ?_
        refine va_mmax_long hx hb (hml.trans hl.1.symm) hown (hts (.methodLink RX3 220 Lib.MathLoose.max_long.x) (by decide +kernel)) (hts (.static Lib.MathLoose.max_long.x) (by decide +kernel)) (hts (.initialized "java/lang/Math") (by decide +kernel)) (hts (.code Lib.MathLoose.max_long.x Lib.MathLoose.max_long.code 4 (some .long)) (by decide +kernel)) (Nat.le_of_ble_eq_true rfl) (Nat.le_of_ble_eq_true rfl) (Nat.zero_le _) (Nat.zero_le _) dX3_countFrom_136 ?_
        refine lv_topl (fun v139 ev139 => ?_)
        refine lv_lstore (lv' := [(4, .long v139), (6, .long v92), (9, .long v46), (0, .ref d), (1, .int (nI v9)), (2, .int (nI (2 * v9))), (3, .int (nI (2 * v9 + 1))), (8, .int (nI i1))]) hx hb dX3_countFrom_139 hl (by decide) rfl (fun ls hl => ?_)
        refine lv_iinc (v := nI (i1 + 1)) (lv' := [(8, .int (nI (i1 + 1))), (4, .long v139), (6, .long v92), (9, .long v46), (0, .ref d), (1, .int (nI v9)), (2, .int (nI (2 * v9))), (3, .int (nI (2 * v9 + 1)))]) hx hb dX3_countFrom_141 hl (k := 7) rfl (nI_add _ _) (by decide) rfl (fun ls hl => ?_)
        refine lv_goto (tgt := 33) hx hb dX3_countFrom_144 (by decide) ?_
        exact ih33 (i1 + 1) v139 v92 g132 (by omega) (by omega) (cf_min ev92 (cf_min ev68 hh)) ((((hO.tr ho59).tr ho83).tr ho107).tr ho132) _ _ hP hS ls (lv_sub hl [4, 5, 6, 7, 1, 2, 0] rfl)
  have hl := lv_entry ([.ref d, .int (nI v9)]) (n := 11) (Nat.le_of_ble_eq_true rfl)
  have he9 : entryFrame m args 11 = entryFrame m ([.ref d, .int (nI v9)] : List Value).toArray 11 := by rw [hargs]
  rw [he9, lg_entry_eq]
  generalize (lg_sl ([.ref d, .int (nI v9)]) ++ List.replicate (11 - (lg_sl ([.ref d, .int (nI v9)])).length) Slot.unset).toArray = ls at hl ⊢
  have hl : lv_has ls 11 [(0, .ref d), (1, .int (nI v9))] := hl
  refine lv_iload_n hx hb dX3_countFrom_0 rfl (lv_at hl 1 rfl) ?_
  refine lv_bipush (v := nI 6) hx hb dX3_countFrom_1 (by decide) ?_
  refine nv_icmp_lt (tgt := 8) hx hb (by omega) (by omega) dX3_countFrom_3 (by decide) (fun hc3 => ?_) (fun hc3 => ?_)
  · refine lv_iconst (v := nI 2) hx hb dX3_countFrom_8 (by decide) ?_
    refine lv_iload_n hx hb dX3_countFrom_9 rfl (lv_at hl 1 rfl) ?_
    refine nv_imul hx hb dX3_countFrom_10 ?_
    refine lv_istore_n (lv' := [(2, .int (nI (2 * v9))), (0, .ref d), (1, .int (nI v9))]) hx hb dX3_countFrom_11 rfl hl (by decide) rfl (fun ls hl => ?_)
    refine lv_iload_n hx hb dX3_countFrom_12 rfl (lv_at hl 0 rfl) ?_
    refine lv_iconst (v := nI 1) hx hb dX3_countFrom_13 (by decide) ?_
    refine nv_iadd hx hb dX3_countFrom_14 ?_
    refine lv_istore_n (lv' := [(3, .int (nI ((2 * v9) + 1))), (2, .int (nI (2 * v9))), (0, .ref d), (1, .int (nI v9))]) hx hb dX3_countFrom_15 rfl hl (by decide) rfl (fun ls hl => ?_)
    refine lv_lconst (v := 0) hx hb dX3_countFrom_16 (by decide) ?_
    refine lv_lstore (lv' := [(4, .long 0), (3, .int (nI ((2 * v9) + 1))), (2, .int (nI (2 * v9))), (0, .ref d), (1, .int (nI v9))]) hx hb dX3_countFrom_17 hl (by decide) rfl (fun ls hl => ?_)
    refine lv_aload_n hx hb dX3_countFrom_19 rfl (lv_at hl 3 rfl) ?_
    refine mw_get (C := RX3) (T := TX3) (N := 7) hx hb hts in_X3_countFrom_X3 hown hK hP ((mu_n ne0_4).trans ((mu_n ne0_3).trans (hd))) rfl 1 (by decide) (hts (.fieldLink RX3 29 "OctagonDesk" "made" "LOctagonDesk$Shape;") (by decide +kernel)) (fun _ h9 => h9) rfl dX3_countFrom_20 ?_
    refine lv_iload_n hx hb dX3_countFrom_23 rfl (lv_at hl 2 rfl) ?_
    refine lv_iload_n hx hb dX3_countFrom_24 rfl (lv_at hl 2 rfl) ?_
    refine kc_l (va_runV (As := [.int (nI (2 * v9)), .int (nI (2 * v9))]) (rest := []) ⟨hx, hb, hml, hown, hts⟩ (v_X1_mostOf l G B (mu (mu μ l2 (.inl (G.2 0, 158 * k + 158, .inr (.inl f)))) aO (.inl (G.2 0, 6, .inr (.inl fo)))) s2 n2 l2 k b f (2 * v9) (2 * v9) ((mu_n ne1_4).trans ((mu_n ne1_3).trans (hs2))) ((mu_n ne2_4).trans ((mu_n ne2_3).trans (hn2))) ((mu_n hne).trans (mu_s _ _ _)) (by omega) (by omega) (by omega)) (cwV 2 hts gX3_countFrom_X1_mostOf rfl rfl rfl (by decide +kernel) ⟨Nat.le_of_ble_eq_true rfl, Nat.le_of_ble_eq_true rfl⟩) ⟨KW.blind, hP.recv hK rfl ((mu_n ne1_4).trans ((mu_n ne1_3).trans (hs2))), fun U9 hU9 hW9 => ⟨rfl, KW.pre hBs hKK hS hP U9 hU9 hW9⟩⟩ rfl rfl hl.1 rfl (lv_room (Nat.le_of_ble_eq_true rfl)) dX3_countFrom_25 ⟨(Nat.le_of_ble_eq_true rfl), (Nat.le_of_ble_eq_true rfl)⟩) hS (fun r25 m25 H locs hq9 hP hz9 hS => ?_)
    obtain ⟨g25, rfl, ho25, hv25⟩ := hq9
    have hP : mw G.1 vwCl B (mu (mu μ l2 (.inl (G.2 0, 158 * k + 158, .inr (.inl g25)))) aO (.inl (G.2 0, 6, .inr (.inl fo)))) _ := mw_eq ((mu_c _ _ ((Ne.symm hne))).trans (congrArg (fun z => mu z aO (.inl (G.2 0, 6, .inr (.inl fo)))) (mu_u _ _ _ _))) hP
    refine lv_lstore (lv' := [(6, .long r25), (4, .long 0), (3, .int (nI ((2 * v9) + 1))), (2, .int (nI (2 * v9))), (0, .ref d), (1, .int (nI v9))]) hx hb dX3_countFrom_28 hl (by decide) rfl (fun ls hl => ?_)
    refine lv_iconst (v := nI 0) hx hb dX3_countFrom_30 (by decide) ?_
    refine lv_istore (lv' := [(8, .int (nI 0)), (6, .long r25), (4, .long 0), (3, .int (nI ((2 * v9) + 1))), (2, .int (nI (2 * v9))), (0, .ref d), (1, .int (nI v9))]) hx hb dX3_countFrom_31 hl (by decide) rfl (fun ls hl => ?_)
    exact L33 _ 0 0 r25 g25 (Nat.lt_succ_self _) (by omega) (by rw [hv25]; exact hMV v9 (by omega)) (ho25) _ _ hP hS ls (lv_sub hl [5, 6, 4, 3, 2, 1, 0] rfl)
  · exfalso; omega

abbrev rv_X3_countFrom_3 : Room := { frames := 5, cells := 0, slots := 0, locals := 131 }
set_option maxHeartbeats 4000000 in
set_option maxRecDepth 100000 in
theorem v_X3_countFrom_3 (l : Launch) (G : GG) (B : Nat) (μ : mp) (d aS s2 aT aO aL aR n2 l2 k sc b : Nat) (f : Nat → Int64) (fo : Nat → Int64) (v9 : Nat) (hd : μ d = some (.inr (3, [.ref aS, .ref s2, .ref aT, .ref aO, .int (nI sc), .ref aL, .ref aR]))) (hs2 : μ s2 = some (.inr (1, [.ref n2, .int (nI b)]))) (hn2 : μ n2 = some (.inr (0, [.int (nI 158), .int (nI 157), .ref l2, .int (nI (158 * k))]))) (hl2 : μ l2 = some (.inl (G.2 0, 158 * k + 158, .inr (.inl f)))) (hao : μ aO = some (.inl (G.2 0, 6, .inr (.inl fo)))) (hk : k ≤ 1022) (hv9 : v9 + 3 = 6) (hMV : ∀ i, i < 6 → MV k f (2 * i) (2 * i) < 4096) (hne : l2 ≠ aO) : Met l yX3_countFrom wsX3_countFrom rv_X3_countFrom_3 (va_Pc [.ref d, .int (nI v9)] (KW G B μ)) (va_Qi (fun r μ2 => ∃ g9 fo9 : Nat → Int64, μ2 = mu (mu μ l2 (.inl (G.2 0, 158 * k + 158, .inr (.inl g9)))) aO (.inl (G.2 0, 6, .inr (.inl fo9))) ∧ Off 156 f g9) (BB G B) (fun q => B ≤ q)) 0 0 (fun q => B ≤ q) := by
  refine Met.ofW (cc := cX3_countFrom) (maxL := 11) (ret := (some .int)) (by decide) rfl ?_
  intro p e s m args below meth c s₁ B9 hml hv
  obtain ⟨hargs, hBs, hP, hKK⟩ := hv
  have hx := B9.exec
  have hb := B9.bytes
  have hr := B9.returns
  have hts := atoms_spec (ws := wsX3_countFrom) B9.pre
  have hown : s.vm.findClass RX3 = some m.cls := findClass_of_methodNamed B9.named
  have hlocks := B9.notSynchronized
  have hK := hKK.k
  have hS : va_S (fun q => B ≤ q) s.heap s.heap [] := va_S.rf
  obtain ⟨Q, hQ⟩ : ∃ Q, Q = MQ below (va_Qi (fun r μ2 => ∃ g9 fo9 : Nat → Int64, μ2 = mu (mu μ l2 (.inl (G.2 0, 158 * k + 158, .inr (.inl g9)))) aO (.inl (G.2 0, 6, .inr (.inl fo9))) ∧ Off 156 f g9) (BB G B) (fun q => B ≤ q)) args s 0 0 (fun q => B ≤ q) := ⟨_, rfl⟩
  rw [← hQ]
  have ne0_1 : d ≠ s2 := mp_ne hd hs2 (by simp)
  have ne0_2 : d ≠ n2 := mp_ne hd hn2 (by simp)
  have ne0_3 : d ≠ l2 := mp_ne hd hl2 (by simp)
  have ne0_4 : d ≠ aO := mp_ne hd hao (by simp)
  have ne1_2 : s2 ≠ n2 := mp_ne hs2 hn2 (by simp)
  have ne1_3 : s2 ≠ l2 := mp_ne hs2 hl2 (by simp)
  have ne1_4 : s2 ≠ aO := mp_ne hs2 hao (by simp)
  have ne2_3 : n2 ≠ l2 := mp_ne hn2 hl2 (by simp)
  have ne2_4 : n2 ≠ aO := mp_ne hn2 hao (by simp)
  have in_X3_countFrom_X3 : ∀ w ∈ wsX30, w ∈ wsX3_countFrom := by decide +kernel
  have hP : mw G.1 vwCl B (mu (mu μ l2 (.inl (G.2 0, 158 * k + 158, .inr (.inl f)))) aO (.inl (G.2 0, 6, .inr (.inl fo)))) s.heap := mw_eq ((congrArg (fun z => mu z aO (.inl (G.2 0, 6, .inr (.inl fo)))) (mu_i hl2)).trans (mu_i hao)).symm hP
  have L154 : ∀ (N154 : Nat) (x : Int64) (ct : Int32) (lo : Int64) (hi : Int64) (g2 : Nat → Int64) (fo2 : Nat → Int64) (hN154 : (hi.toInt - x.toInt + 1).toNat < N154) (hh : hi < 4096) (hO2 : Off 156 f g2), ∀ (H : Heap) (locs : List Loc), mw G.1 vwCl B (mu (mu μ l2 (.inl (G.2 0, 158 * k + 158, .inr (.inl g2)))) aO (.inl (G.2 0, 6, .inr (.inl fo2)))) H → va_S (fun q => B ≤ q) s.heap H locs → ∀ ls : Array Slot, lv_has ls 11 [(0, .ref d), (1, .int (nI v9)), (2, .int (nI (2 * v9))), (3, .int (nI (2 * v9 + 1))), (4, .long lo), (6, .long hi), (8, .int ct), (9, .long x)] → W p l e rv_X3_countFrom_3 s m args below meth c H locs 0 0 Q (F0 m 154 ls []) := by
    intro N154
    induction N154 with
    | zero => intro x ct lo hi g2 fo2 hN154; exact absurd hN154 (Nat.not_lt_zero _)
    | succ N154 ih154 =>
      intro x ct lo hi g2 fo2 hN154 hh hO2 H locs hP hS ls hl
      refine lv_lload hx hb dX3_countFrom_154 (lv_at hl 7 rfl) ?_
      refine lv_lload hx hb dX3_countFrom_156 (lv_at hl 5 rfl) ?_
      refine nl_if_gt (tgt := 191) hx hb dX3_countFrom_158 dX3_countFrom_159 (by decide) (fun hc158 => ?_) (fun hc158 => ?_)
      · refine lv_iload hx hb dX3_countFrom_191 (lv_at hl 6 rfl) ?_
        rw [hQ]
        exact W.iret (v := ct) hx hb hr (fun t99 ht99 hW99 => ⟨⟨ct, mu (mu μ l2 (.inl (G.2 0, 158 * k + 158, .inr (.inl g2)))) aO (.inl (G.2 0, 6, .inr (.inl fo2))), rfl, (⟨_, _, rfl, hO2⟩), by show mw _ _ _ _ t99.heap; rw [ht99]; exact hP⟩, hS.F ht99⟩) hS.2.2 dX3_countFrom_193
      · refine lv_aload_n hx hb dX3_countFrom_162 rfl (lv_at hl 0 rfl) ?_
        refine mw_get (C := RX3) (T := TX3) (N := 7) hx hb hts in_X3_countFrom_X3 hown hK hP ((mu_n ne0_4).trans ((mu_n ne0_3).trans (hd))) rfl 3 (by decide) (hts (.fieldLink RX3 33 "OctagonDesk" "offsets" "[J") (by decide +kernel)) (fun _ h9 => h9) rfl dX3_countFrom_163 ?_
        refine lv_iload_n hx hb dX3_countFrom_166 rfl (lv_at hl 1 rfl) ?_
        refine lv_lload hx hb dX3_countFrom_167 (lv_at hl 7 rfl) ?_
        refine mw_last hx hb hK hP hS 0 (mu_s _ _ _) rfl (by omega) (by omega) dX3_countFrom_169 (fun H locs hP hS => ?_)
        have hP : mw G.1 vwCl B (mu (mu μ l2 (.inl (G.2 0, 158 * k + 158, .inr (.inl g2)))) aO (.inl (G.2 0, 6, .inr (.inl (vp_updL fo2 v9 x))))) _ := mw_eq (mu_u _ _ _ _) hP
        refine lv_iload hx hb dX3_countFrom_170 (lv_at hl 6 rfl) ?_
        refine lv_aload_n hx hb dX3_countFrom_172 rfl (lv_at hl 0 rfl) ?_
        refine lv_iload_n hx hb dX3_countFrom_173 rfl (lv_at hl 1 rfl) ?_
        refine lv_iconst (v := nI 1) hx hb dX3_countFrom_174 (by decide) ?_
        refine nv_iadd hx hb dX3_countFrom_175 ?_
        refine kc_i (va_runV (As := [.int (nI (v9 + 1))]) (rest := [.int ct]) ⟨hx, hb, hml, hown, hts⟩ (v_X3_countFrom_2 l G B (mu (mu μ l2 (.inl (G.2 0, 158 * k + 158, .inr (.inl g2)))) aO (.inl (G.2 0, 6, .inr (.inl (vp_updL fo2 v9 x))))) d aS s2 aT aO aL aR n2 l2 k sc b g2 (vp_updL fo2 v9 x) (v9 + 1) ((mu_n ne0_4).trans ((mu_n ne0_3).trans (hd))) ((mu_n ne1_4).trans ((mu_n ne1_3).trans (hs2))) ((mu_n ne2_4).trans ((mu_n ne2_3).trans (hn2))) ((mu_n hne).trans (mu_s _ _ _)) (mu_s _ _ _) (by omega) (by omega) (fun i h9 => by rw [MV_cong (by omega) (by omega) hO2]; exact hMV i h9) hne) (cwV 1 hts gX3_countFrom_X3_countFrom rfl rfl rfl (by decide +kernel) ⟨Nat.le_of_ble_eq_true rfl, Nat.le_of_ble_eq_true rfl⟩) ⟨KW.blind, hP.recv hK rfl ((mu_n ne0_4).trans ((mu_n ne0_3).trans (hd))), fun U9 hU9 hW9 => ⟨rfl, KW.pre hBs hKK hS hP U9 hU9 hW9⟩⟩ rfl rfl hl.1 rfl (lv_room (Nat.le_of_ble_eq_true rfl)) dX3_countFrom_176 ⟨(Nat.le_of_ble_eq_true rfl), (Nat.le_of_ble_eq_true rfl)⟩) hS (fun r176 m176 H locs hq9 hP hz9 hS => ?_)
        obtain ⟨g176, fo176, he176, ho176⟩ := hq9
        rw [he176] at hP
        have hP : mw G.1 vwCl B (mu (mu μ l2 (.inl (G.2 0, 158 * k + 158, .inr (.inl g176)))) aO (.inl (G.2 0, 6, .inr (.inl fo176)))) _ := mw_eq ((congrArg (fun z => mu z aO (.inl (G.2 0, 6, .inr (.inl fo176)))) ((mu_c _ _ ((Ne.symm hne))).trans (congrArg (fun z => mu z aO (.inl (G.2 0, 6, .inr (.inl (vp_updL fo2 v9 x))))) (mu_u _ _ _ _)))).trans (mu_u _ _ _ _)) hP
        refine lv_iadd hx hb dX3_countFrom_179 ?_
        refine lv_topi (fun v180 ev180 => ?_)
        refine lv_istore (lv' := [(8, .int v180), (0, .ref d), (1, .int (nI v9)), (2, .int (nI (2 * v9))), (3, .int (nI (2 * v9 + 1))), (4, .long lo), (6, .long hi), (9, .long x)]) hx hb dX3_countFrom_180 hl (by decide) rfl (fun ls hl => ?_)
        refine lv_lload hx hb dX3_countFrom_182 (lv_at hl 7 rfl) ?_
        refine lv_lconst (v := 1) hx hb dX3_countFrom_184 (by decide) ?_
        refine lv_ladd hx hb dX3_countFrom_185 ?_
        refine lv_topl (fun v186 ev186 => ?_)
        refine lv_lstore (lv' := [(9, .long v186), (8, .int v180), (0, .ref d), (1, .int (nI v9)), (2, .int (nI (2 * v9))), (3, .int (nI (2 * v9 + 1))), (4, .long lo), (6, .long hi)]) hx hb dX3_countFrom_186 hl (by decide) rfl (fun ls hl => ?_)
        refine lv_goto (tgt := 154) hx hb dX3_countFrom_188 (by decide) ?_
        exact ih154 v186 v180 lo hi g176 fo176 (Nat.lt_of_lt_of_le (cf_m hc158 hh ev186) (Nat.le_of_lt_succ hN154)) (hh) (hO2.tr ho176) _ _ hP hS ls (lv_sub hl [2, 3, 4, 5, 6, 7, 1, 0] rfl)
  have L33 : ∀ (N33 : Nat) (i1 : Nat) (lo : Int64) (hi : Int64) (g1 : Nat → Int64) (hN33 : v9 - i1 < N33) (hi1 : i1 ≤ v9) (hh : hi < 4096) (hO : Off 156 f g1), ∀ (H : Heap) (locs : List Loc), mw G.1 vwCl B (mu (mu μ l2 (.inl (G.2 0, 158 * k + 158, .inr (.inl g1)))) aO (.inl (G.2 0, 6, .inr (.inl fo)))) H → va_S (fun q => B ≤ q) s.heap H locs → ∀ ls : Array Slot, lv_has ls 11 [(0, .ref d), (1, .int (nI v9)), (2, .int (nI (2 * v9))), (3, .int (nI (2 * v9 + 1))), (4, .long lo), (6, .long hi), (8, .int (nI i1))] → W p l e rv_X3_countFrom_3 s m args below meth c H locs 0 0 Q (F0 m 33 ls []) := by
    intro N33
    induction N33 with
    | zero => intro i1 lo hi g1 hN33; exact absurd hN33 (Nat.not_lt_zero _)
    | succ N33 ih33 =>
      intro i1 lo hi g1 hN33 hi1 hh hO H locs hP hS ls hl
      refine lv_iload hx hb dX3_countFrom_33 (lv_at hl 6 rfl) ?_
      refine lv_iload_n hx hb dX3_countFrom_35 rfl (lv_at hl 1 rfl) ?_
      refine nv_icmp_ge (tgt := 147) hx hb (by omega) (by omega) dX3_countFrom_36 (by decide) (fun hc36 => ?_) (fun hc36 => ?_)
      · refine lv_iconst (v := nI 0) hx hb dX3_countFrom_147 (by decide) ?_
        refine lv_istore (lv' := [(8, .int (nI 0)), (0, .ref d), (1, .int (nI v9)), (2, .int (nI (2 * v9))), (3, .int (nI (2 * v9 + 1))), (4, .long lo), (6, .long hi)]) hx hb dX3_countFrom_148 hl (by decide) rfl (fun ls hl => ?_)
        refine lv_lload hx hb dX3_countFrom_150 (lv_at hl 5 rfl) ?_
        refine lv_lstore (lv' := [(9, .long lo), (8, .int (nI 0)), (0, .ref d), (1, .int (nI v9)), (2, .int (nI (2 * v9))), (3, .int (nI (2 * v9 + 1))), (4, .long lo), (6, .long hi)]) hx hb dX3_countFrom_152 hl (by decide) rfl (fun ls hl => ?_)
        exact L154 _ lo (nI 0) lo hi g1 fo (Nat.lt_succ_self _) (hh) (hO) _ _ hP hS ls (lv_sub hl [2, 3, 4, 5, 6, 7, 1, 0] rfl)
      · refine lv_aload_n hx hb dX3_countFrom_39 rfl (lv_at hl 0 rfl) ?_
        refine mw_get (C := RX3) (T := TX3) (N := 7) hx hb hts in_X3_countFrom_X3 hown hK hP ((mu_n ne0_4).trans ((mu_n ne0_3).trans (hd))) rfl 3 (by decide) (hts (.fieldLink RX3 33 "OctagonDesk" "offsets" "[J") (by decide +kernel)) (fun _ h9 => h9) rfl dX3_countFrom_40 ?_
        refine lv_iload hx hb dX3_countFrom_43 (lv_at hl 6 rfl) ?_
        refine mw_lald hx hb hK hP 0 (mu_s _ _ _) rfl (by omega) (by omega) dX3_countFrom_45 ?_
        refine lv_topl (fun v46 ev46 => ?_)
        refine lv_lstore (lv' := [(9, .long v46), (0, .ref d), (1, .int (nI v9)), (2, .int (nI (2 * v9))), (3, .int (nI (2 * v9 + 1))), (4, .long lo), (6, .long hi), (8, .int (nI i1))]) hx hb dX3_countFrom_46 hl (by decide) rfl (fun ls hl => ?_)
        refine lv_lload hx hb dX3_countFrom_48 (lv_at hl 6 rfl) ?_
        refine lv_aload_n hx hb dX3_countFrom_50 rfl (lv_at hl 1 rfl) ?_
        refine mw_get (C := RX3) (T := TX3) (N := 7) hx hb hts in_X3_countFrom_X3 hown hK hP ((mu_n ne0_4).trans ((mu_n ne0_3).trans (hd))) rfl 1 (by decide) (hts (.fieldLink RX3 29 "OctagonDesk" "made" "LOctagonDesk$Shape;") (by decide +kernel)) (fun _ h9 => h9) rfl dX3_countFrom_51 ?_
        refine lv_iload_n hx hb dX3_countFrom_54 rfl (lv_at hl 3 rfl) ?_
        refine lv_iconst (v := nI 2) hx hb dX3_countFrom_55 (by decide) ?_
        refine lv_iload hx hb dX3_countFrom_56 (lv_at hl 7 rfl) ?_
        refine nv_imul hx hb dX3_countFrom_58 ?_
        refine kc_l (va_runV (As := [.int (nI (2 * v9)), .int (nI (2 * i1))]) (rest := [.long hi]) ⟨hx, hb, hml, hown, hts⟩ (v_X1_mostOf l G B (mu (mu μ l2 (.inl (G.2 0, 158 * k + 158, .inr (.inl g1)))) aO (.inl (G.2 0, 6, .inr (.inl fo)))) s2 n2 l2 k b g1 (2 * v9) (2 * i1) ((mu_n ne1_4).trans ((mu_n ne1_3).trans (hs2))) ((mu_n ne2_4).trans ((mu_n ne2_3).trans (hn2))) ((mu_n hne).trans (mu_s _ _ _)) (by omega) (by omega) (by omega)) (cwV 2 hts gX3_countFrom_X1_mostOf rfl rfl rfl (by decide +kernel) ⟨Nat.le_of_ble_eq_true rfl, Nat.le_of_ble_eq_true rfl⟩) ⟨KW.blind, hP.recv hK rfl ((mu_n ne1_4).trans ((mu_n ne1_3).trans (hs2))), fun U9 hU9 hW9 => ⟨rfl, KW.pre hBs hKK hS hP U9 hU9 hW9⟩⟩ rfl rfl hl.1 rfl (lv_room (Nat.le_of_ble_eq_true rfl)) dX3_countFrom_59 ⟨(Nat.le_of_ble_eq_true rfl), (Nat.le_of_ble_eq_true rfl)⟩) hS (fun r59 m59 H locs hq9 hP hz9 hS => ?_)
        obtain ⟨g59, rfl, ho59, hv59⟩ := hq9
        have hP : mw G.1 vwCl B (mu (mu μ l2 (.inl (G.2 0, 158 * k + 158, .inr (.inl g59)))) aO (.inl (G.2 0, 6, .inr (.inl fo)))) _ := mw_eq ((mu_c _ _ ((Ne.symm hne))).trans (congrArg (fun z => mu z aO (.inl (G.2 0, 6, .inr (.inl fo)))) (mu_u _ _ _ _))) hP
        refine lv_lload hx hb dX3_countFrom_62 (lv_at hl 0 rfl) ?_
        refine lv_lsub hx hb dX3_countFrom_64 ?_
        refine va_mmin_long hx hb (hml.trans hl.1.symm) hown (hts (.methodLink RX3 214 Lib.MathLoose.min_long.x) (by decide +kernel)) (hts (.static Lib.MathLoose.min_long.x) (by decide +kernel)) (hts (.initialized "java/lang/Math") (by decide +kernel)) (hts (.code Lib.MathLoose.min_long.x Lib.MathLoose.min_long.code 4 (some .long)) (by decide +kernel)) (Nat.le_of_ble_eq_true rfl) (Nat.le_of_ble_eq_true rfl) (Nat.zero_le _) (Nat.zero_le _) dX3_countFrom_65 ?_
        refine lv_topl (fun v68 ev68 => ?_)
        refine lv_lstore (lv' := [(6, .long v68), (9, .long v46), (0, .ref d), (1, .int (nI v9)), (2, .int (nI (2 * v9))), (3, .int (nI (2 * v9 + 1))), (4, .long lo), (8, .int (nI i1))]) hx hb dX3_countFrom_68 hl (by decide) rfl (fun ls hl => ?_)
        refine lv_lload hx hb dX3_countFrom_70 (lv_at hl 0 rfl) ?_
        refine lv_aload_n hx hb dX3_countFrom_72 rfl (lv_at hl 2 rfl) ?_
        refine mw_get (C := RX3) (T := TX3) (N := 7) hx hb hts in_X3_countFrom_X3 hown hK hP ((mu_n ne0_4).trans ((mu_n ne0_3).trans (hd))) rfl 1 (by decide) (hts (.fieldLink RX3 29 "OctagonDesk" "made" "LOctagonDesk$Shape;") (by decide +kernel)) (fun _ h9 => h9) rfl dX3_countFrom_73 ?_
        refine lv_iload_n hx hb dX3_countFrom_76 rfl (lv_at hl 4 rfl) ?_
        refine lv_iconst (v := nI 2) hx hb dX3_countFrom_77 (by decide) ?_
        refine lv_iload hx hb dX3_countFrom_78 (lv_at hl 7 rfl) ?_
        refine nv_imul hx hb dX3_countFrom_80 ?_
        refine lv_iconst (v := nI 1) hx hb dX3_countFrom_81 (by decide) ?_
        refine nv_iadd hx hb dX3_countFrom_82 ?_
        refine kc_l (va_runV (As := [.int (nI (2 * v9)), .int (nI ((2 * i1) + 1))]) (rest := [.long v68]) ⟨hx, hb, hml, hown, hts⟩ (v_X1_mostOf l G B (mu (mu μ l2 (.inl (G.2 0, 158 * k + 158, .inr (.inl g59)))) aO (.inl (G.2 0, 6, .inr (.inl fo)))) s2 n2 l2 k b g59 (2 * v9) ((2 * i1) + 1) ((mu_n ne1_4).trans ((mu_n ne1_3).trans (hs2))) ((mu_n ne2_4).trans ((mu_n ne2_3).trans (hn2))) ((mu_n hne).trans (mu_s _ _ _)) (by omega) (by omega) (by omega)) (cwV 2 hts gX3_countFrom_X1_mostOf rfl rfl rfl (by decide +kernel) ⟨Nat.le_of_ble_eq_true rfl, Nat.le_of_ble_eq_true rfl⟩) ⟨KW.blind, hP.recv hK rfl ((mu_n ne1_4).trans ((mu_n ne1_3).trans (hs2))), fun U9 hU9 hW9 => ⟨rfl, KW.pre hBs hKK hS hP U9 hU9 hW9⟩⟩ rfl rfl hl.1 rfl (lv_room (Nat.le_of_ble_eq_true rfl)) dX3_countFrom_83 ⟨(Nat.le_of_ble_eq_true rfl), (Nat.le_of_ble_eq_true rfl)⟩) hS (fun r83 m83 H locs hq9 hP hz9 hS => ?_)
        obtain ⟨g83, rfl, ho83, hv83⟩ := hq9
        have hP : mw G.1 vwCl B (mu (mu μ l2 (.inl (G.2 0, 158 * k + 158, .inr (.inl g83)))) aO (.inl (G.2 0, 6, .inr (.inl fo)))) _ := mw_eq ((mu_c _ _ ((Ne.symm hne))).trans (congrArg (fun z => mu z aO (.inl (G.2 0, 6, .inr (.inl fo)))) (mu_u _ _ _ _))) hP
        refine lv_lload hx hb dX3_countFrom_86 (lv_at hl 1 rfl) ?_
        refine lv_ladd hx hb dX3_countFrom_88 ?_
        refine va_mmin_long hx hb (hml.trans hl.1.symm) hown (hts (.methodLink RX3 214 Lib.MathLoose.min_long.x) (by decide +kernel)) (hts (.static Lib.MathLoose.min_long.x) (by decide +kernel)) (hts (.initialized "java/lang/Math") (by decide +kernel)) (hts (.code Lib.MathLoose.min_long.x Lib.MathLoose.min_long.code 4 (some .long)) (by decide +kernel)) (Nat.le_of_ble_eq_true rfl) (Nat.le_of_ble_eq_true rfl) (Nat.zero_le _) (Nat.zero_le _) dX3_countFrom_89 ?_
        refine lv_topl (fun v92 ev92 => ?_)
        refine lv_lstore (lv' := [(6, .long v92), (9, .long v46), (0, .ref d), (1, .int (nI v9)), (2, .int (nI (2 * v9))), (3, .int (nI (2 * v9 + 1))), (4, .long lo), (8, .int (nI i1))]) hx hb dX3_countFrom_92 hl (by decide) rfl (fun ls hl => ?_)
        refine lv_lload hx hb dX3_countFrom_94 (lv_at hl 6 rfl) ?_
        refine lv_lload hx hb dX3_countFrom_96 (lv_at hl 1 rfl) ?_
        refine lv_aload_n hx hb dX3_countFrom_98 rfl (lv_at hl 2 rfl) ?_
        refine mw_get (C := RX3) (T := TX3) (N := 7) hx hb hts in_X3_countFrom_X3 hown hK hP ((mu_n ne0_4).trans ((mu_n ne0_3).trans (hd))) rfl 1 (by decide) (hts (.fieldLink RX3 29 "OctagonDesk" "made" "LOctagonDesk$Shape;") (by decide +kernel)) (fun _ h9 => h9) rfl dX3_countFrom_99 ?_
        refine lv_iload_n hx hb dX3_countFrom_102 rfl (lv_at hl 5 rfl) ?_
        refine lv_iconst (v := nI 2) hx hb dX3_countFrom_103 (by decide) ?_
        refine lv_iload hx hb dX3_countFrom_104 (lv_at hl 7 rfl) ?_
        refine nv_imul hx hb dX3_countFrom_106 ?_
        refine kc_l (va_runV (As := [.int (nI (2 * v9 + 1)), .int (nI (2 * i1))]) (rest := [.long v46, .long lo]) ⟨hx, hb, hml, hown, hts⟩ (v_X1_mostOf l G B (mu (mu μ l2 (.inl (G.2 0, 158 * k + 158, .inr (.inl g83)))) aO (.inl (G.2 0, 6, .inr (.inl fo)))) s2 n2 l2 k b g83 (2 * v9 + 1) (2 * i1) ((mu_n ne1_4).trans ((mu_n ne1_3).trans (hs2))) ((mu_n ne2_4).trans ((mu_n ne2_3).trans (hn2))) ((mu_n hne).trans (mu_s _ _ _)) (by omega) (by omega) (by omega)) (cwV 2 hts gX3_countFrom_X1_mostOf rfl rfl rfl (by decide +kernel) ⟨Nat.le_of_ble_eq_true rfl, Nat.le_of_ble_eq_true rfl⟩) ⟨KW.blind, hP.recv hK rfl ((mu_n ne1_4).trans ((mu_n ne1_3).trans (hs2))), fun U9 hU9 hW9 => ⟨rfl, KW.pre hBs hKK hS hP U9 hU9 hW9⟩⟩ rfl rfl hl.1 rfl (lv_room (Nat.le_of_ble_eq_true rfl)) dX3_countFrom_107 ⟨(Nat.le_of_ble_eq_true rfl), (Nat.le_of_ble_eq_true rfl)⟩) hS (fun r107 m107 H locs hq9 hP hz9 hS => ?_)
        obtain ⟨g107, rfl, ho107, hv107⟩ := hq9
        have hP : mw G.1 vwCl B (mu (mu μ l2 (.inl (G.2 0, 158 * k + 158, .inr (.inl g107)))) aO (.inl (G.2 0, 6, .inr (.inl fo)))) _ := mw_eq ((mu_c _ _ ((Ne.symm hne))).trans (congrArg (fun z => mu z aO (.inl (G.2 0, 6, .inr (.inl fo)))) (mu_u _ _ _ _))) hP
        refine lv_lsub hx hb dX3_countFrom_110 ?_
        refine va_mmax_long hx hb (hml.trans hl.1.symm) hown (hts (.methodLink RX3 220 Lib.MathLoose.max_long.x) (by decide +kernel)) (hts (.static Lib.MathLoose.max_long.x) (by decide +kernel)) (hts (.initialized "java/lang/Math") (by decide +kernel)) (hts (.code Lib.MathLoose.max_long.x Lib.MathLoose.max_long.code 4 (some .long)) (by decide +kernel)) (Nat.le_of_ble_eq_true rfl) (Nat.le_of_ble_eq_true rfl) (Nat.zero_le _) (Nat.zero_le _) dX3_countFrom_111 ?_
        refine lv_topl (fun v114 ev114 => ?_)
        refine lv_lstore (lv' := [(4, .long v114), (6, .long v92), (9, .long v46), (0, .ref d), (1, .int (nI v9)), (2, .int (nI (2 * v9))), (3, .int (nI (2 * v9 + 1))), (8, .int (nI i1))]) hx hb dX3_countFrom_114 hl (by decide) rfl (fun ls hl => ?_)
        refine lv_lload hx hb dX3_countFrom_116 (lv_at hl 0 rfl) ?_
        refine lv_lload hx hb dX3_countFrom_118 (lv_at hl 2 rfl) ?_
        refine lv_lneg hx hb dX3_countFrom_120 ?_
        refine lv_aload_n hx hb dX3_countFrom_121 rfl (lv_at hl 3 rfl) ?_
        refine mw_get (C := RX3) (T := TX3) (N := 7) hx hb hts in_X3_countFrom_X3 hown hK hP ((mu_n ne0_4).trans ((mu_n ne0_3).trans (hd))) rfl 1 (by decide) (hts (.fieldLink RX3 29 "OctagonDesk" "made" "LOctagonDesk$Shape;") (by decide +kernel)) (fun _ h9 => h9) rfl dX3_countFrom_122 ?_
        refine lv_iload_n hx hb dX3_countFrom_125 rfl (lv_at hl 6 rfl) ?_
        refine lv_iconst (v := nI 2) hx hb dX3_countFrom_126 (by decide) ?_
        refine lv_iload hx hb dX3_countFrom_127 (lv_at hl 7 rfl) ?_
        refine nv_imul hx hb dX3_countFrom_129 ?_
        refine lv_iconst (v := nI 1) hx hb dX3_countFrom_130 (by decide) ?_
        refine nv_iadd hx hb dX3_countFrom_131 ?_
        refine kc_l (va_runV (As := [.int (nI (2 * v9 + 1)), .int (nI ((2 * i1) + 1))]) (rest := [.long (-v46), .long v114]) ⟨hx, hb, hml, hown, hts⟩ (v_X1_mostOf l G B (mu (mu μ l2 (.inl (G.2 0, 158 * k + 158, .inr (.inl g107)))) aO (.inl (G.2 0, 6, .inr (.inl fo)))) s2 n2 l2 k b g107 (2 * v9 + 1) ((2 * i1) + 1) ((mu_n ne1_4).trans ((mu_n ne1_3).trans (hs2))) ((mu_n ne2_4).trans ((mu_n ne2_3).trans (hn2))) ((mu_n hne).trans (mu_s _ _ _)) (by omega) (by omega) (by omega)) (cwV 2 hts gX3_countFrom_X1_mostOf rfl rfl rfl (by decide +kernel) ⟨Nat.le_of_ble_eq_true rfl, Nat.le_of_ble_eq_true rfl⟩) ⟨KW.blind, hP.recv hK rfl ((mu_n ne1_4).trans ((mu_n ne1_3).trans (hs2))), fun U9 hU9 hW9 => ⟨rfl, KW.pre hBs hKK hS hP U9 hU9 hW9⟩⟩ rfl rfl hl.1 rfl (lv_room (Nat.le_of_ble_eq_true rfl)) dX3_countFrom_132 ⟨(Nat.le_of_ble_eq_true rfl), (Nat.le_of_ble_eq_true rfl)⟩) hS (fun r132 m132 H locs hq9 hP hz9 hS => ?_)
        obtain ⟨g132, rfl, ho132, hv132⟩ := hq9
        have hP : mw G.1 vwCl B (mu (mu μ l2 (.inl (G.2 0, 158 * k + 158, .inr (.inl g132)))) aO (.inl (G.2 0, 6, .inr (.inl fo)))) _ := mw_eq ((mu_c _ _ ((Ne.symm hne))).trans (congrArg (fun z => mu z aO (.inl (G.2 0, 6, .inr (.inl fo)))) (mu_u _ _ _ _))) hP
        refine lv_lsub hx hb dX3_countFrom_135 ?_
        refine va_mmax_long hx hb (hml.trans hl.1.symm) hown (hts (.methodLink RX3 220 Lib.MathLoose.max_long.x) (by decide +kernel)) (hts (.static Lib.MathLoose.max_long.x) (by decide +kernel)) (hts (.initialized "java/lang/Math") (by decide +kernel)) (hts (.code Lib.MathLoose.max_long.x Lib.MathLoose.max_long.code 4 (some .long)) (by decide +kernel)) (Nat.le_of_ble_eq_true rfl) (Nat.le_of_ble_eq_true rfl) (Nat.zero_le _) (Nat.zero_le _) dX3_countFrom_136 ?_
        refine lv_topl (fun v139 ev139 => ?_)
        refine lv_lstore (lv' := [(4, .long v139), (6, .long v92), (9, .long v46), (0, .ref d), (1, .int (nI v9)), (2, .int (nI (2 * v9))), (3, .int (nI (2 * v9 + 1))), (8, .int (nI i1))]) hx hb dX3_countFrom_139 hl (by decide) rfl (fun ls hl => ?_)
        refine lv_iinc (v := nI (i1 + 1)) (lv' := [(8, .int (nI (i1 + 1))), (4, .long v139), (6, .long v92), (9, .long v46), (0, .ref d), (1, .int (nI v9)), (2, .int (nI (2 * v9))), (3, .int (nI (2 * v9 + 1)))]) hx hb dX3_countFrom_141 hl (k := 7) rfl (nI_add _ _) (by decide) rfl (fun ls hl => ?_)
        refine lv_goto (tgt := 33) hx hb dX3_countFrom_144 (by decide) ?_
        exact ih33 (i1 + 1) v139 v92 g132 (by omega) (by omega) (cf_min ev92 (cf_min ev68 hh)) ((((hO.tr ho59).tr ho83).tr ho107).tr ho132) _ _ hP hS ls (lv_sub hl [4, 5, 6, 7, 1, 2, 0] rfl)
  have hl := lv_entry ([.ref d, .int (nI v9)]) (n := 11) (Nat.le_of_ble_eq_true rfl)
  have he9 : entryFrame m args 11 = entryFrame m ([.ref d, .int (nI v9)] : List Value).toArray 11 := by rw [hargs]
  rw [he9, lg_entry_eq]
  generalize (lg_sl ([.ref d, .int (nI v9)]) ++ List.replicate (11 - (lg_sl ([.ref d, .int (nI v9)])).length) Slot.unset).toArray = ls at hl ⊢
  have hl : lv_has ls 11 [(0, .ref d), (1, .int (nI v9))] := hl
  refine lv_iload_n hx hb dX3_countFrom_0 rfl (lv_at hl 1 rfl) ?_
  refine lv_bipush (v := nI 6) hx hb dX3_countFrom_1 (by decide) ?_
  refine nv_icmp_lt (tgt := 8) hx hb (by omega) (by omega) dX3_countFrom_3 (by decide) (fun hc3 => ?_) (fun hc3 => ?_)
  · refine lv_iconst (v := nI 2) hx hb dX3_countFrom_8 (by decide) ?_
    refine lv_iload_n hx hb dX3_countFrom_9 rfl (lv_at hl 1 rfl) ?_
    refine nv_imul hx hb dX3_countFrom_10 ?_
    refine lv_istore_n (lv' := [(2, .int (nI (2 * v9))), (0, .ref d), (1, .int (nI v9))]) hx hb dX3_countFrom_11 rfl hl (by decide) rfl (fun ls hl => ?_)
    refine lv_iload_n hx hb dX3_countFrom_12 rfl (lv_at hl 0 rfl) ?_
    refine lv_iconst (v := nI 1) hx hb dX3_countFrom_13 (by decide) ?_
    refine nv_iadd hx hb dX3_countFrom_14 ?_
    refine lv_istore_n (lv' := [(3, .int (nI ((2 * v9) + 1))), (2, .int (nI (2 * v9))), (0, .ref d), (1, .int (nI v9))]) hx hb dX3_countFrom_15 rfl hl (by decide) rfl (fun ls hl => ?_)
    refine lv_lconst (v := 0) hx hb dX3_countFrom_16 (by decide) ?_
    refine lv_lstore (lv' := [(4, .long 0), (3, .int (nI ((2 * v9) + 1))), (2, .int (nI (2 * v9))), (0, .ref d), (1, .int (nI v9))]) hx hb dX3_countFrom_17 hl (by decide) rfl (fun ls hl => ?_)
    refine lv_aload_n hx hb dX3_countFrom_19 rfl (lv_at hl 3 rfl) ?_
    refine mw_get (C := RX3) (T := TX3) (N := 7) hx hb hts in_X3_countFrom_X3 hown hK hP ((mu_n ne0_4).trans ((mu_n ne0_3).trans (hd))) rfl 1 (by decide) (hts (.fieldLink RX3 29 "OctagonDesk" "made" "LOctagonDesk$Shape;") (by decide +kernel)) (fun _ h9 => h9) rfl dX3_countFrom_20 ?_
    refine lv_iload_n hx hb dX3_countFrom_23 rfl (lv_at hl 2 rfl) ?_
    refine lv_iload_n hx hb dX3_countFrom_24 rfl (lv_at hl 2 rfl) ?_
    refine kc_l (va_runV (As := [.int (nI (2 * v9)), .int (nI (2 * v9))]) (rest := []) ⟨hx, hb, hml, hown, hts⟩ (v_X1_mostOf l G B (mu (mu μ l2 (.inl (G.2 0, 158 * k + 158, .inr (.inl f)))) aO (.inl (G.2 0, 6, .inr (.inl fo)))) s2 n2 l2 k b f (2 * v9) (2 * v9) ((mu_n ne1_4).trans ((mu_n ne1_3).trans (hs2))) ((mu_n ne2_4).trans ((mu_n ne2_3).trans (hn2))) ((mu_n hne).trans (mu_s _ _ _)) (by omega) (by omega) (by omega)) (cwV 2 hts gX3_countFrom_X1_mostOf rfl rfl rfl (by decide +kernel) ⟨Nat.le_of_ble_eq_true rfl, Nat.le_of_ble_eq_true rfl⟩) ⟨KW.blind, hP.recv hK rfl ((mu_n ne1_4).trans ((mu_n ne1_3).trans (hs2))), fun U9 hU9 hW9 => ⟨rfl, KW.pre hBs hKK hS hP U9 hU9 hW9⟩⟩ rfl rfl hl.1 rfl (lv_room (Nat.le_of_ble_eq_true rfl)) dX3_countFrom_25 ⟨(Nat.le_of_ble_eq_true rfl), (Nat.le_of_ble_eq_true rfl)⟩) hS (fun r25 m25 H locs hq9 hP hz9 hS => ?_)
    obtain ⟨g25, rfl, ho25, hv25⟩ := hq9
    have hP : mw G.1 vwCl B (mu (mu μ l2 (.inl (G.2 0, 158 * k + 158, .inr (.inl g25)))) aO (.inl (G.2 0, 6, .inr (.inl fo)))) _ := mw_eq ((mu_c _ _ ((Ne.symm hne))).trans (congrArg (fun z => mu z aO (.inl (G.2 0, 6, .inr (.inl fo)))) (mu_u _ _ _ _))) hP
    refine lv_lstore (lv' := [(6, .long r25), (4, .long 0), (3, .int (nI ((2 * v9) + 1))), (2, .int (nI (2 * v9))), (0, .ref d), (1, .int (nI v9))]) hx hb dX3_countFrom_28 hl (by decide) rfl (fun ls hl => ?_)
    refine lv_iconst (v := nI 0) hx hb dX3_countFrom_30 (by decide) ?_
    refine lv_istore (lv' := [(8, .int (nI 0)), (6, .long r25), (4, .long 0), (3, .int (nI ((2 * v9) + 1))), (2, .int (nI (2 * v9))), (0, .ref d), (1, .int (nI v9))]) hx hb dX3_countFrom_31 hl (by decide) rfl (fun ls hl => ?_)
    exact L33 _ 0 0 r25 g25 (Nat.lt_succ_self _) (by omega) (by rw [hv25]; exact hMV v9 (by omega)) (ho25) _ _ hP hS ls (lv_sub hl [5, 6, 4, 3, 2, 1, 0] rfl)
  · exfalso; omega

abbrev rv_X3_countFrom_4 : Room := { frames := 6, cells := 0, slots := 0, locals := 161 }
set_option maxHeartbeats 4000000 in
set_option maxRecDepth 100000 in
theorem v_X3_countFrom_4 (l : Launch) (G : GG) (B : Nat) (μ : mp) (d aS s2 aT aO aL aR n2 l2 k sc b : Nat) (f : Nat → Int64) (fo : Nat → Int64) (v9 : Nat) (hd : μ d = some (.inr (3, [.ref aS, .ref s2, .ref aT, .ref aO, .int (nI sc), .ref aL, .ref aR]))) (hs2 : μ s2 = some (.inr (1, [.ref n2, .int (nI b)]))) (hn2 : μ n2 = some (.inr (0, [.int (nI 158), .int (nI 157), .ref l2, .int (nI (158 * k))]))) (hl2 : μ l2 = some (.inl (G.2 0, 158 * k + 158, .inr (.inl f)))) (hao : μ aO = some (.inl (G.2 0, 6, .inr (.inl fo)))) (hk : k ≤ 1022) (hv9 : v9 + 4 = 6) (hMV : ∀ i, i < 6 → MV k f (2 * i) (2 * i) < 4096) (hne : l2 ≠ aO) : Met l yX3_countFrom wsX3_countFrom rv_X3_countFrom_4 (va_Pc [.ref d, .int (nI v9)] (KW G B μ)) (va_Qi (fun r μ2 => ∃ g9 fo9 : Nat → Int64, μ2 = mu (mu μ l2 (.inl (G.2 0, 158 * k + 158, .inr (.inl g9)))) aO (.inl (G.2 0, 6, .inr (.inl fo9))) ∧ Off 156 f g9) (BB G B) (fun q => B ≤ q)) 0 0 (fun q => B ≤ q) := by
  refine Met.ofW (cc := cX3_countFrom) (maxL := 11) (ret := (some .int)) (by decide) rfl ?_
  intro p e s m args below meth c s₁ B9 hml hv
  obtain ⟨hargs, hBs, hP, hKK⟩ := hv
  have hx := B9.exec
  have hb := B9.bytes
  have hr := B9.returns
  have hts := atoms_spec (ws := wsX3_countFrom) B9.pre
  have hown : s.vm.findClass RX3 = some m.cls := findClass_of_methodNamed B9.named
  have hlocks := B9.notSynchronized
  have hK := hKK.k
  have hS : va_S (fun q => B ≤ q) s.heap s.heap [] := va_S.rf
  obtain ⟨Q, hQ⟩ : ∃ Q, Q = MQ below (va_Qi (fun r μ2 => ∃ g9 fo9 : Nat → Int64, μ2 = mu (mu μ l2 (.inl (G.2 0, 158 * k + 158, .inr (.inl g9)))) aO (.inl (G.2 0, 6, .inr (.inl fo9))) ∧ Off 156 f g9) (BB G B) (fun q => B ≤ q)) args s 0 0 (fun q => B ≤ q) := ⟨_, rfl⟩
  rw [← hQ]
  have ne0_1 : d ≠ s2 := mp_ne hd hs2 (by simp)
  have ne0_2 : d ≠ n2 := mp_ne hd hn2 (by simp)
  have ne0_3 : d ≠ l2 := mp_ne hd hl2 (by simp)
  have ne0_4 : d ≠ aO := mp_ne hd hao (by simp)
  have ne1_2 : s2 ≠ n2 := mp_ne hs2 hn2 (by simp)
  have ne1_3 : s2 ≠ l2 := mp_ne hs2 hl2 (by simp)
  have ne1_4 : s2 ≠ aO := mp_ne hs2 hao (by simp)
  have ne2_3 : n2 ≠ l2 := mp_ne hn2 hl2 (by simp)
  have ne2_4 : n2 ≠ aO := mp_ne hn2 hao (by simp)
  have in_X3_countFrom_X3 : ∀ w ∈ wsX30, w ∈ wsX3_countFrom := by decide +kernel
  have hP : mw G.1 vwCl B (mu (mu μ l2 (.inl (G.2 0, 158 * k + 158, .inr (.inl f)))) aO (.inl (G.2 0, 6, .inr (.inl fo)))) s.heap := mw_eq ((congrArg (fun z => mu z aO (.inl (G.2 0, 6, .inr (.inl fo)))) (mu_i hl2)).trans (mu_i hao)).symm hP
  have L154 : ∀ (N154 : Nat) (x : Int64) (ct : Int32) (lo : Int64) (hi : Int64) (g2 : Nat → Int64) (fo2 : Nat → Int64) (hN154 : (hi.toInt - x.toInt + 1).toNat < N154) (hh : hi < 4096) (hO2 : Off 156 f g2), ∀ (H : Heap) (locs : List Loc), mw G.1 vwCl B (mu (mu μ l2 (.inl (G.2 0, 158 * k + 158, .inr (.inl g2)))) aO (.inl (G.2 0, 6, .inr (.inl fo2)))) H → va_S (fun q => B ≤ q) s.heap H locs → ∀ ls : Array Slot, lv_has ls 11 [(0, .ref d), (1, .int (nI v9)), (2, .int (nI (2 * v9))), (3, .int (nI (2 * v9 + 1))), (4, .long lo), (6, .long hi), (8, .int ct), (9, .long x)] → W p l e rv_X3_countFrom_4 s m args below meth c H locs 0 0 Q (F0 m 154 ls []) := by
    intro N154
    induction N154 with
    | zero => intro x ct lo hi g2 fo2 hN154; exact absurd hN154 (Nat.not_lt_zero _)
    | succ N154 ih154 =>
      intro x ct lo hi g2 fo2 hN154 hh hO2 H locs hP hS ls hl
      refine lv_lload hx hb dX3_countFrom_154 (lv_at hl 7 rfl) ?_
      refine lv_lload hx hb dX3_countFrom_156 (lv_at hl 5 rfl) ?_
      refine nl_if_gt (tgt := 191) hx hb dX3_countFrom_158 dX3_countFrom_159 (by decide) (fun hc158 => ?_) (fun hc158 => ?_)
      · refine lv_iload hx hb dX3_countFrom_191 (lv_at hl 6 rfl) ?_
        rw [hQ]
        exact W.iret (v := ct) hx hb hr (fun t99 ht99 hW99 => ⟨⟨ct, mu (mu μ l2 (.inl (G.2 0, 158 * k + 158, .inr (.inl g2)))) aO (.inl (G.2 0, 6, .inr (.inl fo2))), rfl, (⟨_, _, rfl, hO2⟩), by show mw _ _ _ _ t99.heap; rw [ht99]; exact hP⟩, hS.F ht99⟩) hS.2.2 dX3_countFrom_193
      · refine lv_aload_n hx hb dX3_countFrom_162 rfl (lv_at hl 0 rfl) ?_
        refine mw_get (C := RX3) (T := TX3) (N := 7) hx hb hts in_X3_countFrom_X3 hown hK hP ((mu_n ne0_4).trans ((mu_n ne0_3).trans (hd))) rfl 3 (by decide) (hts (.fieldLink RX3 33 "OctagonDesk" "offsets" "[J") (by decide +kernel)) (fun _ h9 => h9) rfl dX3_countFrom_163 ?_
        refine lv_iload_n hx hb dX3_countFrom_166 rfl (lv_at hl 1 rfl) ?_
        refine lv_lload hx hb dX3_countFrom_167 (lv_at hl 7 rfl) ?_
        refine mw_last hx hb hK hP hS 0 (mu_s _ _ _) rfl (by omega) (by omega) dX3_countFrom_169 (fun H locs hP hS => ?_)
        have hP : mw G.1 vwCl B (mu (mu μ l2 (.inl (G.2 0, 158 * k + 158, .inr (.inl g2)))) aO (.inl (G.2 0, 6, .inr (.inl (vp_updL fo2 v9 x))))) _ := mw_eq (mu_u _ _ _ _) hP
        refine lv_iload hx hb dX3_countFrom_170 (lv_at hl 6 rfl) ?_
        refine lv_aload_n hx hb dX3_countFrom_172 rfl (lv_at hl 0 rfl) ?_
        refine lv_iload_n hx hb dX3_countFrom_173 rfl (lv_at hl 1 rfl) ?_
        refine lv_iconst (v := nI 1) hx hb dX3_countFrom_174 (by decide) ?_
        refine nv_iadd hx hb dX3_countFrom_175 ?_
        refine kc_i (va_runV (As := [.int (nI (v9 + 1))]) (rest := [.int ct]) ⟨hx, hb, hml, hown, hts⟩ (v_X3_countFrom_3 l G B (mu (mu μ l2 (.inl (G.2 0, 158 * k + 158, .inr (.inl g2)))) aO (.inl (G.2 0, 6, .inr (.inl (vp_updL fo2 v9 x))))) d aS s2 aT aO aL aR n2 l2 k sc b g2 (vp_updL fo2 v9 x) (v9 + 1) ((mu_n ne0_4).trans ((mu_n ne0_3).trans (hd))) ((mu_n ne1_4).trans ((mu_n ne1_3).trans (hs2))) ((mu_n ne2_4).trans ((mu_n ne2_3).trans (hn2))) ((mu_n hne).trans (mu_s _ _ _)) (mu_s _ _ _) (by omega) (by omega) (fun i h9 => by rw [MV_cong (by omega) (by omega) hO2]; exact hMV i h9) hne) (cwV 1 hts gX3_countFrom_X3_countFrom rfl rfl rfl (by decide +kernel) ⟨Nat.le_of_ble_eq_true rfl, Nat.le_of_ble_eq_true rfl⟩) ⟨KW.blind, hP.recv hK rfl ((mu_n ne0_4).trans ((mu_n ne0_3).trans (hd))), fun U9 hU9 hW9 => ⟨rfl, KW.pre hBs hKK hS hP U9 hU9 hW9⟩⟩ rfl rfl hl.1 rfl (lv_room (Nat.le_of_ble_eq_true rfl)) dX3_countFrom_176 ⟨(Nat.le_of_ble_eq_true rfl), (Nat.le_of_ble_eq_true rfl)⟩) hS (fun r176 m176 H locs hq9 hP hz9 hS => ?_)
        obtain ⟨g176, fo176, he176, ho176⟩ := hq9
        rw [he176] at hP
        have hP : mw G.1 vwCl B (mu (mu μ l2 (.inl (G.2 0, 158 * k + 158, .inr (.inl g176)))) aO (.inl (G.2 0, 6, .inr (.inl fo176)))) _ := mw_eq ((congrArg (fun z => mu z aO (.inl (G.2 0, 6, .inr (.inl fo176)))) ((mu_c _ _ ((Ne.symm hne))).trans (congrArg (fun z => mu z aO (.inl (G.2 0, 6, .inr (.inl (vp_updL fo2 v9 x))))) (mu_u _ _ _ _)))).trans (mu_u _ _ _ _)) hP
        refine lv_iadd hx hb dX3_countFrom_179 ?_
        refine lv_topi (fun v180 ev180 => ?_)
        refine lv_istore (lv' := [(8, .int v180), (0, .ref d), (1, .int (nI v9)), (2, .int (nI (2 * v9))), (3, .int (nI (2 * v9 + 1))), (4, .long lo), (6, .long hi), (9, .long x)]) hx hb dX3_countFrom_180 hl (by decide) rfl (fun ls hl => ?_)
        refine lv_lload hx hb dX3_countFrom_182 (lv_at hl 7 rfl) ?_
        refine lv_lconst (v := 1) hx hb dX3_countFrom_184 (by decide) ?_
        refine lv_ladd hx hb dX3_countFrom_185 ?_
        refine lv_topl (fun v186 ev186 => ?_)
        refine lv_lstore (lv' := [(9, .long v186), (8, .int v180), (0, .ref d), (1, .int (nI v9)), (2, .int (nI (2 * v9))), (3, .int (nI (2 * v9 + 1))), (4, .long lo), (6, .long hi)]) hx hb dX3_countFrom_186 hl (by decide) rfl (fun ls hl => ?_)
        refine lv_goto (tgt := 154) hx hb dX3_countFrom_188 (by decide) ?_
        exact ih154 v186 v180 lo hi g176 fo176 (Nat.lt_of_lt_of_le (cf_m hc158 hh ev186) (Nat.le_of_lt_succ hN154)) (hh) (hO2.tr ho176) _ _ hP hS ls (lv_sub hl [2, 3, 4, 5, 6, 7, 1, 0] rfl)
  have L33 : ∀ (N33 : Nat) (i1 : Nat) (lo : Int64) (hi : Int64) (g1 : Nat → Int64) (hN33 : v9 - i1 < N33) (hi1 : i1 ≤ v9) (hh : hi < 4096) (hO : Off 156 f g1), ∀ (H : Heap) (locs : List Loc), mw G.1 vwCl B (mu (mu μ l2 (.inl (G.2 0, 158 * k + 158, .inr (.inl g1)))) aO (.inl (G.2 0, 6, .inr (.inl fo)))) H → va_S (fun q => B ≤ q) s.heap H locs → ∀ ls : Array Slot, lv_has ls 11 [(0, .ref d), (1, .int (nI v9)), (2, .int (nI (2 * v9))), (3, .int (nI (2 * v9 + 1))), (4, .long lo), (6, .long hi), (8, .int (nI i1))] → W p l e rv_X3_countFrom_4 s m args below meth c H locs 0 0 Q (F0 m 33 ls []) := by
    intro N33
    induction N33 with
    | zero => intro i1 lo hi g1 hN33; exact absurd hN33 (Nat.not_lt_zero _)
    | succ N33 ih33 =>
      intro i1 lo hi g1 hN33 hi1 hh hO H locs hP hS ls hl
      refine lv_iload hx hb dX3_countFrom_33 (lv_at hl 6 rfl) ?_
      refine lv_iload_n hx hb dX3_countFrom_35 rfl (lv_at hl 1 rfl) ?_
      refine nv_icmp_ge (tgt := 147) hx hb (by omega) (by omega) dX3_countFrom_36 (by decide) (fun hc36 => ?_) (fun hc36 => ?_)
      · refine lv_iconst (v := nI 0) hx hb dX3_countFrom_147 (by decide) ?_
        refine lv_istore (lv' := [(8, .int (nI 0)), (0, .ref d), (1, .int (nI v9)), (2, .int (nI (2 * v9))), (3, .int (nI (2 * v9 + 1))), (4, .long lo), (6, .long hi)]) hx hb dX3_countFrom_148 hl (by decide) rfl (fun ls hl => ?_)
        refine lv_lload hx hb dX3_countFrom_150 (lv_at hl 5 rfl) ?_
        refine lv_lstore (lv' := [(9, .long lo), (8, .int (nI 0)), (0, .ref d), (1, .int (nI v9)), (2, .int (nI (2 * v9))), (3, .int (nI (2 * v9 + 1))), (4, .long lo), (6, .long hi)]) hx hb dX3_countFrom_152 hl (by decide) rfl (fun ls hl => ?_)
        exact L154 _ lo (nI 0) lo hi g1 fo (Nat.lt_succ_self _) (hh) (hO) _ _ hP hS ls (lv_sub hl [2, 3, 4, 5, 6, 7, 1, 0] rfl)
      · refine lv_aload_n hx hb dX3_countFrom_39 rfl (lv_at hl 0 rfl) ?_
        refine mw_get (C := RX3) (T := TX3) (N := 7) hx hb hts in_X3_countFrom_X3 hown hK hP ((mu_n ne0_4).trans ((mu_n ne0_3).trans (hd))) rfl 3 (by decide) (hts (.fieldLink RX3 33 "OctagonDesk" "offsets" "[J") (by decide +kernel)) (fun _ h9 => h9) rfl dX3_countFrom_40 ?_
        refine lv_iload hx hb dX3_countFrom_43 (lv_at hl 6 rfl) ?_
        refine mw_lald hx hb hK hP 0 (mu_s _ _ _) rfl (by omega) (by omega) dX3_countFrom_45 ?_
        refine lv_topl (fun v46 ev46 => ?_)
        refine lv_lstore (lv' := [(9, .long v46), (0, .ref d), (1, .int (nI v9)), (2, .int (nI (2 * v9))), (3, .int (nI (2 * v9 + 1))), (4, .long lo), (6, .long hi), (8, .int (nI i1))]) hx hb dX3_countFrom_46 hl (by decide) rfl (fun ls hl => ?_)
        refine lv_lload hx hb dX3_countFrom_48 (lv_at hl 6 rfl) ?_
        refine lv_aload_n hx hb dX3_countFrom_50 rfl (lv_at hl 1 rfl) ?_
        refine mw_get (C := RX3) (T := TX3) (N := 7) hx hb hts in_X3_countFrom_X3 hown hK hP ((mu_n ne0_4).trans ((mu_n ne0_3).trans (hd))) rfl 1 (by decide) (hts (.fieldLink RX3 29 "OctagonDesk" "made" "LOctagonDesk$Shape;") (by decide +kernel)) (fun _ h9 => h9) rfl dX3_countFrom_51 ?_
        refine lv_iload_n hx hb dX3_countFrom_54 rfl (lv_at hl 3 rfl) ?_
        refine lv_iconst (v := nI 2) hx hb dX3_countFrom_55 (by decide) ?_
        refine lv_iload hx hb dX3_countFrom_56 (lv_at hl 7 rfl) ?_
        refine nv_imul hx hb dX3_countFrom_58 ?_
        refine kc_l (va_runV (As := [.int (nI (2 * v9)), .int (nI (2 * i1))]) (rest := [.long hi]) ⟨hx, hb, hml, hown, hts⟩ (v_X1_mostOf l G B (mu (mu μ l2 (.inl (G.2 0, 158 * k + 158, .inr (.inl g1)))) aO (.inl (G.2 0, 6, .inr (.inl fo)))) s2 n2 l2 k b g1 (2 * v9) (2 * i1) ((mu_n ne1_4).trans ((mu_n ne1_3).trans (hs2))) ((mu_n ne2_4).trans ((mu_n ne2_3).trans (hn2))) ((mu_n hne).trans (mu_s _ _ _)) (by omega) (by omega) (by omega)) (cwV 2 hts gX3_countFrom_X1_mostOf rfl rfl rfl (by decide +kernel) ⟨Nat.le_of_ble_eq_true rfl, Nat.le_of_ble_eq_true rfl⟩) ⟨KW.blind, hP.recv hK rfl ((mu_n ne1_4).trans ((mu_n ne1_3).trans (hs2))), fun U9 hU9 hW9 => ⟨rfl, KW.pre hBs hKK hS hP U9 hU9 hW9⟩⟩ rfl rfl hl.1 rfl (lv_room (Nat.le_of_ble_eq_true rfl)) dX3_countFrom_59 ⟨(Nat.le_of_ble_eq_true rfl), (Nat.le_of_ble_eq_true rfl)⟩) hS (fun r59 m59 H locs hq9 hP hz9 hS => ?_)
        obtain ⟨g59, rfl, ho59, hv59⟩ := hq9
        have hP : mw G.1 vwCl B (mu (mu μ l2 (.inl (G.2 0, 158 * k + 158, .inr (.inl g59)))) aO (.inl (G.2 0, 6, .inr (.inl fo)))) _ := mw_eq ((mu_c _ _ ((Ne.symm hne))).trans (congrArg (fun z => mu z aO (.inl (G.2 0, 6, .inr (.inl fo)))) (mu_u _ _ _ _))) hP
        refine lv_lload hx hb dX3_countFrom_62 (lv_at hl 0 rfl) ?_
        refine lv_lsub hx hb dX3_countFrom_64 ?_
        refine va_mmin_long hx hb (hml.trans hl.1.symm) hown (hts (.methodLink RX3 214 Lib.MathLoose.min_long.x) (by decide +kernel)) (hts (.static Lib.MathLoose.min_long.x) (by decide +kernel)) (hts (.initialized "java/lang/Math") (by decide +kernel)) (hts (.code Lib.MathLoose.min_long.x Lib.MathLoose.min_long.code 4 (some .long)) (by decide +kernel)) (Nat.le_of_ble_eq_true rfl) (Nat.le_of_ble_eq_true rfl) (Nat.zero_le _) (Nat.zero_le _) dX3_countFrom_65 ?_
        refine lv_topl (fun v68 ev68 => ?_)
        refine lv_lstore (lv' := [(6, .long v68), (9, .long v46), (0, .ref d), (1, .int (nI v9)), (2, .int (nI (2 * v9))), (3, .int (nI (2 * v9 + 1))), (4, .long lo), (8, .int (nI i1))]) hx hb dX3_countFrom_68 hl (by decide) rfl (fun ls hl => ?_)
        refine lv_lload hx hb dX3_countFrom_70 (lv_at hl 0 rfl) ?_
        refine lv_aload_n hx hb dX3_countFrom_72 rfl (lv_at hl 2 rfl) ?_
        refine mw_get (C := RX3) (T := TX3) (N := 7) hx hb hts in_X3_countFrom_X3 hown hK hP ((mu_n ne0_4).trans ((mu_n ne0_3).trans (hd))) rfl 1 (by decide) (hts (.fieldLink RX3 29 "OctagonDesk" "made" "LOctagonDesk$Shape;") (by decide +kernel)) (fun _ h9 => h9) rfl dX3_countFrom_73 ?_
        refine lv_iload_n hx hb dX3_countFrom_76 rfl (lv_at hl 4 rfl) ?_
        refine lv_iconst (v := nI 2) hx hb dX3_countFrom_77 (by decide) ?_
        refine lv_iload hx hb dX3_countFrom_78 (lv_at hl 7 rfl) ?_
        refine nv_imul hx hb dX3_countFrom_80 ?_
        refine lv_iconst (v := nI 1) hx hb dX3_countFrom_81 (by decide) ?_
        refine nv_iadd hx hb dX3_countFrom_82 ?_
        refine kc_l (va_runV (As := [.int (nI (2 * v9)), .int (nI ((2 * i1) + 1))]) (rest := [.long v68]) ⟨hx, hb, hml, hown, hts⟩ (v_X1_mostOf l G B (mu (mu μ l2 (.inl (G.2 0, 158 * k + 158, .inr (.inl g59)))) aO (.inl (G.2 0, 6, .inr (.inl fo)))) s2 n2 l2 k b g59 (2 * v9) ((2 * i1) + 1) ((mu_n ne1_4).trans ((mu_n ne1_3).trans (hs2))) ((mu_n ne2_4).trans ((mu_n ne2_3).trans (hn2))) ((mu_n hne).trans (mu_s _ _ _)) (by omega) (by omega) (by omega)) (cwV 2 hts gX3_countFrom_X1_mostOf rfl rfl rfl (by decide +kernel) ⟨Nat.le_of_ble_eq_true rfl, Nat.le_of_ble_eq_true rfl⟩) ⟨KW.blind, hP.recv hK rfl ((mu_n ne1_4).trans ((mu_n ne1_3).trans (hs2))), fun U9 hU9 hW9 => ⟨rfl, KW.pre hBs hKK hS hP U9 hU9 hW9⟩⟩ rfl rfl hl.1 rfl (lv_room (Nat.le_of_ble_eq_true rfl)) dX3_countFrom_83 ⟨(Nat.le_of_ble_eq_true rfl), (Nat.le_of_ble_eq_true rfl)⟩) hS (fun r83 m83 H locs hq9 hP hz9 hS => ?_)
        obtain ⟨g83, rfl, ho83, hv83⟩ := hq9
        have hP : mw G.1 vwCl B (mu (mu μ l2 (.inl (G.2 0, 158 * k + 158, .inr (.inl g83)))) aO (.inl (G.2 0, 6, .inr (.inl fo)))) _ := mw_eq ((mu_c _ _ ((Ne.symm hne))).trans (congrArg (fun z => mu z aO (.inl (G.2 0, 6, .inr (.inl fo)))) (mu_u _ _ _ _))) hP
        refine lv_lload hx hb dX3_countFrom_86 (lv_at hl 1 rfl) ?_
        refine lv_ladd hx hb dX3_countFrom_88 ?_
        refine va_mmin_long hx hb (hml.trans hl.1.symm) hown (hts (.methodLink RX3 214 Lib.MathLoose.min_long.x) (by decide +kernel)) (hts (.static Lib.MathLoose.min_long.x) (by decide +kernel)) (hts (.initialized "java/lang/Math") (by decide +kernel)) (hts (.code Lib.MathLoose.min_long.x Lib.MathLoose.min_long.code 4 (some .long)) (by decide +kernel)) (Nat.le_of_ble_eq_true rfl) (Nat.le_of_ble_eq_true rfl) (Nat.zero_le _) (Nat.zero_le _) dX3_countFrom_89 ?_
        refine lv_topl (fun v92 ev92 => ?_)
        refine lv_lstore (lv' := [(6, .long v92), (9, .long v46), (0, .ref d), (1, .int (nI v9)), (2, .int (nI (2 * v9))), (3, .int (nI (2 * v9 + 1))), (4, .long lo), (8, .int (nI i1))]) hx hb dX3_countFrom_92 hl (by decide) rfl (fun ls hl => ?_)
        refine lv_lload hx hb dX3_countFrom_94 (lv_at hl 6 rfl) ?_
        refine lv_lload hx hb dX3_countFrom_96 (lv_at hl 1 rfl) ?_
        refine lv_aload_n hx hb dX3_countFrom_98 rfl (lv_at hl 2 rfl) ?_
        refine mw_get (C := RX3) (T := TX3) (N := 7) hx hb hts in_X3_countFrom_X3 hown hK hP ((mu_n ne0_4).trans ((mu_n ne0_3).trans (hd))) rfl 1 (by decide) (hts (.fieldLink RX3 29 "OctagonDesk" "made" "LOctagonDesk$Shape;") (by decide +kernel)) (fun _ h9 => h9) rfl dX3_countFrom_99 ?_
        refine lv_iload_n hx hb dX3_countFrom_102 rfl (lv_at hl 5 rfl) ?_
        refine lv_iconst (v := nI 2) hx hb dX3_countFrom_103 (by decide) ?_
        refine lv_iload hx hb dX3_countFrom_104 (lv_at hl 7 rfl) ?_
        refine nv_imul hx hb dX3_countFrom_106 ?_
        refine kc_l (va_runV (As := [.int (nI (2 * v9 + 1)), .int (nI (2 * i1))]) (rest := [.long v46, .long lo]) ⟨hx, hb, hml, hown, hts⟩ (v_X1_mostOf l G B (mu (mu μ l2 (.inl (G.2 0, 158 * k + 158, .inr (.inl g83)))) aO (.inl (G.2 0, 6, .inr (.inl fo)))) s2 n2 l2 k b g83 (2 * v9 + 1) (2 * i1) ((mu_n ne1_4).trans ((mu_n ne1_3).trans (hs2))) ((mu_n ne2_4).trans ((mu_n ne2_3).trans (hn2))) ((mu_n hne).trans (mu_s _ _ _)) (by omega) (by omega) (by omega)) (cwV 2 hts gX3_countFrom_X1_mostOf rfl rfl rfl (by decide +kernel) ⟨Nat.le_of_ble_eq_true rfl, Nat.le_of_ble_eq_true rfl⟩) ⟨KW.blind, hP.recv hK rfl ((mu_n ne1_4).trans ((mu_n ne1_3).trans (hs2))), fun U9 hU9 hW9 => ⟨rfl, KW.pre hBs hKK hS hP U9 hU9 hW9⟩⟩ rfl rfl hl.1 rfl (lv_room (Nat.le_of_ble_eq_true rfl)) dX3_countFrom_107 ⟨(Nat.le_of_ble_eq_true rfl), (Nat.le_of_ble_eq_true rfl)⟩) hS (fun r107 m107 H locs hq9 hP hz9 hS => ?_)
        obtain ⟨g107, rfl, ho107, hv107⟩ := hq9
        have hP : mw G.1 vwCl B (mu (mu μ l2 (.inl (G.2 0, 158 * k + 158, .inr (.inl g107)))) aO (.inl (G.2 0, 6, .inr (.inl fo)))) _ := mw_eq ((mu_c _ _ ((Ne.symm hne))).trans (congrArg (fun z => mu z aO (.inl (G.2 0, 6, .inr (.inl fo)))) (mu_u _ _ _ _))) hP
        refine lv_lsub hx hb dX3_countFrom_110 ?_
        refine va_mmax_long hx hb (hml.trans hl.1.symm) hown (hts (.methodLink RX3 220 Lib.MathLoose.max_long.x) (by decide +kernel)) (hts (.static Lib.MathLoose.max_long.x) (by decide +kernel)) (hts (.initialized "java/lang/Math") (by decide +kernel)) (hts (.code Lib.MathLoose.max_long.x Lib.MathLoose.max_long.code 4 (some .long)) (by decide +kernel)) (Nat.le_of_ble_eq_true rfl) (Nat.le_of_ble_eq_true rfl) (Nat.zero_le _) (Nat.zero_le _) dX3_countFrom_111 ?_
        refine lv_topl (fun v114 ev114 => ?_)
        refine lv_lstore (lv' := [(4, .long v114), (6, .long v92), (9, .long v46), (0, .ref d), (1, .int (nI v9)), (2, .int (nI (2 * v9))), (3, .int (nI (2 * v9 + 1))), (8, .int (nI i1))]) hx hb dX3_countFrom_114 hl (by decide) rfl (fun ls hl => ?_)
        refine lv_lload hx hb dX3_countFrom_116 (lv_at hl 0 rfl) ?_
        refine lv_lload hx hb dX3_countFrom_118 (lv_at hl 2 rfl) ?_
        refine lv_lneg hx hb dX3_countFrom_120 ?_
        refine lv_aload_n hx hb dX3_countFrom_121 rfl (lv_at hl 3 rfl) ?_
        refine mw_get (C := RX3) (T := TX3) (N := 7) hx hb hts in_X3_countFrom_X3 hown hK hP ((mu_n ne0_4).trans ((mu_n ne0_3).trans (hd))) rfl 1 (by decide) (hts (.fieldLink RX3 29 "OctagonDesk" "made" "LOctagonDesk$Shape;") (by decide +kernel)) (fun _ h9 => h9) rfl dX3_countFrom_122 ?_
        refine lv_iload_n hx hb dX3_countFrom_125 rfl (lv_at hl 6 rfl) ?_
        refine lv_iconst (v := nI 2) hx hb dX3_countFrom_126 (by decide) ?_
        refine lv_iload hx hb dX3_countFrom_127 (lv_at hl 7 rfl) ?_
        refine nv_imul hx hb dX3_countFrom_129 ?_
        refine lv_iconst (v := nI 1) hx hb dX3_countFrom_130 (by decide) ?_
        refine nv_iadd hx hb dX3_countFrom_131 ?_
        refine kc_l (va_runV (As := [.int (nI (2 * v9 + 1)), .int (nI ((2 * i1) + 1))]) (rest := [.long (-v46), .long v114]) ⟨hx, hb, hml, hown, hts⟩ (v_X1_mostOf l G B (mu (mu μ l2 (.inl (G.2 0, 158 * k + 158, .inr (.inl g107)))) aO (.inl (G.2 0, 6, .inr (.inl fo)))) s2 n2 l2 k b g107 (2 * v9 + 1) ((2 * i1) + 1) ((mu_n ne1_4).trans ((mu_n ne1_3).trans (hs2))) ((mu_n ne2_4).trans ((mu_n ne2_3).trans (hn2))) ((mu_n hne).trans (mu_s _ _ _)) (by omega) (by omega) (by omega)) (cwV 2 hts gX3_countFrom_X1_mostOf rfl rfl rfl (by decide +kernel) ⟨Nat.le_of_ble_eq_true rfl, Nat.le_of_ble_eq_true rfl⟩) ⟨KW.blind, hP.recv hK rfl ((mu_n ne1_4).trans ((mu_n ne1_3).trans (hs2))), fun U9 hU9 hW9 => ⟨rfl, KW.pre hBs hKK hS hP U9 hU9 hW9⟩⟩ rfl rfl hl.1 rfl (lv_room (Nat.le_of_ble_eq_true rfl)) dX3_countFrom_132 ⟨(Nat.le_of_ble_eq_true rfl), (Nat.le_of_ble_eq_true rfl)⟩) hS (fun r132 m132 H locs hq9 hP hz9 hS => ?_)
        obtain ⟨g132, rfl, ho132, hv132⟩ := hq9
        have hP : mw G.1 vwCl B (mu (mu μ l2 (.inl (G.2 0, 158 * k + 158, .inr (.inl g132)))) aO (.inl (G.2 0, 6, .inr (.inl fo)))) _ := mw_eq ((mu_c _ _ ((Ne.symm hne))).trans (congrArg (fun z => mu z aO (.inl (G.2 0, 6, .inr (.inl fo)))) (mu_u _ _ _ _))) hP
        refine lv_lsub hx hb dX3_countFrom_135 ?_
        refine va_mmax_long hx hb (hml.trans hl.1.symm) hown (hts (.methodLink RX3 220 Lib.MathLoose.max_long.x) (by decide +kernel)) (hts (.static Lib.MathLoose.max_long.x) (by decide +kernel)) (hts (.initialized "java/lang/Math") (by decide +kernel)) (hts (.code Lib.MathLoose.max_long.x Lib.MathLoose.max_long.code 4 (some .long)) (by decide +kernel)) (Nat.le_of_ble_eq_true rfl) (Nat.le_of_ble_eq_true rfl) (Nat.zero_le _) (Nat.zero_le _) dX3_countFrom_136 ?_
        refine lv_topl (fun v139 ev139 => ?_)
        refine lv_lstore (lv' := [(4, .long v139), (6, .long v92), (9, .long v46), (0, .ref d), (1, .int (nI v9)), (2, .int (nI (2 * v9))), (3, .int (nI (2 * v9 + 1))), (8, .int (nI i1))]) hx hb dX3_countFrom_139 hl (by decide) rfl (fun ls hl => ?_)
        refine lv_iinc (v := nI (i1 + 1)) (lv' := [(8, .int (nI (i1 + 1))), (4, .long v139), (6, .long v92), (9, .long v46), (0, .ref d), (1, .int (nI v9)), (2, .int (nI (2 * v9))), (3, .int (nI (2 * v9 + 1)))]) hx hb dX3_countFrom_141 hl (k := 7) rfl (nI_add _ _) (by decide) rfl (fun ls hl => ?_)
        refine lv_goto (tgt := 33) hx hb dX3_countFrom_144 (by decide) ?_
        exact ih33 (i1 + 1) v139 v92 g132 (by omega) (by omega) (cf_min ev92 (cf_min ev68 hh)) ((((hO.tr ho59).tr ho83).tr ho107).tr ho132) _ _ hP hS ls (lv_sub hl [4, 5, 6, 7, 1, 2, 0] rfl)
  have hl := lv_entry ([.ref d, .int (nI v9)]) (n := 11) (Nat.le_of_ble_eq_true rfl)
  have he9 : entryFrame m args 11 = entryFrame m ([.ref d, .int (nI v9)] : List Value).toArray 11 := by rw [hargs]
  rw [he9, lg_entry_eq]
  generalize (lg_sl ([.ref d, .int (nI v9)]) ++ List.replicate (11 - (lg_sl ([.ref d, .int (nI v9)])).length) Slot.unset).toArray = ls at hl ⊢
  have hl : lv_has ls 11 [(0, .ref d), (1, .int (nI v9))] := hl
  refine lv_iload_n hx hb dX3_countFrom_0 rfl (lv_at hl 1 rfl) ?_
  refine lv_bipush (v := nI 6) hx hb dX3_countFrom_1 (by decide) ?_
  refine nv_icmp_lt (tgt := 8) hx hb (by omega) (by omega) dX3_countFrom_3 (by decide) (fun hc3 => ?_) (fun hc3 => ?_)
  · refine lv_iconst (v := nI 2) hx hb dX3_countFrom_8 (by decide) ?_
    refine lv_iload_n hx hb dX3_countFrom_9 rfl (lv_at hl 1 rfl) ?_
    refine nv_imul hx hb dX3_countFrom_10 ?_
    refine lv_istore_n (lv' := [(2, .int (nI (2 * v9))), (0, .ref d), (1, .int (nI v9))]) hx hb dX3_countFrom_11 rfl hl (by decide) rfl (fun ls hl => ?_)
    refine lv_iload_n hx hb dX3_countFrom_12 rfl (lv_at hl 0 rfl) ?_
    refine lv_iconst (v := nI 1) hx hb dX3_countFrom_13 (by decide) ?_
    refine nv_iadd hx hb dX3_countFrom_14 ?_
    refine lv_istore_n (lv' := [(3, .int (nI ((2 * v9) + 1))), (2, .int (nI (2 * v9))), (0, .ref d), (1, .int (nI v9))]) hx hb dX3_countFrom_15 rfl hl (by decide) rfl (fun ls hl => ?_)
    refine lv_lconst (v := 0) hx hb dX3_countFrom_16 (by decide) ?_
    refine lv_lstore (lv' := [(4, .long 0), (3, .int (nI ((2 * v9) + 1))), (2, .int (nI (2 * v9))), (0, .ref d), (1, .int (nI v9))]) hx hb dX3_countFrom_17 hl (by decide) rfl (fun ls hl => ?_)
    refine lv_aload_n hx hb dX3_countFrom_19 rfl (lv_at hl 3 rfl) ?_
    refine mw_get (C := RX3) (T := TX3) (N := 7) hx hb hts in_X3_countFrom_X3 hown hK hP ((mu_n ne0_4).trans ((mu_n ne0_3).trans (hd))) rfl 1 (by decide) (hts (.fieldLink RX3 29 "OctagonDesk" "made" "LOctagonDesk$Shape;") (by decide +kernel)) (fun _ h9 => h9) rfl dX3_countFrom_20 ?_
    refine lv_iload_n hx hb dX3_countFrom_23 rfl (lv_at hl 2 rfl) ?_
    refine lv_iload_n hx hb dX3_countFrom_24 rfl (lv_at hl 2 rfl) ?_
    refine kc_l (va_runV (As := [.int (nI (2 * v9)), .int (nI (2 * v9))]) (rest := []) ⟨hx, hb, hml, hown, hts⟩ (v_X1_mostOf l G B (mu (mu μ l2 (.inl (G.2 0, 158 * k + 158, .inr (.inl f)))) aO (.inl (G.2 0, 6, .inr (.inl fo)))) s2 n2 l2 k b f (2 * v9) (2 * v9) ((mu_n ne1_4).trans ((mu_n ne1_3).trans (hs2))) ((mu_n ne2_4).trans ((mu_n ne2_3).trans (hn2))) ((mu_n hne).trans (mu_s _ _ _)) (by omega) (by omega) (by omega)) (cwV 2 hts gX3_countFrom_X1_mostOf rfl rfl rfl (by decide +kernel) ⟨Nat.le_of_ble_eq_true rfl, Nat.le_of_ble_eq_true rfl⟩) ⟨KW.blind, hP.recv hK rfl ((mu_n ne1_4).trans ((mu_n ne1_3).trans (hs2))), fun U9 hU9 hW9 => ⟨rfl, KW.pre hBs hKK hS hP U9 hU9 hW9⟩⟩ rfl rfl hl.1 rfl (lv_room (Nat.le_of_ble_eq_true rfl)) dX3_countFrom_25 ⟨(Nat.le_of_ble_eq_true rfl), (Nat.le_of_ble_eq_true rfl)⟩) hS (fun r25 m25 H locs hq9 hP hz9 hS => ?_)
    obtain ⟨g25, rfl, ho25, hv25⟩ := hq9
    have hP : mw G.1 vwCl B (mu (mu μ l2 (.inl (G.2 0, 158 * k + 158, .inr (.inl g25)))) aO (.inl (G.2 0, 6, .inr (.inl fo)))) _ := mw_eq ((mu_c _ _ ((Ne.symm hne))).trans (congrArg (fun z => mu z aO (.inl (G.2 0, 6, .inr (.inl fo)))) (mu_u _ _ _ _))) hP
    refine lv_lstore (lv' := [(6, .long r25), (4, .long 0), (3, .int (nI ((2 * v9) + 1))), (2, .int (nI (2 * v9))), (0, .ref d), (1, .int (nI v9))]) hx hb dX3_countFrom_28 hl (by decide) rfl (fun ls hl => ?_)
    refine lv_iconst (v := nI 0) hx hb dX3_countFrom_30 (by decide) ?_
    refine lv_istore (lv' := [(8, .int (nI 0)), (6, .long r25), (4, .long 0), (3, .int (nI ((2 * v9) + 1))), (2, .int (nI (2 * v9))), (0, .ref d), (1, .int (nI v9))]) hx hb dX3_countFrom_31 hl (by decide) rfl (fun ls hl => ?_)
    exact L33 _ 0 0 r25 g25 (Nat.lt_succ_self _) (by omega) (by rw [hv25]; exact hMV v9 (by omega)) (ho25) _ _ hP hS ls (lv_sub hl [5, 6, 4, 3, 2, 1, 0] rfl)
  · exfalso; omega

abbrev rv_X3_countFrom_5 : Room := { frames := 7, cells := 0, slots := 0, locals := 191 }
set_option maxHeartbeats 4000000 in
set_option maxRecDepth 100000 in
theorem v_X3_countFrom_5 (l : Launch) (G : GG) (B : Nat) (μ : mp) (d aS s2 aT aO aL aR n2 l2 k sc b : Nat) (f : Nat → Int64) (fo : Nat → Int64) (v9 : Nat) (hd : μ d = some (.inr (3, [.ref aS, .ref s2, .ref aT, .ref aO, .int (nI sc), .ref aL, .ref aR]))) (hs2 : μ s2 = some (.inr (1, [.ref n2, .int (nI b)]))) (hn2 : μ n2 = some (.inr (0, [.int (nI 158), .int (nI 157), .ref l2, .int (nI (158 * k))]))) (hl2 : μ l2 = some (.inl (G.2 0, 158 * k + 158, .inr (.inl f)))) (hao : μ aO = some (.inl (G.2 0, 6, .inr (.inl fo)))) (hk : k ≤ 1022) (hv9 : v9 + 5 = 6) (hMV : ∀ i, i < 6 → MV k f (2 * i) (2 * i) < 4096) (hne : l2 ≠ aO) : Met l yX3_countFrom wsX3_countFrom rv_X3_countFrom_5 (va_Pc [.ref d, .int (nI v9)] (KW G B μ)) (va_Qi (fun r μ2 => ∃ g9 fo9 : Nat → Int64, μ2 = mu (mu μ l2 (.inl (G.2 0, 158 * k + 158, .inr (.inl g9)))) aO (.inl (G.2 0, 6, .inr (.inl fo9))) ∧ Off 156 f g9) (BB G B) (fun q => B ≤ q)) 0 0 (fun q => B ≤ q) := by
  refine Met.ofW (cc := cX3_countFrom) (maxL := 11) (ret := (some .int)) (by decide) rfl ?_
  intro p e s m args below meth c s₁ B9 hml hv
  obtain ⟨hargs, hBs, hP, hKK⟩ := hv
  have hx := B9.exec
  have hb := B9.bytes
  have hr := B9.returns
  have hts := atoms_spec (ws := wsX3_countFrom) B9.pre
  have hown : s.vm.findClass RX3 = some m.cls := findClass_of_methodNamed B9.named
  have hlocks := B9.notSynchronized
  have hK := hKK.k
  have hS : va_S (fun q => B ≤ q) s.heap s.heap [] := va_S.rf
  obtain ⟨Q, hQ⟩ : ∃ Q, Q = MQ below (va_Qi (fun r μ2 => ∃ g9 fo9 : Nat → Int64, μ2 = mu (mu μ l2 (.inl (G.2 0, 158 * k + 158, .inr (.inl g9)))) aO (.inl (G.2 0, 6, .inr (.inl fo9))) ∧ Off 156 f g9) (BB G B) (fun q => B ≤ q)) args s 0 0 (fun q => B ≤ q) := ⟨_, rfl⟩
  rw [← hQ]
  have ne0_1 : d ≠ s2 := mp_ne hd hs2 (by simp)
  have ne0_2 : d ≠ n2 := mp_ne hd hn2 (by simp)
  have ne0_3 : d ≠ l2 := mp_ne hd hl2 (by simp)
  have ne0_4 : d ≠ aO := mp_ne hd hao (by simp)
  have ne1_2 : s2 ≠ n2 := mp_ne hs2 hn2 (by simp)
  have ne1_3 : s2 ≠ l2 := mp_ne hs2 hl2 (by simp)
  have ne1_4 : s2 ≠ aO := mp_ne hs2 hao (by simp)
  have ne2_3 : n2 ≠ l2 := mp_ne hn2 hl2 (by simp)
  have ne2_4 : n2 ≠ aO := mp_ne hn2 hao (by simp)
  have in_X3_countFrom_X3 : ∀ w ∈ wsX30, w ∈ wsX3_countFrom := by decide +kernel
  have hP : mw G.1 vwCl B (mu (mu μ l2 (.inl (G.2 0, 158 * k + 158, .inr (.inl f)))) aO (.inl (G.2 0, 6, .inr (.inl fo)))) s.heap := mw_eq ((congrArg (fun z => mu z aO (.inl (G.2 0, 6, .inr (.inl fo)))) (mu_i hl2)).trans (mu_i hao)).symm hP
  have L154 : ∀ (N154 : Nat) (x : Int64) (ct : Int32) (lo : Int64) (hi : Int64) (g2 : Nat → Int64) (fo2 : Nat → Int64) (hN154 : (hi.toInt - x.toInt + 1).toNat < N154) (hh : hi < 4096) (hO2 : Off 156 f g2), ∀ (H : Heap) (locs : List Loc), mw G.1 vwCl B (mu (mu μ l2 (.inl (G.2 0, 158 * k + 158, .inr (.inl g2)))) aO (.inl (G.2 0, 6, .inr (.inl fo2)))) H → va_S (fun q => B ≤ q) s.heap H locs → ∀ ls : Array Slot, lv_has ls 11 [(0, .ref d), (1, .int (nI v9)), (2, .int (nI (2 * v9))), (3, .int (nI (2 * v9 + 1))), (4, .long lo), (6, .long hi), (8, .int ct), (9, .long x)] → W p l e rv_X3_countFrom_5 s m args below meth c H locs 0 0 Q (F0 m 154 ls []) := by
    intro N154
    induction N154 with
    | zero => intro x ct lo hi g2 fo2 hN154; exact absurd hN154 (Nat.not_lt_zero _)
    | succ N154 ih154 =>
      intro x ct lo hi g2 fo2 hN154 hh hO2 H locs hP hS ls hl
      refine lv_lload hx hb dX3_countFrom_154 (lv_at hl 7 rfl) ?_
      refine lv_lload hx hb dX3_countFrom_156 (lv_at hl 5 rfl) ?_
      refine nl_if_gt (tgt := 191) hx hb dX3_countFrom_158 dX3_countFrom_159 (by decide) (fun hc158 => ?_) (fun hc158 => ?_)
      · refine lv_iload hx hb dX3_countFrom_191 (lv_at hl 6 rfl) ?_
        rw [hQ]
        exact W.iret (v := ct) hx hb hr (fun t99 ht99 hW99 => ⟨⟨ct, mu (mu μ l2 (.inl (G.2 0, 158 * k + 158, .inr (.inl g2)))) aO (.inl (G.2 0, 6, .inr (.inl fo2))), rfl, (⟨_, _, rfl, hO2⟩), by show mw _ _ _ _ t99.heap; rw [ht99]; exact hP⟩, hS.F ht99⟩) hS.2.2 dX3_countFrom_193
      · refine lv_aload_n hx hb dX3_countFrom_162 rfl (lv_at hl 0 rfl) ?_
        refine mw_get (C := RX3) (T := TX3) (N := 7) hx hb hts in_X3_countFrom_X3 hown hK hP ((mu_n ne0_4).trans ((mu_n ne0_3).trans (hd))) rfl 3 (by decide) (hts (.fieldLink RX3 33 "OctagonDesk" "offsets" "[J") (by decide +kernel)) (fun _ h9 => h9) rfl dX3_countFrom_163 ?_
        refine lv_iload_n hx hb dX3_countFrom_166 rfl (lv_at hl 1 rfl) ?_
        refine lv_lload hx hb dX3_countFrom_167 (lv_at hl 7 rfl) ?_
        refine mw_last hx hb hK hP hS 0 (mu_s _ _ _) rfl (by omega) (by omega) dX3_countFrom_169 (fun H locs hP hS => ?_)
        have hP : mw G.1 vwCl B (mu (mu μ l2 (.inl (G.2 0, 158 * k + 158, .inr (.inl g2)))) aO (.inl (G.2 0, 6, .inr (.inl (vp_updL fo2 v9 x))))) _ := mw_eq (mu_u _ _ _ _) hP
        refine lv_iload hx hb dX3_countFrom_170 (lv_at hl 6 rfl) ?_
        refine lv_aload_n hx hb dX3_countFrom_172 rfl (lv_at hl 0 rfl) ?_
        refine lv_iload_n hx hb dX3_countFrom_173 rfl (lv_at hl 1 rfl) ?_
        refine lv_iconst (v := nI 1) hx hb dX3_countFrom_174 (by decide) ?_
        refine nv_iadd hx hb dX3_countFrom_175 ?_
        refine kc_i (va_runV (As := [.int (nI (v9 + 1))]) (rest := [.int ct]) ⟨hx, hb, hml, hown, hts⟩ (v_X3_countFrom_4 l G B (mu (mu μ l2 (.inl (G.2 0, 158 * k + 158, .inr (.inl g2)))) aO (.inl (G.2 0, 6, .inr (.inl (vp_updL fo2 v9 x))))) d aS s2 aT aO aL aR n2 l2 k sc b g2 (vp_updL fo2 v9 x) (v9 + 1) ((mu_n ne0_4).trans ((mu_n ne0_3).trans (hd))) ((mu_n ne1_4).trans ((mu_n ne1_3).trans (hs2))) ((mu_n ne2_4).trans ((mu_n ne2_3).trans (hn2))) ((mu_n hne).trans (mu_s _ _ _)) (mu_s _ _ _) (by omega) (by omega) (fun i h9 => by rw [MV_cong (by omega) (by omega) hO2]; exact hMV i h9) hne) (cwV 1 hts gX3_countFrom_X3_countFrom rfl rfl rfl (by decide +kernel) ⟨Nat.le_of_ble_eq_true rfl, Nat.le_of_ble_eq_true rfl⟩) ⟨KW.blind, hP.recv hK rfl ((mu_n ne0_4).trans ((mu_n ne0_3).trans (hd))), fun U9 hU9 hW9 => ⟨rfl, KW.pre hBs hKK hS hP U9 hU9 hW9⟩⟩ rfl rfl hl.1 rfl (lv_room (Nat.le_of_ble_eq_true rfl)) dX3_countFrom_176 ⟨(Nat.le_of_ble_eq_true rfl), (Nat.le_of_ble_eq_true rfl)⟩) hS (fun r176 m176 H locs hq9 hP hz9 hS => ?_)
        obtain ⟨g176, fo176, he176, ho176⟩ := hq9
        rw [he176] at hP
        have hP : mw G.1 vwCl B (mu (mu μ l2 (.inl (G.2 0, 158 * k + 158, .inr (.inl g176)))) aO (.inl (G.2 0, 6, .inr (.inl fo176)))) _ := mw_eq ((congrArg (fun z => mu z aO (.inl (G.2 0, 6, .inr (.inl fo176)))) ((mu_c _ _ ((Ne.symm hne))).trans (congrArg (fun z => mu z aO (.inl (G.2 0, 6, .inr (.inl (vp_updL fo2 v9 x))))) (mu_u _ _ _ _)))).trans (mu_u _ _ _ _)) hP
        refine lv_iadd hx hb dX3_countFrom_179 ?_
        refine lv_topi (fun v180 ev180 => ?_)
        refine lv_istore (lv' := [(8, .int v180), (0, .ref d), (1, .int (nI v9)), (2, .int (nI (2 * v9))), (3, .int (nI (2 * v9 + 1))), (4, .long lo), (6, .long hi), (9, .long x)]) hx hb dX3_countFrom_180 hl (by decide) rfl (fun ls hl => ?_)
        refine lv_lload hx hb dX3_countFrom_182 (lv_at hl 7 rfl) ?_
        refine lv_lconst (v := 1) hx hb dX3_countFrom_184 (by decide) ?_
        refine lv_ladd hx hb dX3_countFrom_185 ?_
        refine lv_topl (fun v186 ev186 => ?_)
        refine lv_lstore (lv' := [(9, .long v186), (8, .int v180), (0, .ref d), (1, .int (nI v9)), (2, .int (nI (2 * v9))), (3, .int (nI (2 * v9 + 1))), (4, .long lo), (6, .long hi)]) hx hb dX3_countFrom_186 hl (by decide) rfl (fun ls hl => ?_)
        refine lv_goto (tgt := 154) hx hb dX3_countFrom_188 (by decide) ?_
        exact ih154 v186 v180 lo hi g176 fo176 (Nat.lt_of_lt_of_le (cf_m hc158 hh ev186) (Nat.le_of_lt_succ hN154)) (hh) (hO2.tr ho176) _ _ hP hS ls (lv_sub hl [2, 3, 4, 5, 6, 7, 1, 0] rfl)
  have L33 : ∀ (N33 : Nat) (i1 : Nat) (lo : Int64) (hi : Int64) (g1 : Nat → Int64) (hN33 : v9 - i1 < N33) (hi1 : i1 ≤ v9) (hh : hi < 4096) (hO : Off 156 f g1), ∀ (H : Heap) (locs : List Loc), mw G.1 vwCl B (mu (mu μ l2 (.inl (G.2 0, 158 * k + 158, .inr (.inl g1)))) aO (.inl (G.2 0, 6, .inr (.inl fo)))) H → va_S (fun q => B ≤ q) s.heap H locs → ∀ ls : Array Slot, lv_has ls 11 [(0, .ref d), (1, .int (nI v9)), (2, .int (nI (2 * v9))), (3, .int (nI (2 * v9 + 1))), (4, .long lo), (6, .long hi), (8, .int (nI i1))] → W p l e rv_X3_countFrom_5 s m args below meth c H locs 0 0 Q (F0 m 33 ls []) := by
    intro N33
    induction N33 with
    | zero => intro i1 lo hi g1 hN33; exact absurd hN33 (Nat.not_lt_zero _)
    | succ N33 ih33 =>
      intro i1 lo hi g1 hN33 hi1 hh hO H locs hP hS ls hl
      refine lv_iload hx hb dX3_countFrom_33 (lv_at hl 6 rfl) ?_
      refine lv_iload_n hx hb dX3_countFrom_35 rfl (lv_at hl 1 rfl) ?_
      refine nv_icmp_ge (tgt := 147) hx hb (by omega) (by omega) dX3_countFrom_36 (by decide) (fun hc36 => ?_) (fun hc36 => ?_)
      · refine lv_iconst (v := nI 0) hx hb dX3_countFrom_147 (by decide) ?_
        refine lv_istore (lv' := [(8, .int (nI 0)), (0, .ref d), (1, .int (nI v9)), (2, .int (nI (2 * v9))), (3, .int (nI (2 * v9 + 1))), (4, .long lo), (6, .long hi)]) hx hb dX3_countFrom_148 hl (by decide) rfl (fun ls hl => ?_)
        refine lv_lload hx hb dX3_countFrom_150 (lv_at hl 5 rfl) ?_
        refine lv_lstore (lv' := [(9, .long lo), (8, .int (nI 0)), (0, .ref d), (1, .int (nI v9)), (2, .int (nI (2 * v9))), (3, .int (nI (2 * v9 + 1))), (4, .long lo), (6, .long hi)]) hx hb dX3_countFrom_152 hl (by decide) rfl (fun ls hl => ?_)
        exact L154 _ lo (nI 0) lo hi g1 fo (Nat.lt_succ_self _) (hh) (hO) _ _ hP hS ls (lv_sub hl [2, 3, 4, 5, 6, 7, 1, 0] rfl)
      · refine lv_aload_n hx hb dX3_countFrom_39 rfl (lv_at hl 0 rfl) ?_
        refine mw_get (C := RX3) (T := TX3) (N := 7) hx hb hts in_X3_countFrom_X3 hown hK hP ((mu_n ne0_4).trans ((mu_n ne0_3).trans (hd))) rfl 3 (by decide) (hts (.fieldLink RX3 33 "OctagonDesk" "offsets" "[J") (by decide +kernel)) (fun _ h9 => h9) rfl dX3_countFrom_40 ?_
        refine lv_iload hx hb dX3_countFrom_43 (lv_at hl 6 rfl) ?_
        refine mw_lald hx hb hK hP 0 (mu_s _ _ _) rfl (by omega) (by omega) dX3_countFrom_45 ?_
        refine lv_topl (fun v46 ev46 => ?_)
        refine lv_lstore (lv' := [(9, .long v46), (0, .ref d), (1, .int (nI v9)), (2, .int (nI (2 * v9))), (3, .int (nI (2 * v9 + 1))), (4, .long lo), (6, .long hi), (8, .int (nI i1))]) hx hb dX3_countFrom_46 hl (by decide) rfl (fun ls hl => ?_)
        refine lv_lload hx hb dX3_countFrom_48 (lv_at hl 6 rfl) ?_
        refine lv_aload_n hx hb dX3_countFrom_50 rfl (lv_at hl 1 rfl) ?_
        refine mw_get (C := RX3) (T := TX3) (N := 7) hx hb hts in_X3_countFrom_X3 hown hK hP ((mu_n ne0_4).trans ((mu_n ne0_3).trans (hd))) rfl 1 (by decide) (hts (.fieldLink RX3 29 "OctagonDesk" "made" "LOctagonDesk$Shape;") (by decide +kernel)) (fun _ h9 => h9) rfl dX3_countFrom_51 ?_
        refine lv_iload_n hx hb dX3_countFrom_54 rfl (lv_at hl 3 rfl) ?_
        refine lv_iconst (v := nI 2) hx hb dX3_countFrom_55 (by decide) ?_
        refine lv_iload hx hb dX3_countFrom_56 (lv_at hl 7 rfl) ?_
        refine nv_imul hx hb dX3_countFrom_58 ?_
        refine kc_l (va_runV (As := [.int (nI (2 * v9)), .int (nI (2 * i1))]) (rest := [.long hi]) ⟨hx, hb, hml, hown, hts⟩ (v_X1_mostOf l G B (mu (mu μ l2 (.inl (G.2 0, 158 * k + 158, .inr (.inl g1)))) aO (.inl (G.2 0, 6, .inr (.inl fo)))) s2 n2 l2 k b g1 (2 * v9) (2 * i1) ((mu_n ne1_4).trans ((mu_n ne1_3).trans (hs2))) ((mu_n ne2_4).trans ((mu_n ne2_3).trans (hn2))) ((mu_n hne).trans (mu_s _ _ _)) (by omega) (by omega) (by omega)) (cwV 2 hts gX3_countFrom_X1_mostOf rfl rfl rfl (by decide +kernel) ⟨Nat.le_of_ble_eq_true rfl, Nat.le_of_ble_eq_true rfl⟩) ⟨KW.blind, hP.recv hK rfl ((mu_n ne1_4).trans ((mu_n ne1_3).trans (hs2))), fun U9 hU9 hW9 => ⟨rfl, KW.pre hBs hKK hS hP U9 hU9 hW9⟩⟩ rfl rfl hl.1 rfl (lv_room (Nat.le_of_ble_eq_true rfl)) dX3_countFrom_59 ⟨(Nat.le_of_ble_eq_true rfl), (Nat.le_of_ble_eq_true rfl)⟩) hS (fun r59 m59 H locs hq9 hP hz9 hS => ?_)
        obtain ⟨g59, rfl, ho59, hv59⟩ := hq9
        have hP : mw G.1 vwCl B (mu (mu μ l2 (.inl (G.2 0, 158 * k + 158, .inr (.inl g59)))) aO (.inl (G.2 0, 6, .inr (.inl fo)))) _ := mw_eq ((mu_c _ _ ((Ne.symm hne))).trans (congrArg (fun z => mu z aO (.inl (G.2 0, 6, .inr (.inl fo)))) (mu_u _ _ _ _))) hP
        refine lv_lload hx hb dX3_countFrom_62 (lv_at hl 0 rfl) ?_
        refine lv_lsub hx hb dX3_countFrom_64 ?_
        refine va_mmin_long hx hb (hml.trans hl.1.symm) hown (hts (.methodLink RX3 214 Lib.MathLoose.min_long.x) (by decide +kernel)) (hts (.static Lib.MathLoose.min_long.x) (by decide +kernel)) (hts (.initialized "java/lang/Math") (by decide +kernel)) (hts (.code Lib.MathLoose.min_long.x Lib.MathLoose.min_long.code 4 (some .long)) (by decide +kernel)) (Nat.le_of_ble_eq_true rfl) (Nat.le_of_ble_eq_true rfl) (Nat.zero_le _) (Nat.zero_le _) dX3_countFrom_65 ?_
        refine lv_topl (fun v68 ev68 => ?_)
        refine lv_lstore (lv' := [(6, .long v68), (9, .long v46), (0, .ref d), (1, .int (nI v9)), (2, .int (nI (2 * v9))), (3, .int (nI (2 * v9 + 1))), (4, .long lo), (8, .int (nI i1))]) hx hb dX3_countFrom_68 hl (by decide) rfl (fun ls hl => ?_)
        refine lv_lload hx hb dX3_countFrom_70 (lv_at hl 0 rfl) ?_
        refine lv_aload_n hx hb dX3_countFrom_72 rfl (lv_at hl 2 rfl) ?_
        refine mw_get (C := RX3) (T := TX3) (N := 7) hx hb hts in_X3_countFrom_X3 hown hK hP ((mu_n ne0_4).trans ((mu_n ne0_3).trans (hd))) rfl 1 (by decide) (hts (.fieldLink RX3 29 "OctagonDesk" "made" "LOctagonDesk$Shape;") (by decide +kernel)) (fun _ h9 => h9) rfl dX3_countFrom_73 ?_
        refine lv_iload_n hx hb dX3_countFrom_76 rfl (lv_at hl 4 rfl) ?_
        refine lv_iconst (v := nI 2) hx hb dX3_countFrom_77 (by decide) ?_
        refine lv_iload hx hb dX3_countFrom_78 (lv_at hl 7 rfl) ?_
        refine nv_imul hx hb dX3_countFrom_80 ?_
        refine lv_iconst (v := nI 1) hx hb dX3_countFrom_81 (by decide) ?_
        refine nv_iadd hx hb dX3_countFrom_82 ?_
        refine kc_l (va_runV (As := [.int (nI (2 * v9)), .int (nI ((2 * i1) + 1))]) (rest := [.long v68]) ⟨hx, hb, hml, hown, hts⟩ (v_X1_mostOf l G B (mu (mu μ l2 (.inl (G.2 0, 158 * k + 158, .inr (.inl g59)))) aO (.inl (G.2 0, 6, .inr (.inl fo)))) s2 n2 l2 k b g59 (2 * v9) ((2 * i1) + 1) ((mu_n ne1_4).trans ((mu_n ne1_3).trans (hs2))) ((mu_n ne2_4).trans ((mu_n ne2_3).trans (hn2))) ((mu_n hne).trans (mu_s _ _ _)) (by omega) (by omega) (by omega)) (cwV 2 hts gX3_countFrom_X1_mostOf rfl rfl rfl (by decide +kernel) ⟨Nat.le_of_ble_eq_true rfl, Nat.le_of_ble_eq_true rfl⟩) ⟨KW.blind, hP.recv hK rfl ((mu_n ne1_4).trans ((mu_n ne1_3).trans (hs2))), fun U9 hU9 hW9 => ⟨rfl, KW.pre hBs hKK hS hP U9 hU9 hW9⟩⟩ rfl rfl hl.1 rfl (lv_room (Nat.le_of_ble_eq_true rfl)) dX3_countFrom_83 ⟨(Nat.le_of_ble_eq_true rfl), (Nat.le_of_ble_eq_true rfl)⟩) hS (fun r83 m83 H locs hq9 hP hz9 hS => ?_)
        obtain ⟨g83, rfl, ho83, hv83⟩ := hq9
        have hP : mw G.1 vwCl B (mu (mu μ l2 (.inl (G.2 0, 158 * k + 158, .inr (.inl g83)))) aO (.inl (G.2 0, 6, .inr (.inl fo)))) _ := mw_eq ((mu_c _ _ ((Ne.symm hne))).trans (congrArg (fun z => mu z aO (.inl (G.2 0, 6, .inr (.inl fo)))) (mu_u _ _ _ _))) hP
        refine lv_lload hx hb dX3_countFrom_86 (lv_at hl 1 rfl) ?_
        refine lv_ladd hx hb dX3_countFrom_88 ?_
        refine va_mmin_long hx hb (hml.trans hl.1.symm) hown (hts (.methodLink RX3 214 Lib.MathLoose.min_long.x) (by decide +kernel)) (hts (.static Lib.MathLoose.min_long.x) (by decide +kernel)) (hts (.initialized "java/lang/Math") (by decide +kernel)) (hts (.code Lib.MathLoose.min_long.x Lib.MathLoose.min_long.code 4 (some .long)) (by decide +kernel)) (Nat.le_of_ble_eq_true rfl) (Nat.le_of_ble_eq_true rfl) (Nat.zero_le _) (Nat.zero_le _) dX3_countFrom_89 ?_
        refine lv_topl (fun v92 ev92 => ?_)
        refine lv_lstore (lv' := [(6, .long v92), (9, .long v46), (0, .ref d), (1, .int (nI v9)), (2, .int (nI (2 * v9))), (3, .int (nI (2 * v9 + 1))), (4, .long lo), (8, .int (nI i1))]) hx hb dX3_countFrom_92 hl (by decide) rfl (fun ls hl => ?_)
        refine lv_lload hx hb dX3_countFrom_94 (lv_at hl 6 rfl) ?_
        refine lv_lload hx hb dX3_countFrom_96 (lv_at hl 1 rfl) ?_
        refine lv_aload_n hx hb dX3_countFrom_98 rfl (lv_at hl 2 rfl) ?_
        refine mw_get (C := RX3) (T := TX3) (N := 7) hx hb hts in_X3_countFrom_X3 hown hK hP ((mu_n ne0_4).trans ((mu_n ne0_3).trans (hd))) rfl 1 (by decide) (hts (.fieldLink RX3 29 "OctagonDesk" "made" "LOctagonDesk$Shape;") (by decide +kernel)) (fun _ h9 => h9) rfl dX3_countFrom_99 ?_
        refine lv_iload_n hx hb dX3_countFrom_102 rfl (lv_at hl 5 rfl) ?_
        refine lv_iconst (v := nI 2) hx hb dX3_countFrom_103 (by decide) ?_
        refine lv_iload hx hb dX3_countFrom_104 (lv_at hl 7 rfl) ?_
        refine nv_imul hx hb dX3_countFrom_106 ?_
        refine kc_l (va_runV (As := [.int (nI (2 * v9 + 1)), .int (nI (2 * i1))]) (rest := [.long v46, .long lo]) ⟨hx, hb, hml, hown, hts⟩ (v_X1_mostOf l G B (mu (mu μ l2 (.inl (G.2 0, 158 * k + 158, .inr (.inl g83)))) aO (.inl (G.2 0, 6, .inr (.inl fo)))) s2 n2 l2 k b g83 (2 * v9 + 1) (2 * i1) ((mu_n ne1_4).trans ((mu_n ne1_3).trans (hs2))) ((mu_n ne2_4).trans ((mu_n ne2_3).trans (hn2))) ((mu_n hne).trans (mu_s _ _ _)) (by omega) (by omega) (by omega)) (cwV 2 hts gX3_countFrom_X1_mostOf rfl rfl rfl (by decide +kernel) ⟨Nat.le_of_ble_eq_true rfl, Nat.le_of_ble_eq_true rfl⟩) ⟨KW.blind, hP.recv hK rfl ((mu_n ne1_4).trans ((mu_n ne1_3).trans (hs2))), fun U9 hU9 hW9 => ⟨rfl, KW.pre hBs hKK hS hP U9 hU9 hW9⟩⟩ rfl rfl hl.1 rfl (lv_room (Nat.le_of_ble_eq_true rfl)) dX3_countFrom_107 ⟨(Nat.le_of_ble_eq_true rfl), (Nat.le_of_ble_eq_true rfl)⟩) hS (fun r107 m107 H locs hq9 hP hz9 hS => ?_)
        obtain ⟨g107, rfl, ho107, hv107⟩ := hq9
        have hP : mw G.1 vwCl B (mu (mu μ l2 (.inl (G.2 0, 158 * k + 158, .inr (.inl g107)))) aO (.inl (G.2 0, 6, .inr (.inl fo)))) _ := mw_eq ((mu_c _ _ ((Ne.symm hne))).trans (congrArg (fun z => mu z aO (.inl (G.2 0, 6, .inr (.inl fo)))) (mu_u _ _ _ _))) hP
        refine lv_lsub hx hb dX3_countFrom_110 ?_
        refine va_mmax_long hx hb (hml.trans hl.1.symm) hown (hts (.methodLink RX3 220 Lib.MathLoose.max_long.x) (by decide +kernel)) (hts (.static Lib.MathLoose.max_long.x) (by decide +kernel)) (hts (.initialized "java/lang/Math") (by decide +kernel)) (hts (.code Lib.MathLoose.max_long.x Lib.MathLoose.max_long.code 4 (some .long)) (by decide +kernel)) (Nat.le_of_ble_eq_true rfl) (Nat.le_of_ble_eq_true rfl) (Nat.zero_le _) (Nat.zero_le _) dX3_countFrom_111 ?_
        refine lv_topl (fun v114 ev114 => ?_)
        refine lv_lstore (lv' := [(4, .long v114), (6, .long v92), (9, .long v46), (0, .ref d), (1, .int (nI v9)), (2, .int (nI (2 * v9))), (3, .int (nI (2 * v9 + 1))), (8, .int (nI i1))]) hx hb dX3_countFrom_114 hl (by decide) rfl (fun ls hl => ?_)
        refine lv_lload hx hb dX3_countFrom_116 (lv_at hl 0 rfl) ?_
        refine lv_lload hx hb dX3_countFrom_118 (lv_at hl 2 rfl) ?_
        refine lv_lneg hx hb dX3_countFrom_120 ?_
        refine lv_aload_n hx hb dX3_countFrom_121 rfl (lv_at hl 3 rfl) ?_
        refine mw_get (C := RX3) (T := TX3) (N := 7) hx hb hts in_X3_countFrom_X3 hown hK hP ((mu_n ne0_4).trans ((mu_n ne0_3).trans (hd))) rfl 1 (by decide) (hts (.fieldLink RX3 29 "OctagonDesk" "made" "LOctagonDesk$Shape;") (by decide +kernel)) (fun _ h9 => h9) rfl dX3_countFrom_122 ?_
        refine lv_iload_n hx hb dX3_countFrom_125 rfl (lv_at hl 6 rfl) ?_
        refine lv_iconst (v := nI 2) hx hb dX3_countFrom_126 (by decide) ?_
        refine lv_iload hx hb dX3_countFrom_127 (lv_at hl 7 rfl) ?_
        refine nv_imul hx hb dX3_countFrom_129 ?_
        refine lv_iconst (v := nI 1) hx hb dX3_countFrom_130 (by decide) ?_
        refine nv_iadd hx hb dX3_countFrom_131 ?_
        refine kc_l (va_runV (As := [.int (nI (2 * v9 + 1)), .int (nI ((2 * i1) + 1))]) (rest := [.long (-v46), .long v114]) ⟨hx, hb, hml, hown, hts⟩ (v_X1_mostOf l G B (mu (mu μ l2 (.inl (G.2 0, 158 * k + 158, .inr (.inl g107)))) aO (.inl (G.2 0, 6, .inr (.inl fo)))) s2 n2 l2 k b g107 (2 * v9 + 1) ((2 * i1) + 1) ((mu_n ne1_4).trans ((mu_n ne1_3).trans (hs2))) ((mu_n ne2_4).trans ((mu_n ne2_3).trans (hn2))) ((mu_n hne).trans (mu_s _ _ _)) (by omega) (by omega) (by omega)) (cwV 2 hts gX3_countFrom_X1_mostOf rfl rfl rfl (by decide +kernel) ⟨Nat.le_of_ble_eq_true rfl, Nat.le_of_ble_eq_true rfl⟩) ⟨KW.blind, hP.recv hK rfl ((mu_n ne1_4).trans ((mu_n ne1_3).trans (hs2))), fun U9 hU9 hW9 => ⟨rfl, KW.pre hBs hKK hS hP U9 hU9 hW9⟩⟩ rfl rfl hl.1 rfl (lv_room (Nat.le_of_ble_eq_true rfl)) dX3_countFrom_132 ⟨(Nat.le_of_ble_eq_true rfl), (Nat.le_of_ble_eq_true rfl)⟩) hS (fun r132 m132 H locs hq9 hP hz9 hS => ?_)
        obtain ⟨g132, rfl, ho132, hv132⟩ := hq9
        have hP : mw G.1 vwCl B (mu (mu μ l2 (.inl (G.2 0, 158 * k + 158, .inr (.inl g132)))) aO (.inl (G.2 0, 6, .inr (.inl fo)))) _ := mw_eq ((mu_c _ _ ((Ne.symm hne))).trans (congrArg (fun z => mu z aO (.inl (G.2 0, 6, .inr (.inl fo)))) (mu_u _ _ _ _))) hP
        refine lv_lsub hx hb dX3_countFrom_135 ?_
        refine va_mmax_long hx hb (hml.trans hl.1.symm) hown (hts (.methodLink RX3 220 Lib.MathLoose.max_long.x) (by decide +kernel)) (hts (.static Lib.MathLoose.max_long.x) (by decide +kernel)) (hts (.initialized "java/lang/Math") (by decide +kernel)) (hts (.code Lib.MathLoose.max_long.x Lib.MathLoose.max_long.code 4 (some .long)) (by decide +kernel)) (Nat.le_of_ble_eq_true rfl) (Nat.le_of_ble_eq_true rfl) (Nat.zero_le _) (Nat.zero_le _) dX3_countFrom_136 ?_
        refine lv_topl (fun v139 ev139 => ?_)
        refine lv_lstore (lv' := [(4, .long v139), (6, .long v92), (9, .long v46), (0, .ref d), (1, .int (nI v9)), (2, .int (nI (2 * v9))), (3, .int (nI (2 * v9 + 1))), (8, .int (nI i1))]) hx hb dX3_countFrom_139 hl (by decide) rfl (fun ls hl => ?_)
        refine lv_iinc (v := nI (i1 + 1)) (lv' := [(8, .int (nI (i1 + 1))), (4, .long v139), (6, .long v92), (9, .long v46), (0, .ref d), (1, .int (nI v9)), (2, .int (nI (2 * v9))), (3, .int (nI (2 * v9 + 1)))]) hx hb dX3_countFrom_141 hl (k := 7) rfl (nI_add _ _) (by decide) rfl (fun ls hl => ?_)
        refine lv_goto (tgt := 33) hx hb dX3_countFrom_144 (by decide) ?_
        exact ih33 (i1 + 1) v139 v92 g132 (by omega) (by omega) (cf_min ev92 (cf_min ev68 hh)) ((((hO.tr ho59).tr ho83).tr ho107).tr ho132) _ _ hP hS ls (lv_sub hl [4, 5, 6, 7, 1, 2, 0] rfl)
  have hl := lv_entry ([.ref d, .int (nI v9)]) (n := 11) (Nat.le_of_ble_eq_true rfl)
  have he9 : entryFrame m args 11 = entryFrame m ([.ref d, .int (nI v9)] : List Value).toArray 11 := by rw [hargs]
  rw [he9, lg_entry_eq]
  generalize (lg_sl ([.ref d, .int (nI v9)]) ++ List.replicate (11 - (lg_sl ([.ref d, .int (nI v9)])).length) Slot.unset).toArray = ls at hl ⊢
  have hl : lv_has ls 11 [(0, .ref d), (1, .int (nI v9))] := hl
  refine lv_iload_n hx hb dX3_countFrom_0 rfl (lv_at hl 1 rfl) ?_
  refine lv_bipush (v := nI 6) hx hb dX3_countFrom_1 (by decide) ?_
  refine nv_icmp_lt (tgt := 8) hx hb (by omega) (by omega) dX3_countFrom_3 (by decide) (fun hc3 => ?_) (fun hc3 => ?_)
  · refine lv_iconst (v := nI 2) hx hb dX3_countFrom_8 (by decide) ?_
    refine lv_iload_n hx hb dX3_countFrom_9 rfl (lv_at hl 1 rfl) ?_
    refine nv_imul hx hb dX3_countFrom_10 ?_
    refine lv_istore_n (lv' := [(2, .int (nI (2 * v9))), (0, .ref d), (1, .int (nI v9))]) hx hb dX3_countFrom_11 rfl hl (by decide) rfl (fun ls hl => ?_)
    refine lv_iload_n hx hb dX3_countFrom_12 rfl (lv_at hl 0 rfl) ?_
    refine lv_iconst (v := nI 1) hx hb dX3_countFrom_13 (by decide) ?_
    refine nv_iadd hx hb dX3_countFrom_14 ?_
    refine lv_istore_n (lv' := [(3, .int (nI ((2 * v9) + 1))), (2, .int (nI (2 * v9))), (0, .ref d), (1, .int (nI v9))]) hx hb dX3_countFrom_15 rfl hl (by decide) rfl (fun ls hl => ?_)
    refine lv_lconst (v := 0) hx hb dX3_countFrom_16 (by decide) ?_
    refine lv_lstore (lv' := [(4, .long 0), (3, .int (nI ((2 * v9) + 1))), (2, .int (nI (2 * v9))), (0, .ref d), (1, .int (nI v9))]) hx hb dX3_countFrom_17 hl (by decide) rfl (fun ls hl => ?_)
    refine lv_aload_n hx hb dX3_countFrom_19 rfl (lv_at hl 3 rfl) ?_
    refine mw_get (C := RX3) (T := TX3) (N := 7) hx hb hts in_X3_countFrom_X3 hown hK hP ((mu_n ne0_4).trans ((mu_n ne0_3).trans (hd))) rfl 1 (by decide) (hts (.fieldLink RX3 29 "OctagonDesk" "made" "LOctagonDesk$Shape;") (by decide +kernel)) (fun _ h9 => h9) rfl dX3_countFrom_20 ?_
    refine lv_iload_n hx hb dX3_countFrom_23 rfl (lv_at hl 2 rfl) ?_
    refine lv_iload_n hx hb dX3_countFrom_24 rfl (lv_at hl 2 rfl) ?_
    refine kc_l (va_runV (As := [.int (nI (2 * v9)), .int (nI (2 * v9))]) (rest := []) ⟨hx, hb, hml, hown, hts⟩ (v_X1_mostOf l G B (mu (mu μ l2 (.inl (G.2 0, 158 * k + 158, .inr (.inl f)))) aO (.inl (G.2 0, 6, .inr (.inl fo)))) s2 n2 l2 k b f (2 * v9) (2 * v9) ((mu_n ne1_4).trans ((mu_n ne1_3).trans (hs2))) ((mu_n ne2_4).trans ((mu_n ne2_3).trans (hn2))) ((mu_n hne).trans (mu_s _ _ _)) (by omega) (by omega) (by omega)) (cwV 2 hts gX3_countFrom_X1_mostOf rfl rfl rfl (by decide +kernel) ⟨Nat.le_of_ble_eq_true rfl, Nat.le_of_ble_eq_true rfl⟩) ⟨KW.blind, hP.recv hK rfl ((mu_n ne1_4).trans ((mu_n ne1_3).trans (hs2))), fun U9 hU9 hW9 => ⟨rfl, KW.pre hBs hKK hS hP U9 hU9 hW9⟩⟩ rfl rfl hl.1 rfl (lv_room (Nat.le_of_ble_eq_true rfl)) dX3_countFrom_25 ⟨(Nat.le_of_ble_eq_true rfl), (Nat.le_of_ble_eq_true rfl)⟩) hS (fun r25 m25 H locs hq9 hP hz9 hS => ?_)
    obtain ⟨g25, rfl, ho25, hv25⟩ := hq9
    have hP : mw G.1 vwCl B (mu (mu μ l2 (.inl (G.2 0, 158 * k + 158, .inr (.inl g25)))) aO (.inl (G.2 0, 6, .inr (.inl fo)))) _ := mw_eq ((mu_c _ _ ((Ne.symm hne))).trans (congrArg (fun z => mu z aO (.inl (G.2 0, 6, .inr (.inl fo)))) (mu_u _ _ _ _))) hP
    refine lv_lstore (lv' := [(6, .long r25), (4, .long 0), (3, .int (nI ((2 * v9) + 1))), (2, .int (nI (2 * v9))), (0, .ref d), (1, .int (nI v9))]) hx hb dX3_countFrom_28 hl (by decide) rfl (fun ls hl => ?_)
    refine lv_iconst (v := nI 0) hx hb dX3_countFrom_30 (by decide) ?_
    refine lv_istore (lv' := [(8, .int (nI 0)), (6, .long r25), (4, .long 0), (3, .int (nI ((2 * v9) + 1))), (2, .int (nI (2 * v9))), (0, .ref d), (1, .int (nI v9))]) hx hb dX3_countFrom_31 hl (by decide) rfl (fun ls hl => ?_)
    exact L33 _ 0 0 r25 g25 (Nat.lt_succ_self _) (by omega) (by rw [hv25]; exact hMV v9 (by omega)) (ho25) _ _ hP hS ls (lv_sub hl [5, 6, 4, 3, 2, 1, 0] rfl)
  · exfalso; omega

abbrev rv_X3_countFrom_6 : Room := { frames := 8, cells := 0, slots := 0, locals := 221 }
set_option maxHeartbeats 4000000 in
set_option maxRecDepth 100000 in
theorem v_X3_countFrom_6 (l : Launch) (G : GG) (B : Nat) (μ : mp) (d aS s2 aT aO aL aR n2 l2 k sc b : Nat) (f : Nat → Int64) (fo : Nat → Int64) (v9 : Nat) (hd : μ d = some (.inr (3, [.ref aS, .ref s2, .ref aT, .ref aO, .int (nI sc), .ref aL, .ref aR]))) (hs2 : μ s2 = some (.inr (1, [.ref n2, .int (nI b)]))) (hn2 : μ n2 = some (.inr (0, [.int (nI 158), .int (nI 157), .ref l2, .int (nI (158 * k))]))) (hl2 : μ l2 = some (.inl (G.2 0, 158 * k + 158, .inr (.inl f)))) (hao : μ aO = some (.inl (G.2 0, 6, .inr (.inl fo)))) (hk : k ≤ 1022) (hv9 : v9 + 6 = 6) (hMV : ∀ i, i < 6 → MV k f (2 * i) (2 * i) < 4096) (hne : l2 ≠ aO) : Met l yX3_countFrom wsX3_countFrom rv_X3_countFrom_6 (va_Pc [.ref d, .int (nI v9)] (KW G B μ)) (va_Qi (fun r μ2 => ∃ g9 fo9 : Nat → Int64, μ2 = mu (mu μ l2 (.inl (G.2 0, 158 * k + 158, .inr (.inl g9)))) aO (.inl (G.2 0, 6, .inr (.inl fo9))) ∧ Off 156 f g9) (BB G B) (fun q => B ≤ q)) 0 0 (fun q => B ≤ q) := by
  refine Met.ofW (cc := cX3_countFrom) (maxL := 11) (ret := (some .int)) (by decide) rfl ?_
  intro p e s m args below meth c s₁ B9 hml hv
  obtain ⟨hargs, hBs, hP, hKK⟩ := hv
  have hx := B9.exec
  have hb := B9.bytes
  have hr := B9.returns
  have hts := atoms_spec (ws := wsX3_countFrom) B9.pre
  have hown : s.vm.findClass RX3 = some m.cls := findClass_of_methodNamed B9.named
  have hlocks := B9.notSynchronized
  have hK := hKK.k
  have hS : va_S (fun q => B ≤ q) s.heap s.heap [] := va_S.rf
  obtain ⟨Q, hQ⟩ : ∃ Q, Q = MQ below (va_Qi (fun r μ2 => ∃ g9 fo9 : Nat → Int64, μ2 = mu (mu μ l2 (.inl (G.2 0, 158 * k + 158, .inr (.inl g9)))) aO (.inl (G.2 0, 6, .inr (.inl fo9))) ∧ Off 156 f g9) (BB G B) (fun q => B ≤ q)) args s 0 0 (fun q => B ≤ q) := ⟨_, rfl⟩
  rw [← hQ]
  have ne0_1 : d ≠ s2 := mp_ne hd hs2 (by simp)
  have ne0_2 : d ≠ n2 := mp_ne hd hn2 (by simp)
  have ne0_3 : d ≠ l2 := mp_ne hd hl2 (by simp)
  have ne0_4 : d ≠ aO := mp_ne hd hao (by simp)
  have ne1_2 : s2 ≠ n2 := mp_ne hs2 hn2 (by simp)
  have ne1_3 : s2 ≠ l2 := mp_ne hs2 hl2 (by simp)
  have ne1_4 : s2 ≠ aO := mp_ne hs2 hao (by simp)
  have ne2_3 : n2 ≠ l2 := mp_ne hn2 hl2 (by simp)
  have ne2_4 : n2 ≠ aO := mp_ne hn2 hao (by simp)
  have in_X3_countFrom_X3 : ∀ w ∈ wsX30, w ∈ wsX3_countFrom := by decide +kernel
  have hP : mw G.1 vwCl B (mu (mu μ l2 (.inl (G.2 0, 158 * k + 158, .inr (.inl f)))) aO (.inl (G.2 0, 6, .inr (.inl fo)))) s.heap := mw_eq ((congrArg (fun z => mu z aO (.inl (G.2 0, 6, .inr (.inl fo)))) (mu_i hl2)).trans (mu_i hao)).symm hP
  have L154 : ∀ (N154 : Nat) (x : Int64) (ct : Int32) (lo : Int64) (hi : Int64) (g2 : Nat → Int64) (fo2 : Nat → Int64) (hN154 : (hi.toInt - x.toInt + 1).toNat < N154) (hh : hi < 4096) (hO2 : Off 156 f g2), ∀ (H : Heap) (locs : List Loc), mw G.1 vwCl B (mu (mu μ l2 (.inl (G.2 0, 158 * k + 158, .inr (.inl g2)))) aO (.inl (G.2 0, 6, .inr (.inl fo2)))) H → va_S (fun q => B ≤ q) s.heap H locs → ∀ ls : Array Slot, lv_has ls 11 [(0, .ref d), (1, .int (nI v9)), (2, .int (nI (2 * v9))), (3, .int (nI (2 * v9 + 1))), (4, .long lo), (6, .long hi), (8, .int ct), (9, .long x)] → W p l e rv_X3_countFrom_6 s m args below meth c H locs 0 0 Q (F0 m 154 ls []) := by
    intro N154
    induction N154 with
    | zero => intro x ct lo hi g2 fo2 hN154; exact absurd hN154 (Nat.not_lt_zero _)
    | succ N154 ih154 =>
      intro x ct lo hi g2 fo2 hN154 hh hO2 H locs hP hS ls hl
      refine lv_lload hx hb dX3_countFrom_154 (lv_at hl 7 rfl) ?_
      refine lv_lload hx hb dX3_countFrom_156 (lv_at hl 5 rfl) ?_
      refine nl_if_gt (tgt := 191) hx hb dX3_countFrom_158 dX3_countFrom_159 (by decide) (fun hc158 => ?_) (fun hc158 => ?_)
      · refine lv_iload hx hb dX3_countFrom_191 (lv_at hl 6 rfl) ?_
        rw [hQ]
        exact W.iret (v := ct) hx hb hr (fun t99 ht99 hW99 => ⟨⟨ct, mu (mu μ l2 (.inl (G.2 0, 158 * k + 158, .inr (.inl g2)))) aO (.inl (G.2 0, 6, .inr (.inl fo2))), rfl, (⟨_, _, rfl, hO2⟩), by show mw _ _ _ _ t99.heap; rw [ht99]; exact hP⟩, hS.F ht99⟩) hS.2.2 dX3_countFrom_193
      · refine lv_aload_n hx hb dX3_countFrom_162 rfl (lv_at hl 0 rfl) ?_
        refine mw_get (C := RX3) (T := TX3) (N := 7) hx hb hts in_X3_countFrom_X3 hown hK hP ((mu_n ne0_4).trans ((mu_n ne0_3).trans (hd))) rfl 3 (by decide) (hts (.fieldLink RX3 33 "OctagonDesk" "offsets" "[J") (by decide +kernel)) (fun _ h9 => h9) rfl dX3_countFrom_163 ?_
        refine lv_iload_n hx hb dX3_countFrom_166 rfl (lv_at hl 1 rfl) ?_
        refine lv_lload hx hb dX3_countFrom_167 (lv_at hl 7 rfl) ?_
        refine mw_last hx hb hK hP hS 0 (mu_s _ _ _) rfl (by omega) (by omega) dX3_countFrom_169 (fun H locs hP hS => ?_)
        have hP : mw G.1 vwCl B (mu (mu μ l2 (.inl (G.2 0, 158 * k + 158, .inr (.inl g2)))) aO (.inl (G.2 0, 6, .inr (.inl (vp_updL fo2 v9 x))))) _ := mw_eq (mu_u _ _ _ _) hP
        refine lv_iload hx hb dX3_countFrom_170 (lv_at hl 6 rfl) ?_
        refine lv_aload_n hx hb dX3_countFrom_172 rfl (lv_at hl 0 rfl) ?_
        refine lv_iload_n hx hb dX3_countFrom_173 rfl (lv_at hl 1 rfl) ?_
        refine lv_iconst (v := nI 1) hx hb dX3_countFrom_174 (by decide) ?_
        refine nv_iadd hx hb dX3_countFrom_175 ?_
        refine kc_i (va_runV (As := [.int (nI (v9 + 1))]) (rest := [.int ct]) ⟨hx, hb, hml, hown, hts⟩ (v_X3_countFrom_5 l G B (mu (mu μ l2 (.inl (G.2 0, 158 * k + 158, .inr (.inl g2)))) aO (.inl (G.2 0, 6, .inr (.inl (vp_updL fo2 v9 x))))) d aS s2 aT aO aL aR n2 l2 k sc b g2 (vp_updL fo2 v9 x) (v9 + 1) ((mu_n ne0_4).trans ((mu_n ne0_3).trans (hd))) ((mu_n ne1_4).trans ((mu_n ne1_3).trans (hs2))) ((mu_n ne2_4).trans ((mu_n ne2_3).trans (hn2))) ((mu_n hne).trans (mu_s _ _ _)) (mu_s _ _ _) (by omega) (by omega) (fun i h9 => by rw [MV_cong (by omega) (by omega) hO2]; exact hMV i h9) hne) (cwV 1 hts gX3_countFrom_X3_countFrom rfl rfl rfl (by decide +kernel) ⟨Nat.le_of_ble_eq_true rfl, Nat.le_of_ble_eq_true rfl⟩) ⟨KW.blind, hP.recv hK rfl ((mu_n ne0_4).trans ((mu_n ne0_3).trans (hd))), fun U9 hU9 hW9 => ⟨rfl, KW.pre hBs hKK hS hP U9 hU9 hW9⟩⟩ rfl rfl hl.1 rfl (lv_room (Nat.le_of_ble_eq_true rfl)) dX3_countFrom_176 ⟨(Nat.le_of_ble_eq_true rfl), (Nat.le_of_ble_eq_true rfl)⟩) hS (fun r176 m176 H locs hq9 hP hz9 hS => ?_)
        obtain ⟨g176, fo176, he176, ho176⟩ := hq9
        rw [he176] at hP
        have hP : mw G.1 vwCl B (mu (mu μ l2 (.inl (G.2 0, 158 * k + 158, .inr (.inl g176)))) aO (.inl (G.2 0, 6, .inr (.inl fo176)))) _ := mw_eq ((congrArg (fun z => mu z aO (.inl (G.2 0, 6, .inr (.inl fo176)))) ((mu_c _ _ ((Ne.symm hne))).trans (congrArg (fun z => mu z aO (.inl (G.2 0, 6, .inr (.inl (vp_updL fo2 v9 x))))) (mu_u _ _ _ _)))).trans (mu_u _ _ _ _)) hP
        refine lv_iadd hx hb dX3_countFrom_179 ?_
        refine lv_topi (fun v180 ev180 => ?_)
        refine lv_istore (lv' := [(8, .int v180), (0, .ref d), (1, .int (nI v9)), (2, .int (nI (2 * v9))), (3, .int (nI (2 * v9 + 1))), (4, .long lo), (6, .long hi), (9, .long x)]) hx hb dX3_countFrom_180 hl (by decide) rfl (fun ls hl => ?_)
        refine lv_lload hx hb dX3_countFrom_182 (lv_at hl 7 rfl) ?_
        refine lv_lconst (v := 1) hx hb dX3_countFrom_184 (by decide) ?_
        refine lv_ladd hx hb dX3_countFrom_185 ?_
        refine lv_topl (fun v186 ev186 => ?_)
        refine lv_lstore (lv' := [(9, .long v186), (8, .int v180), (0, .ref d), (1, .int (nI v9)), (2, .int (nI (2 * v9))), (3, .int (nI (2 * v9 + 1))), (4, .long lo), (6, .long hi)]) hx hb dX3_countFrom_186 hl (by decide) rfl (fun ls hl => ?_)
        refine lv_goto (tgt := 154) hx hb dX3_countFrom_188 (by decide) ?_
        exact ih154 v186 v180 lo hi g176 fo176 (Nat.lt_of_lt_of_le (cf_m hc158 hh ev186) (Nat.le_of_lt_succ hN154)) (hh) (hO2.tr ho176) _ _ hP hS ls (lv_sub hl [2, 3, 4, 5, 6, 7, 1, 0] rfl)
  have L33 : ∀ (N33 : Nat) (i1 : Nat) (lo : Int64) (hi : Int64) (g1 : Nat → Int64) (hN33 : v9 - i1 < N33) (hi1 : i1 ≤ v9) (hh : hi < 4096) (hO : Off 156 f g1), ∀ (H : Heap) (locs : List Loc), mw G.1 vwCl B (mu (mu μ l2 (.inl (G.2 0, 158 * k + 158, .inr (.inl g1)))) aO (.inl (G.2 0, 6, .inr (.inl fo)))) H → va_S (fun q => B ≤ q) s.heap H locs → ∀ ls : Array Slot, lv_has ls 11 [(0, .ref d), (1, .int (nI v9)), (2, .int (nI (2 * v9))), (3, .int (nI (2 * v9 + 1))), (4, .long lo), (6, .long hi), (8, .int (nI i1))] → W p l e rv_X3_countFrom_6 s m args below meth c H locs 0 0 Q (F0 m 33 ls []) := by
    intro N33
    induction N33 with
    | zero => intro i1 lo hi g1 hN33; exact absurd hN33 (Nat.not_lt_zero _)
    | succ N33 ih33 =>
      intro i1 lo hi g1 hN33 hi1 hh hO H locs hP hS ls hl
      refine lv_iload hx hb dX3_countFrom_33 (lv_at hl 6 rfl) ?_
      refine lv_iload_n hx hb dX3_countFrom_35 rfl (lv_at hl 1 rfl) ?_
      refine nv_icmp_ge (tgt := 147) hx hb (by omega) (by omega) dX3_countFrom_36 (by decide) (fun hc36 => ?_) (fun hc36 => ?_)
      · refine lv_iconst (v := nI 0) hx hb dX3_countFrom_147 (by decide) ?_
        refine lv_istore (lv' := [(8, .int (nI 0)), (0, .ref d), (1, .int (nI v9)), (2, .int (nI (2 * v9))), (3, .int (nI (2 * v9 + 1))), (4, .long lo), (6, .long hi)]) hx hb dX3_countFrom_148 hl (by decide) rfl (fun ls hl => ?_)
        refine lv_lload hx hb dX3_countFrom_150 (lv_at hl 5 rfl) ?_
        refine lv_lstore (lv' := [(9, .long lo), (8, .int (nI 0)), (0, .ref d), (1, .int (nI v9)), (2, .int (nI (2 * v9))), (3, .int (nI (2 * v9 + 1))), (4, .long lo), (6, .long hi)]) hx hb dX3_countFrom_152 hl (by decide) rfl (fun ls hl => ?_)
        exact L154 _ lo (nI 0) lo hi g1 fo (Nat.lt_succ_self _) (hh) (hO) _ _ hP hS ls (lv_sub hl [2, 3, 4, 5, 6, 7, 1, 0] rfl)
      · refine lv_aload_n hx hb dX3_countFrom_39 rfl (lv_at hl 0 rfl) ?_
        refine mw_get (C := RX3) (T := TX3) (N := 7) hx hb hts in_X3_countFrom_X3 hown hK hP ((mu_n ne0_4).trans ((mu_n ne0_3).trans (hd))) rfl 3 (by decide) (hts (.fieldLink RX3 33 "OctagonDesk" "offsets" "[J") (by decide +kernel)) (fun _ h9 => h9) rfl dX3_countFrom_40 ?_
        refine lv_iload hx hb dX3_countFrom_43 (lv_at hl 6 rfl) ?_
        refine mw_lald hx hb hK hP 0 (mu_s _ _ _) rfl (by omega) (by omega) dX3_countFrom_45 ?_
        refine lv_topl (fun v46 ev46 => ?_)
        refine lv_lstore (lv' := [(9, .long v46), (0, .ref d), (1, .int (nI v9)), (2, .int (nI (2 * v9))), (3, .int (nI (2 * v9 + 1))), (4, .long lo), (6, .long hi), (8, .int (nI i1))]) hx hb dX3_countFrom_46 hl (by decide) rfl (fun ls hl => ?_)
        refine lv_lload hx hb dX3_countFrom_48 (lv_at hl 6 rfl) ?_
        refine lv_aload_n hx hb dX3_countFrom_50 rfl (lv_at hl 1 rfl) ?_
        refine mw_get (C := RX3) (T := TX3) (N := 7) hx hb hts in_X3_countFrom_X3 hown hK hP ((mu_n ne0_4).trans ((mu_n ne0_3).trans (hd))) rfl 1 (by decide) (hts (.fieldLink RX3 29 "OctagonDesk" "made" "LOctagonDesk$Shape;") (by decide +kernel)) (fun _ h9 => h9) rfl dX3_countFrom_51 ?_
        refine lv_iload_n hx hb dX3_countFrom_54 rfl (lv_at hl 3 rfl) ?_
        refine lv_iconst (v := nI 2) hx hb dX3_countFrom_55 (by decide) ?_
        refine lv_iload hx hb dX3_countFrom_56 (lv_at hl 7 rfl) ?_
        refine nv_imul hx hb dX3_countFrom_58 ?_
        refine kc_l (va_runV (As := [.int (nI (2 * v9)), .int (nI (2 * i1))]) (rest := [.long hi]) ⟨hx, hb, hml, hown, hts⟩ (v_X1_mostOf l G B (mu (mu μ l2 (.inl (G.2 0, 158 * k + 158, .inr (.inl g1)))) aO (.inl (G.2 0, 6, .inr (.inl fo)))) s2 n2 l2 k b g1 (2 * v9) (2 * i1) ((mu_n ne1_4).trans ((mu_n ne1_3).trans (hs2))) ((mu_n ne2_4).trans ((mu_n ne2_3).trans (hn2))) ((mu_n hne).trans (mu_s _ _ _)) (by omega) (by omega) (by omega)) (cwV 2 hts gX3_countFrom_X1_mostOf rfl rfl rfl (by decide +kernel) ⟨Nat.le_of_ble_eq_true rfl, Nat.le_of_ble_eq_true rfl⟩) ⟨KW.blind, hP.recv hK rfl ((mu_n ne1_4).trans ((mu_n ne1_3).trans (hs2))), fun U9 hU9 hW9 => ⟨rfl, KW.pre hBs hKK hS hP U9 hU9 hW9⟩⟩ rfl rfl hl.1 rfl (lv_room (Nat.le_of_ble_eq_true rfl)) dX3_countFrom_59 ⟨(Nat.le_of_ble_eq_true rfl), (Nat.le_of_ble_eq_true rfl)⟩) hS (fun r59 m59 H locs hq9 hP hz9 hS => ?_)
        obtain ⟨g59, rfl, ho59, hv59⟩ := hq9
        have hP : mw G.1 vwCl B (mu (mu μ l2 (.inl (G.2 0, 158 * k + 158, .inr (.inl g59)))) aO (.inl (G.2 0, 6, .inr (.inl fo)))) _ := mw_eq ((mu_c _ _ ((Ne.symm hne))).trans (congrArg (fun z => mu z aO (.inl (G.2 0, 6, .inr (.inl fo)))) (mu_u _ _ _ _))) hP
        refine lv_lload hx hb dX3_countFrom_62 (lv_at hl 0 rfl) ?_
        refine lv_lsub hx hb dX3_countFrom_64 ?_
        refine va_mmin_long hx hb (hml.trans hl.1.symm) hown (hts (.methodLink RX3 214 Lib.MathLoose.min_long.x) (by decide +kernel)) (hts (.static Lib.MathLoose.min_long.x) (by decide +kernel)) (hts (.initialized "java/lang/Math") (by decide +kernel)) (hts (.code Lib.MathLoose.min_long.x Lib.MathLoose.min_long.code 4 (some .long)) (by decide +kernel)) (Nat.le_of_ble_eq_true rfl) (Nat.le_of_ble_eq_true rfl) (Nat.zero_le _) (Nat.zero_le _) dX3_countFrom_65 ?_
        refine lv_topl (fun v68 ev68 => ?_)
        refine lv_lstore (lv' := [(6, .long v68), (9, .long v46), (0, .ref d), (1, .int (nI v9)), (2, .int (nI (2 * v9))), (3, .int (nI (2 * v9 + 1))), (4, .long lo), (8, .int (nI i1))]) hx hb dX3_countFrom_68 hl (by decide) rfl (fun ls hl => ?_)
        refine lv_lload hx hb dX3_countFrom_70 (lv_at hl 0 rfl) ?_
        refine lv_aload_n hx hb dX3_countFrom_72 rfl (lv_at hl 2 rfl) ?_
        refine mw_get (C := RX3) (T := TX3) (N := 7) hx hb hts in_X3_countFrom_X3 hown hK hP ((mu_n ne0_4).trans ((mu_n ne0_3).trans (hd))) rfl 1 (by decide) (hts (.fieldLink RX3 29 "OctagonDesk" "made" "LOctagonDesk$Shape;") (by decide +kernel)) (fun _ h9 => h9) rfl dX3_countFrom_73 ?_
        refine lv_iload_n hx hb dX3_countFrom_76 rfl (lv_at hl 4 rfl) ?_
        refine lv_iconst (v := nI 2) hx hb dX3_countFrom_77 (by decide) ?_
        refine lv_iload hx hb dX3_countFrom_78 (lv_at hl 7 rfl) ?_
        refine nv_imul hx hb dX3_countFrom_80 ?_
        refine lv_iconst (v := nI 1) hx hb dX3_countFrom_81 (by decide) ?_
        refine nv_iadd hx hb dX3_countFrom_82 ?_
        refine kc_l (va_runV (As := [.int (nI (2 * v9)), .int (nI ((2 * i1) + 1))]) (rest := [.long v68]) ⟨hx, hb, hml, hown, hts⟩ (v_X1_mostOf l G B (mu (mu μ l2 (.inl (G.2 0, 158 * k + 158, .inr (.inl g59)))) aO (.inl (G.2 0, 6, .inr (.inl fo)))) s2 n2 l2 k b g59 (2 * v9) ((2 * i1) + 1) ((mu_n ne1_4).trans ((mu_n ne1_3).trans (hs2))) ((mu_n ne2_4).trans ((mu_n ne2_3).trans (hn2))) ((mu_n hne).trans (mu_s _ _ _)) (by omega) (by omega) (by omega)) (cwV 2 hts gX3_countFrom_X1_mostOf rfl rfl rfl (by decide +kernel) ⟨Nat.le_of_ble_eq_true rfl, Nat.le_of_ble_eq_true rfl⟩) ⟨KW.blind, hP.recv hK rfl ((mu_n ne1_4).trans ((mu_n ne1_3).trans (hs2))), fun U9 hU9 hW9 => ⟨rfl, KW.pre hBs hKK hS hP U9 hU9 hW9⟩⟩ rfl rfl hl.1 rfl (lv_room (Nat.le_of_ble_eq_true rfl)) dX3_countFrom_83 ⟨(Nat.le_of_ble_eq_true rfl), (Nat.le_of_ble_eq_true rfl)⟩) hS (fun r83 m83 H locs hq9 hP hz9 hS => ?_)
        obtain ⟨g83, rfl, ho83, hv83⟩ := hq9
        have hP : mw G.1 vwCl B (mu (mu μ l2 (.inl (G.2 0, 158 * k + 158, .inr (.inl g83)))) aO (.inl (G.2 0, 6, .inr (.inl fo)))) _ := mw_eq ((mu_c _ _ ((Ne.symm hne))).trans (congrArg (fun z => mu z aO (.inl (G.2 0, 6, .inr (.inl fo)))) (mu_u _ _ _ _))) hP
        refine lv_lload hx hb dX3_countFrom_86 (lv_at hl 1 rfl) ?_
        refine lv_ladd hx hb dX3_countFrom_88 ?_
        refine va_mmin_long hx hb (hml.trans hl.1.symm) hown (hts (.methodLink RX3 214 Lib.MathLoose.min_long.x) (by decide +kernel)) (hts (.static Lib.MathLoose.min_long.x) (by decide +kernel)) (hts (.initialized "java/lang/Math") (by decide +kernel)) (hts (.code Lib.MathLoose.min_long.x Lib.MathLoose.min_long.code 4 (some .long)) (by decide +kernel)) (Nat.le_of_ble_eq_true rfl) (Nat.le_of_ble_eq_true rfl) (Nat.zero_le _) (Nat.zero_le _) dX3_countFrom_89 ?_
        refine lv_topl (fun v92 ev92 => ?_)
        refine lv_lstore (lv' := [(6, .long v92), (9, .long v46), (0, .ref d), (1, .int (nI v9)), (2, .int (nI (2 * v9))), (3, .int (nI (2 * v9 + 1))), (4, .long lo), (8, .int (nI i1))]) hx hb dX3_countFrom_92 hl (by decide) rfl (fun ls hl => ?_)
        refine lv_lload hx hb dX3_countFrom_94 (lv_at hl 6 rfl) ?_
        refine lv_lload hx hb dX3_countFrom_96 (lv_at hl 1 rfl) ?_
        refine lv_aload_n hx hb dX3_countFrom_98 rfl (lv_at hl 2 rfl) ?_
        refine mw_get (C := RX3) (T := TX3) (N := 7) hx hb hts in_X3_countFrom_X3 hown hK hP ((mu_n ne0_4).trans ((mu_n ne0_3).trans (hd))) rfl 1 (by decide) (hts (.fieldLink RX3 29 "OctagonDesk" "made" "LOctagonDesk$Shape;") (by decide +kernel)) (fun _ h9 => h9) rfl dX3_countFrom_99 ?_
        refine lv_iload_n hx hb dX3_countFrom_102 rfl (lv_at hl 5 rfl) ?_
        refine lv_iconst (v := nI 2) hx hb dX3_countFrom_103 (by decide) ?_
        refine lv_iload hx hb dX3_countFrom_104 (lv_at hl 7 rfl) ?_
        refine nv_imul hx hb dX3_countFrom_106 ?_
        refine kc_l (va_runV (As := [.int (nI (2 * v9 + 1)), .int (nI (2 * i1))]) (rest := [.long v46, .long lo]) ⟨hx, hb, hml, hown, hts⟩ (v_X1_mostOf l G B (mu (mu μ l2 (.inl (G.2 0, 158 * k + 158, .inr (.inl g83)))) aO (.inl (G.2 0, 6, .inr (.inl fo)))) s2 n2 l2 k b g83 (2 * v9 + 1) (2 * i1) ((mu_n ne1_4).trans ((mu_n ne1_3).trans (hs2))) ((mu_n ne2_4).trans ((mu_n ne2_3).trans (hn2))) ((mu_n hne).trans (mu_s _ _ _)) (by omega) (by omega) (by omega)) (cwV 2 hts gX3_countFrom_X1_mostOf rfl rfl rfl (by decide +kernel) ⟨Nat.le_of_ble_eq_true rfl, Nat.le_of_ble_eq_true rfl⟩) ⟨KW.blind, hP.recv hK rfl ((mu_n ne1_4).trans ((mu_n ne1_3).trans (hs2))), fun U9 hU9 hW9 => ⟨rfl, KW.pre hBs hKK hS hP U9 hU9 hW9⟩⟩ rfl rfl hl.1 rfl (lv_room (Nat.le_of_ble_eq_true rfl)) dX3_countFrom_107 ⟨(Nat.le_of_ble_eq_true rfl), (Nat.le_of_ble_eq_true rfl)⟩) hS (fun r107 m107 H locs hq9 hP hz9 hS => ?_)
        obtain ⟨g107, rfl, ho107, hv107⟩ := hq9
        have hP : mw G.1 vwCl B (mu (mu μ l2 (.inl (G.2 0, 158 * k + 158, .inr (.inl g107)))) aO (.inl (G.2 0, 6, .inr (.inl fo)))) _ := mw_eq ((mu_c _ _ ((Ne.symm hne))).trans (congrArg (fun z => mu z aO (.inl (G.2 0, 6, .inr (.inl fo)))) (mu_u _ _ _ _))) hP
        refine lv_lsub hx hb dX3_countFrom_110 ?_
        refine va_mmax_long hx hb (hml.trans hl.1.symm) hown (hts (.methodLink RX3 220 Lib.MathLoose.max_long.x) (by decide +kernel)) (hts (.static Lib.MathLoose.max_long.x) (by decide +kernel)) (hts (.initialized "java/lang/Math") (by decide +kernel)) (hts (.code Lib.MathLoose.max_long.x Lib.MathLoose.max_long.code 4 (some .long)) (by decide +kernel)) (Nat.le_of_ble_eq_true rfl) (Nat.le_of_ble_eq_true rfl) (Nat.zero_le _) (Nat.zero_le _) dX3_countFrom_111 ?_
        refine lv_topl (fun v114 ev114 => ?_)
        refine lv_lstore (lv' := [(4, .long v114), (6, .long v92), (9, .long v46), (0, .ref d), (1, .int (nI v9)), (2, .int (nI (2 * v9))), (3, .int (nI (2 * v9 + 1))), (8, .int (nI i1))]) hx hb dX3_countFrom_114 hl (by decide) rfl (fun ls hl => ?_)
        refine lv_lload hx hb dX3_countFrom_116 (lv_at hl 0 rfl) ?_
        refine lv_lload hx hb dX3_countFrom_118 (lv_at hl 2 rfl) ?_
        refine lv_lneg hx hb dX3_countFrom_120 ?_
        refine lv_aload_n hx hb dX3_countFrom_121 rfl (lv_at hl 3 rfl) ?_
        refine mw_get (C := RX3) (T := TX3) (N := 7) hx hb hts in_X3_countFrom_X3 hown hK hP ((mu_n ne0_4).trans ((mu_n ne0_3).trans (hd))) rfl 1 (by decide) (hts (.fieldLink RX3 29 "OctagonDesk" "made" "LOctagonDesk$Shape;") (by decide +kernel)) (fun _ h9 => h9) rfl dX3_countFrom_122 ?_
        refine lv_iload_n hx hb dX3_countFrom_125 rfl (lv_at hl 6 rfl) ?_
        refine lv_iconst (v := nI 2) hx hb dX3_countFrom_126 (by decide) ?_
        refine lv_iload hx hb dX3_countFrom_127 (lv_at hl 7 rfl) ?_
        refine nv_imul hx hb dX3_countFrom_129 ?_
        refine lv_iconst (v := nI 1) hx hb dX3_countFrom_130 (by decide) ?_
        refine nv_iadd hx hb dX3_countFrom_131 ?_
        refine kc_l (va_runV (As := [.int (nI (2 * v9 + 1)), .int (nI ((2 * i1) + 1))]) (rest := [.long (-v46), .long v114]) ⟨hx, hb, hml, hown, hts⟩ (v_X1_mostOf l G B (mu (mu μ l2 (.inl (G.2 0, 158 * k + 158, .inr (.inl g107)))) aO (.inl (G.2 0, 6, .inr (.inl fo)))) s2 n2 l2 k b g107 (2 * v9 + 1) ((2 * i1) + 1) ((mu_n ne1_4).trans ((mu_n ne1_3).trans (hs2))) ((mu_n ne2_4).trans ((mu_n ne2_3).trans (hn2))) ((mu_n hne).trans (mu_s _ _ _)) (by omega) (by omega) (by omega)) (cwV 2 hts gX3_countFrom_X1_mostOf rfl rfl rfl (by decide +kernel) ⟨Nat.le_of_ble_eq_true rfl, Nat.le_of_ble_eq_true rfl⟩) ⟨KW.blind, hP.recv hK rfl ((mu_n ne1_4).trans ((mu_n ne1_3).trans (hs2))), fun U9 hU9 hW9 => ⟨rfl, KW.pre hBs hKK hS hP U9 hU9 hW9⟩⟩ rfl rfl hl.1 rfl (lv_room (Nat.le_of_ble_eq_true rfl)) dX3_countFrom_132 ⟨(Nat.le_of_ble_eq_true rfl), (Nat.le_of_ble_eq_true rfl)⟩) hS (fun r132 m132 H locs hq9 hP hz9 hS => ?_)
        obtain ⟨g132, rfl, ho132, hv132⟩ := hq9
        have hP : mw G.1 vwCl B (mu (mu μ l2 (.inl (G.2 0, 158 * k + 158, .inr (.inl g132)))) aO (.inl (G.2 0, 6, .inr (.inl fo)))) _ := mw_eq ((mu_c _ _ ((Ne.symm hne))).trans (congrArg (fun z => mu z aO (.inl (G.2 0, 6, .inr (.inl fo)))) (mu_u _ _ _ _))) hP
        refine lv_lsub hx hb dX3_countFrom_135 ?_
        refine va_mmax_long hx hb (hml.trans hl.1.symm) hown (hts (.methodLink RX3 220 Lib.MathLoose.max_long.x) (by decide +kernel)) (hts (.static Lib.MathLoose.max_long.x) (by decide +kernel)) (hts (.initialized "java/lang/Math") (by decide +kernel)) (hts (.code Lib.MathLoose.max_long.x Lib.MathLoose.max_long.code 4 (some .long)) (by decide +kernel)) (Nat.le_of_ble_eq_true rfl) (Nat.le_of_ble_eq_true rfl) (Nat.zero_le _) (Nat.zero_le _) dX3_countFrom_136 ?_
        refine lv_topl (fun v139 ev139 => ?_)
        refine lv_lstore (lv' := [(4, .long v139), (6, .long v92), (9, .long v46), (0, .ref d), (1, .int (nI v9)), (2, .int (nI (2 * v9))), (3, .int (nI (2 * v9 + 1))), (8, .int (nI i1))]) hx hb dX3_countFrom_139 hl (by decide) rfl (fun ls hl => ?_)
        refine lv_iinc (v := nI (i1 + 1)) (lv' := [(8, .int (nI (i1 + 1))), (4, .long v139), (6, .long v92), (9, .long v46), (0, .ref d), (1, .int (nI v9)), (2, .int (nI (2 * v9))), (3, .int (nI (2 * v9 + 1)))]) hx hb dX3_countFrom_141 hl (k := 7) rfl (nI_add _ _) (by decide) rfl (fun ls hl => ?_)
        refine lv_goto (tgt := 33) hx hb dX3_countFrom_144 (by decide) ?_
        exact ih33 (i1 + 1) v139 v92 g132 (by omega) (by omega) (cf_min ev92 (cf_min ev68 hh)) ((((hO.tr ho59).tr ho83).tr ho107).tr ho132) _ _ hP hS ls (lv_sub hl [4, 5, 6, 7, 1, 2, 0] rfl)
  have hl := lv_entry ([.ref d, .int (nI v9)]) (n := 11) (Nat.le_of_ble_eq_true rfl)
  have he9 : entryFrame m args 11 = entryFrame m ([.ref d, .int (nI v9)] : List Value).toArray 11 := by rw [hargs]
  rw [he9, lg_entry_eq]
  generalize (lg_sl ([.ref d, .int (nI v9)]) ++ List.replicate (11 - (lg_sl ([.ref d, .int (nI v9)])).length) Slot.unset).toArray = ls at hl ⊢
  have hl : lv_has ls 11 [(0, .ref d), (1, .int (nI v9))] := hl
  refine lv_iload_n hx hb dX3_countFrom_0 rfl (lv_at hl 1 rfl) ?_
  refine lv_bipush (v := nI 6) hx hb dX3_countFrom_1 (by decide) ?_
  refine nv_icmp_lt (tgt := 8) hx hb (by omega) (by omega) dX3_countFrom_3 (by decide) (fun hc3 => ?_) (fun hc3 => ?_)
  · refine lv_iconst (v := nI 2) hx hb dX3_countFrom_8 (by decide) ?_
    refine lv_iload_n hx hb dX3_countFrom_9 rfl (lv_at hl 1 rfl) ?_
    refine nv_imul hx hb dX3_countFrom_10 ?_
    refine lv_istore_n (lv' := [(2, .int (nI (2 * v9))), (0, .ref d), (1, .int (nI v9))]) hx hb dX3_countFrom_11 rfl hl (by decide) rfl (fun ls hl => ?_)
    refine lv_iload_n hx hb dX3_countFrom_12 rfl (lv_at hl 0 rfl) ?_
    refine lv_iconst (v := nI 1) hx hb dX3_countFrom_13 (by decide) ?_
    refine nv_iadd hx hb dX3_countFrom_14 ?_
    refine lv_istore_n (lv' := [(3, .int (nI ((2 * v9) + 1))), (2, .int (nI (2 * v9))), (0, .ref d), (1, .int (nI v9))]) hx hb dX3_countFrom_15 rfl hl (by decide) rfl (fun ls hl => ?_)
    refine lv_lconst (v := 0) hx hb dX3_countFrom_16 (by decide) ?_
    refine lv_lstore (lv' := [(4, .long 0), (3, .int (nI ((2 * v9) + 1))), (2, .int (nI (2 * v9))), (0, .ref d), (1, .int (nI v9))]) hx hb dX3_countFrom_17 hl (by decide) rfl (fun ls hl => ?_)
    refine lv_aload_n hx hb dX3_countFrom_19 rfl (lv_at hl 3 rfl) ?_
    refine mw_get (C := RX3) (T := TX3) (N := 7) hx hb hts in_X3_countFrom_X3 hown hK hP ((mu_n ne0_4).trans ((mu_n ne0_3).trans (hd))) rfl 1 (by decide) (hts (.fieldLink RX3 29 "OctagonDesk" "made" "LOctagonDesk$Shape;") (by decide +kernel)) (fun _ h9 => h9) rfl dX3_countFrom_20 ?_
    refine lv_iload_n hx hb dX3_countFrom_23 rfl (lv_at hl 2 rfl) ?_
    refine lv_iload_n hx hb dX3_countFrom_24 rfl (lv_at hl 2 rfl) ?_
    refine kc_l (va_runV (As := [.int (nI (2 * v9)), .int (nI (2 * v9))]) (rest := []) ⟨hx, hb, hml, hown, hts⟩ (v_X1_mostOf l G B (mu (mu μ l2 (.inl (G.2 0, 158 * k + 158, .inr (.inl f)))) aO (.inl (G.2 0, 6, .inr (.inl fo)))) s2 n2 l2 k b f (2 * v9) (2 * v9) ((mu_n ne1_4).trans ((mu_n ne1_3).trans (hs2))) ((mu_n ne2_4).trans ((mu_n ne2_3).trans (hn2))) ((mu_n hne).trans (mu_s _ _ _)) (by omega) (by omega) (by omega)) (cwV 2 hts gX3_countFrom_X1_mostOf rfl rfl rfl (by decide +kernel) ⟨Nat.le_of_ble_eq_true rfl, Nat.le_of_ble_eq_true rfl⟩) ⟨KW.blind, hP.recv hK rfl ((mu_n ne1_4).trans ((mu_n ne1_3).trans (hs2))), fun U9 hU9 hW9 => ⟨rfl, KW.pre hBs hKK hS hP U9 hU9 hW9⟩⟩ rfl rfl hl.1 rfl (lv_room (Nat.le_of_ble_eq_true rfl)) dX3_countFrom_25 ⟨(Nat.le_of_ble_eq_true rfl), (Nat.le_of_ble_eq_true rfl)⟩) hS (fun r25 m25 H locs hq9 hP hz9 hS => ?_)
    obtain ⟨g25, rfl, ho25, hv25⟩ := hq9
    have hP : mw G.1 vwCl B (mu (mu μ l2 (.inl (G.2 0, 158 * k + 158, .inr (.inl g25)))) aO (.inl (G.2 0, 6, .inr (.inl fo)))) _ := mw_eq ((mu_c _ _ ((Ne.symm hne))).trans (congrArg (fun z => mu z aO (.inl (G.2 0, 6, .inr (.inl fo)))) (mu_u _ _ _ _))) hP
    refine lv_lstore (lv' := [(6, .long r25), (4, .long 0), (3, .int (nI ((2 * v9) + 1))), (2, .int (nI (2 * v9))), (0, .ref d), (1, .int (nI v9))]) hx hb dX3_countFrom_28 hl (by decide) rfl (fun ls hl => ?_)
    refine lv_iconst (v := nI 0) hx hb dX3_countFrom_30 (by decide) ?_
    refine lv_istore (lv' := [(8, .int (nI 0)), (6, .long r25), (4, .long 0), (3, .int (nI ((2 * v9) + 1))), (2, .int (nI (2 * v9))), (0, .ref d), (1, .int (nI v9))]) hx hb dX3_countFrom_31 hl (by decide) rfl (fun ls hl => ?_)
    exact L33 _ 0 0 r25 g25 (Nat.lt_succ_self _) (by omega) (by rw [hv25]; exact hMV v9 (by omega)) (ho25) _ _ hP hS ls (lv_sub hl [5, 6, 4, 3, 2, 1, 0] rfl)
  · exfalso; omega

abbrev rg_X3_places : Room := { frames := 9, cells := 1, slots := 6, locals := 251 }
set_option maxHeartbeats 4000000 in
set_option maxRecDepth 100000 in
theorem g_X3_places (l : Launch) (hlt : l.stackTraces = false) (G : GG) (B : Nat) (μ : mp) (d k sc : Nat) (D : Nat → Prop) (x9 : Int32) (hG : DG G μ d k sc D) : vx_Met l yX3_places wsX3_places rg_X3_places (va_Pc [.ref d, .int x9] (KX G B μ)) (va_Qi (fun r μ2 => (DG G μ2 d k sc (DN2 D μ) ∧ FD D μ μ2)) (BB G B) (fun q => B ≤ q)) (XX G B μ (fun E => E = exA)) 1 6 (fun q => B ≤ q) := by
  obtain ⟨aS, aL, aR, aT, aO, sa, na, la, bE, F, fS, fL, fR, fT, sp, fO, hD, hSV, hkw, hA⟩ := hG
  refine vx_ofW (cc := cX3_places) (maxL := 2) (ret := (some .int)) (by decide) rfl ?_
  intro p e s m args below meth c s₁ B9 hml hout hv
  obtain ⟨hargs, ⟨hBs, hP, hKK⟩, hDc⟩ := hv
  have hx := B9.exec
  have hb := B9.bytes
  have hr := B9.returns
  have hts := atoms_spec (ws := wsX3_places) B9.pre
  have hown : s.vm.findClass RX3 = some m.cls := findClass_of_methodNamed B9.named
  have hlocks := B9.notSynchronized
  have hK := hKK.k
  have hS : va_S (fun q => B ≤ q) s.heap s.heap [] := va_S.rf
  obtain ⟨Q, hQ⟩ : ∃ Q, Q = vx_MQ below (va_Qi (fun r μ2 => (DG G μ2 d k sc (DN2 D μ) ∧ FD D μ μ2)) (BB G B) (fun q => B ≤ q)) (XX G B μ (fun E => E = exA)) args s 1 6 (fun q => B ≤ q) := ⟨_, rfl⟩
  rw [← hQ]
  have in_X3_places_X1 : ∀ w ∈ wsX10, w ∈ wsX3_places := by decide +kernel
  have in_X3_places_X3 : ∀ w ∈ wsX30, w ∈ wsX3_places := by decide +kernel
  have hk5 := hkw.le
  have hl := lv_entry ([.ref d, .int x9]) (n := 2) (Nat.le_of_ble_eq_true rfl)
  have he9 : entryFrame m args 2 = entryFrame m ([.ref d, .int x9] : List Value).toArray 2 := by rw [hargs]
  rw [he9, lg_entry_eq]
  generalize (lg_sl ([.ref d, .int x9]) ++ List.replicate (2 - (lg_sl ([.ref d, .int x9])).length) Slot.unset).toArray = ls at hl ⊢
  have hl : lv_has ls 2 [(0, .ref d), (1, .int x9)] := hl
  refine lv_iload_n hx hb dX3_places_0 rfl (lv_at hl 1 rfl) ?_
  refine kx_v (vx_runS (As := [.int x9]) (rest := []) ⟨hx, hb, hml, hown, hts⟩ (c_X3_requireSlot l hlt G B (μ) x9) (va_cwS 1 hts gX3_places_X3_requireSlot rfl rfl rfl (by decide +kernel) ⟨Nat.le_of_ble_eq_true rfl, Nat.le_of_ble_eq_true rfl⟩) ⟨KX.blind, fun U9 hU9 hW9 => ⟨rfl, KW.pre hBs hKK hS hP U9 hU9 hW9, hDc.at hW9⟩⟩ rfl rfl hl.1 rfl (lv_room (Nat.le_of_ble_eq_true rfl)) dX3_places_1 ⟨(Nat.le_of_ble_eq_true rfl), (Nat.le_of_ble_eq_true rfl)⟩) hS (fun E ce q9 H locs hce hP hS h91 h92 h93 => ?_) (fun m1 H locs hq9 hP hz9 hS => ?_)
  · rw [hQ]
    exact kx_out hout hlocks h91 h92 h93 (hce.1) hP hS (Nat.le_of_ble_eq_true rfl) (Nat.le_of_ble_eq_true rfl)
  obtain ⟨he9, hk1⟩ := hq9
  rw [he9] at hP
  have hx1 := hk1
  obtain ⟨j1, hj1, ej1⟩ := ok_nat (by decide) hk1
  subst ej1
  have hbj1_4 := hD.b j1 (by omega)
  have hb22_4 := hD.b 22 (by omega)
  refine lv_aload_n hx hb dX3_places_4 rfl (lv_at hl 0 rfl) ?_
  refine mw_get (C := RX3) (T := TX3) (N := 7) hx hb hts in_X3_places_X3 hown hK hP (hD.1) rfl 0 (by decide) (hts (.fieldLink RX3 13 "OctagonDesk" "slots" "[LOctagonDesk$Shape;") (by decide +kernel)) (fun _ h9 => h9) rfl dX3_places_5 ?_
  refine lv_iload_n hx hb dX3_places_8 rfl (lv_at hl 1 rfl) ?_
  refine mw_aldq hx hb hK hP 3 (hD.2.1.1) rfl (by omega) (by omega) (hD.2.1.2.2.2.2.1 j1 (by omega)) dX3_places_9 ?_
  refine mw_get (C := RX1) (T := TX1) (N := 2) hx hb hts in_X3_places_X1 hown hK hP ((hD.2.2.2.2.1.1 j1 (by omega)).1.1) rfl 1 (by decide) (hts (.fieldLink RX3 63 "OctagonDesk$Shape" "empty" "Z") (by decide +kernel)) (fun _ h9 => h9) rfl dX3_places_10 ?_
  refine lv_if_eq (tgt := 18) hx hb dX3_places_13 (by decide) (fun hc13 => ?_) (fun hc13 => ?_)
  · refine lv_aload_n hx hb dX3_places_18 rfl (lv_at hl 0 rfl) ?_
    refine mw_get (C := RX3) (T := TX3) (N := 7) hx hb hts in_X3_places_X3 hown hK hP (hD.1) rfl 1 (by decide) (hts (.fieldLink RX3 29 "OctagonDesk" "made" "LOctagonDesk$Shape;") (by decide +kernel)) (fun _ h9 => h9) rfl dX3_places_19 ?_
    refine lv_aload_n hx hb dX3_places_22 rfl (lv_at hl 0 rfl) ?_
    refine mw_get (C := RX3) (T := TX3) (N := 7) hx hb hts in_X3_places_X3 hown hK hP (hD.1) rfl 0 (by decide) (hts (.fieldLink RX3 13 "OctagonDesk" "slots" "[LOctagonDesk$Shape;") (by decide +kernel)) (fun _ h9 => h9) rfl dX3_places_23 ?_
    refine lv_iload_n hx hb dX3_places_26 rfl (lv_at hl 1 rfl) ?_
    refine mw_aldq hx hb hK hP 3 (hD.2.1.1) rfl (by omega) (by omega) (hD.2.1.2.2.2.2.1 j1 (by omega)) dX3_places_27 ?_
    refine kc_v (va_runV (As := [.ref (sa j1)]) (rest := []) ⟨hx, hb, hml, hown, hts⟩ (c_X1_takeOver l G B (μ) (sa 22) (na 22) (la 22) k (bE 22) (F 22) (sa j1) (na j1) (la j1) (bE j1) (F j1)  ((hD.2.2.2.2.1.1 22 (by omega)).1.1) ((hD.2.2.2.2.1.1 22 (by omega)).1.2.1) ((hD.2.2.2.2.1.1 22 (by omega)).1.2.2) ((hD.2.2.2.2.1.1 j1 (by omega)).1.1) ((hD.2.2.2.2.1.1 j1 (by omega)).1.2.1) ((hD.2.2.2.2.1.1 j1 (by omega)).1.2.2) (by omega) (by omega)) (cwV 1 hts gX3_places_X1_takeOver rfl rfl rfl (by decide +kernel) ⟨Nat.le_of_ble_eq_true rfl, Nat.le_of_ble_eq_true rfl⟩) ⟨KW.blind, hP.recv hK rfl ((hD.2.2.2.2.1.1 22 (by omega)).1.1), fun U9 hU9 hW9 => ⟨rfl, KW.pre hBs hKK hS hP U9 hU9 hW9⟩⟩ rfl rfl hl.1 rfl (lv_room (Nat.le_of_ble_eq_true rfl)) dX3_places_28 ⟨(Nat.le_of_ble_eq_true rfl), (Nat.le_of_ble_eq_true rfl)⟩) hS (fun m28 H locs hq9 hP hz9 hS => ?_)
    obtain ⟨g28, rfl, hg28⟩ := hq9
    have hP : mw G.1 vwCl B (mu (mu μ (la 22) (.inl (G.2 0, 158 * k + 158, .inr (.inl g28)))) (sa 22) (.inr (1, [.ref (na 22), .int (nI (bE j1))]))) _ := mw_eq (congrArg (fun z => mu z (sa 22) (.inr (1, [.ref (na 22), .int (nI (bE j1))]))) (rfl)) hP
    refine lv_aload_n hx hb dX3_places_31 rfl (lv_at hl 0 rfl) ?_
    refine mw_get (C := RX3) (T := TX3) (N := 7) hx hb hts in_X3_places_X3 hown hK hP ((mu_n ((mp_ne hD.1 ((hD.2.2.2.2.1.1 22 (by omega)).1.1) (by simp)))).trans ((mu_n ((mp_ne hD.1 ((hD.2.2.2.2.1.1 22 (by omega)).1.2.2) (by simp)))).trans (hD.1))) rfl 1 (by decide) (hts (.fieldLink RX3 29 "OctagonDesk" "made" "LOctagonDesk$Shape;") (by decide +kernel)) (fun _ h9 => h9) rfl dX3_places_32 ?_
    refine kc_i (va_runV (As := []) (rest := []) ⟨hx, hb, hml, hown, hts⟩ (c_X1_shiftToLeast l G B (mu (mu μ (la 22) (.inl (G.2 0, 158 * k + 158, .inr (.inl g28)))) (sa 22) (.inr (1, [.ref (na 22), .int (nI (bE j1))]))) (sa 22) (na 22) (la 22) k (bE j1) g28  (mu_s _ _ _) ((mu_n ((mp_ne ((hD.2.2.2.2.1.1 22 (by omega)).1.2.1) ((hD.2.2.2.2.1.1 22 (by omega)).1.1) (by simp)))).trans ((mu_n ((mp_ne ((hD.2.2.2.2.1.1 22 (by omega)).1.2.1) ((hD.2.2.2.2.1.1 22 (by omega)).1.2.2) (by simp)))).trans ((hD.2.2.2.2.1.1 22 (by omega)).1.2.1))) ((mu_n ((mp_ne ((hD.2.2.2.2.1.1 22 (by omega)).1.2.2) ((hD.2.2.2.2.1.1 22 (by omega)).1.1) (by simp)))).trans (mu_s _ _ _)) (by omega)) (cwV 0 hts gX3_places_X1_shiftToLeast rfl rfl rfl (by decide +kernel) ⟨Nat.le_of_ble_eq_true rfl, Nat.le_of_ble_eq_true rfl⟩) ⟨KW.blind, hP.recv hK rfl (mu_s _ _ _), fun U9 hU9 hW9 => ⟨rfl, KW.pre hBs hKK hS hP U9 hU9 hW9⟩⟩ rfl rfl hl.1 rfl (lv_room (Nat.le_of_ble_eq_true rfl)) dX3_places_35 ⟨(Nat.le_of_ble_eq_true rfl), (Nat.le_of_ble_eq_true rfl)⟩) hS (fun r35 m35 H locs hq9 hP hz9 hS => ?_)
    obtain ⟨hbr35, g35, rfl, hg35⟩ := hq9
    have hP : mw G.1 vwCl B (mu (mu μ (la 22) (.inl (G.2 0, 158 * k + 158, .inr (.inl g35)))) (sa 22) (.inr (1, [.ref (na 22), .int (nI (bE j1))]))) _ := mw_eq ((mu_c _ _ ((mp_ne ((hD.2.2.2.2.1.1 22 (by omega)).1.1) ((hD.2.2.2.2.1.1 22 (by omega)).1.2.2) (by simp)))).trans (congrArg (fun z => mu z (sa 22) (.inr (1, [.ref (na 22), .int (nI (bE j1))]))) (mu_u _ _ _ _))) hP
    refine lv_if_eq (tgt := 48) hx hb dX3_places_38 (by decide) (fun hc38 => ?_) (fun hc38 => ?_)
    · refine lv_iconst (v := (-1)) hx hb dX3_places_48 (by decide) ?_
      rw [hQ]
      refine vx_ret ?_
      refine W.widen (k := 1) (n := 6) (by omega) (by omega) ?_
      have hDx49 : DK G (mu (mu μ (la 22) (.inl (G.2 0, 158 * k + 158, .inr (.inl g35)))) (sa 22) (.inr (1, [.ref (na 22), .int (nI (bE j1))]))) d aS aL aR aT aO k sc sa na la (va_up bE 22 (bE j1)) (va_up F 22 g35) fS fL fR fT sp fO := hD.sh2 (by omega) (by omega)
      have hRx49 : DQ μ (mu (mu μ (la 22) (.inl (G.2 0, 158 * k + 158, .inr (.inl g35)))) (sa 22) (.inr (1, [.ref (na 22), .int (nI (bE j1))]))) d aO sa na la la := DQ.sh2 (by omega)
      obtain ⟨μ49, em49⟩ : ∃ x9 : mp, x9 = mu (mu μ (la 22) (.inl (G.2 0, 158 * k + 158, .inr (.inl g35)))) (sa 22) (.inr (1, [.ref (na 22), .int (nI (bE j1))])) := ⟨_, rfl⟩
      rw [← em49] at hP hDx49 hRx49
      exact W.iret (v := (-1)) hx hb hr (fun t99 ht99 hW99 => ⟨⟨(-1), μ49, rfl, (DG.fin hA hSV hD hDx49 hRx49 hkw), by show mw _ _ _ _ t99.heap; rw [ht99]; exact hP⟩, hS.F ht99⟩) hS.2.2 dX3_places_49
    · have hb22_41 := hD.b 22 (by omega)
      refine lv_aload_n hx hb dX3_places_41 rfl (lv_at hl 0 rfl) ?_
      have hDx42 : DK G (mu (mu μ (la 22) (.inl (G.2 0, 158 * k + 158, .inr (.inl g35)))) (sa 22) (.inr (1, [.ref (na 22), .int (nI (bE j1))]))) d aS aL aR aT aO k sc sa na la (va_up bE 22 (bE j1)) (va_up F 22 g35) fS fL fR fT sp fO := hD.sh2 (by omega) (by omega)
      have hRx42 : DQ μ (mu (mu μ (la 22) (.inl (G.2 0, 158 * k + 158, .inr (.inl g35)))) (sa 22) (.inr (1, [.ref (na 22), .int (nI (bE j1))]))) d aO sa na la la := DQ.sh2 (by omega)
      obtain ⟨μ42, em42⟩ : ∃ x9 : mp, x9 = mu (mu μ (la 22) (.inl (G.2 0, 158 * k + 158, .inr (.inl g35)))) (sa 22) (.inr (1, [.ref (na 22), .int (nI (bE j1))])) := ⟨_, rfl⟩
      rw [← em42] at hP hDx42 hRx42
      refine kc_i (va_runV (As := []) (rest := []) ⟨hx, hb, hml, hown, hts⟩ (v_X3_madeFitsTheBox l G B μ42 d aS (sa 22) aT aO aL aR (na 22) (la 22) k sc ((va_up bE 22 (bE j1)) 22) ((va_up F 22 g35) 22) (hDx42.1) ((hDx42.2.2.2.2.1.1 22 (by omega)).1.1) ((hDx42.2.2.2.2.1.1 22 (by omega)).1.2.1) ((hDx42.2.2.2.2.1.1 22 (by omega)).1.2.2) (by omega)) (cwV 0 hts gX3_places_X3_madeFitsTheBox rfl rfl rfl (by decide +kernel) ⟨Nat.le_of_ble_eq_true rfl, Nat.le_of_ble_eq_true rfl⟩) ⟨KW.blind, hP.recv hK rfl (hDx42.1), fun U9 hU9 hW9 => ⟨rfl, KW.pre hBs hKK hS hP U9 hU9 hW9⟩⟩ rfl rfl hl.1 rfl (lv_room (Nat.le_of_ble_eq_true rfl)) dX3_places_42 ⟨(Nat.le_of_ble_eq_true rfl), (Nat.le_of_ble_eq_true rfl)⟩) hS (fun r42 m42 H locs hq9 hP hz9 hS => ?_)
      obtain ⟨hbr42, g42, he42, ho42, hM42⟩ := hq9
      rw [he42] at hP
      have hP : mw G.1 vwCl B (mu μ42 (la 22) (.inl (G.2 0, 158 * k + 158, .inr (.inl g42)))) _ := hP
      refine lv_if_ne (tgt := 50) hx hb dX3_places_45 (by decide) (fun hc45 => ?_) (fun hc45 => ?_)
      · refine lv_aload_n hx hb dX3_places_50 rfl (lv_at hl 0 rfl) ?_
        refine lv_iconst (v := nI 0) hx hb dX3_places_51 (by decide) ?_
        refine kc_i (va_runV (As := [.int (nI 0)]) (rest := []) ⟨hx, hb, hml, hown, hts⟩ (v_X3_countFrom_6 l G B (mu μ42 (la 22) (.inl (G.2 0, 158 * k + 158, .inr (.inl g42)))) d aS (sa 22) aT aO aL aR (na 22) (la 22) k sc ((va_up bE 22 (bE j1)) 22) g42 fO 0 ((mu_n ((mp_ne hDx42.1 ((hDx42.2.2.2.2.1.1 22 (by omega)).1.2.2) (by simp)))).trans (hDx42.1)) ((mu_n ((mp_ne ((hDx42.2.2.2.2.1.1 22 (by omega)).1.1) ((hDx42.2.2.2.2.1.1 22 (by omega)).1.2.2) (by simp)))).trans ((hDx42.2.2.2.2.1.1 22 (by omega)).1.1)) ((mu_n ((mp_ne ((hDx42.2.2.2.2.1.1 22 (by omega)).1.2.1) ((hDx42.2.2.2.2.1.1 22 (by omega)).1.2.2) (by simp)))).trans ((hDx42.2.2.2.2.1.1 22 (by omega)).1.2.1)) (mu_s _ _ _) ((mu_n ((Ne.symm (hDx42.lo (by omega))))).trans (hDx42.2.1.2.2.2.1)) (by omega) (by omega) (fun i h9 => by rw [MV_cong (by omega) (by omega) ho42]; exact hM42 (hbr42.resolve_left hc45) i h9) (hDx42.lo (by omega))) (cwV 1 hts gX3_places_X3_countFrom rfl rfl rfl (by decide +kernel) ⟨Nat.le_of_ble_eq_true rfl, Nat.le_of_ble_eq_true rfl⟩) ⟨KW.blind, hP.recv hK rfl ((mu_n ((mp_ne hDx42.1 ((hDx42.2.2.2.2.1.1 22 (by omega)).1.2.2) (by simp)))).trans (hDx42.1)), fun U9 hU9 hW9 => ⟨rfl, KW.pre hBs hKK hS hP U9 hU9 hW9⟩⟩ rfl rfl hl.1 rfl (lv_room (Nat.le_of_ble_eq_true rfl)) dX3_places_52 ⟨(Nat.le_of_ble_eq_true rfl), (Nat.le_of_ble_eq_true rfl)⟩) hS (fun r52 m52 H locs hq9 hP hz9 hS => ?_)
        obtain ⟨g52, fo52, he52, ho52⟩ := hq9
        rw [he52] at hP
        have hP : mw G.1 vwCl B (mu (mu μ42 (la 22) (.inl (G.2 0, 158 * k + 158, .inr (.inl g52)))) aO (.inl (G.2 0, 6, .inr (.inl fo52)))) _ := mw_eq (congrArg (fun z => mu z aO (.inl (G.2 0, 6, .inr (.inl fo52)))) (mu_u _ _ _ _)) hP
        rw [hQ]
        refine vx_ret ?_
        refine W.widen (k := 1) (n := 6) (by omega) (by omega) ?_
        exact W.iret (v := r52) hx hb hr (fun t99 ht99 hW99 => ⟨⟨r52, mu (mu μ42 (la 22) (.inl (G.2 0, 158 * k + 158, .inr (.inl g52)))) aO (.inl (G.2 0, 6, .inr (.inl fo52))), rfl, (DG.fin hA hSV hD (hDx42.la (by omega)).ao ((hRx42.tr (DQ.la (by omega))).tr DQ.ao) hkw), by show mw _ _ _ _ t99.heap; rw [ht99]; exact hP⟩, hS.F ht99⟩) hS.2.2 dX3_places_55
      · refine lv_iconst (v := (-1)) hx hb dX3_places_48 (by decide) ?_
        rw [hQ]
        refine vx_ret ?_
        refine W.widen (k := 1) (n := 6) (by omega) (by omega) ?_
        have hDx49 : DK G (mu μ42 (la 22) (.inl (G.2 0, 158 * k + 158, .inr (.inl g42)))) d aS aL aR aT aO k sc sa na la (va_up bE 22 (bE j1)) (va_up (va_up F 22 g35) 22 g42) fS fL fR fT sp fO := hDx42.la (by omega)
        have hRx49 : DQ μ (mu μ42 (la 22) (.inl (G.2 0, 158 * k + 158, .inr (.inl g42)))) d aO sa na la la := hRx42.tr (DQ.la (by omega))
        obtain ⟨μ49, em49⟩ : ∃ x9 : mp, x9 = mu μ42 (la 22) (.inl (G.2 0, 158 * k + 158, .inr (.inl g42))) := ⟨_, rfl⟩
        rw [← em49] at hP hDx49 hRx49
        exact W.iret (v := (-1)) hx hb hr (fun t99 ht99 hW99 => ⟨⟨(-1), μ49, rfl, (DG.fin hA hSV hD hDx49 hRx49 hkw), by show mw _ _ _ _ t99.heap; rw [ht99]; exact hP⟩, hS.F ht99⟩) hS.2.2 dX3_places_49
  · refine lv_iconst (v := nI 0) hx hb dX3_places_16 (by decide) ?_
    rw [hQ]
    refine vx_ret ?_
    refine W.widen (k := 1) (n := 6) (by omega) (by omega) ?_
    exact W.iret (v := nI 0) hx hb hr (fun t99 ht99 hW99 => ⟨⟨nI 0, μ, rfl, (DG.fin hA hSV hD hD (DQ.rf _ _ _ _ _ _) hkw), by show mw _ _ _ _ t99.heap; rw [ht99]; exact hP⟩, hS.F ht99⟩) hS.2.2 dX3_places_17
