abbrev rm_X4_cell : Room := { frames := 0, cells := 0, slots := 0, locals := 0 }
set_option maxHeartbeats 4000000 in
set_option maxRecDepth 100000 in
theorem c_X4_cell (l : Launch) (G : GG) (B : Nat) (μ : mp) (p9 q9 : Nat) (hp9 : p9 < 12) (hq9a : q9 < 12) : Met l yX4_cell wsX4_cell rm_X4_cell (va_Pc [.int (nI p9), .int (nI q9)] (KW G B μ)) (va_Qi (fun r μ2 => μ2 = μ ∧ r = nI (ix p9 q9)) (BB G B) (fun q => B ≤ q)) 0 0 (fun q => B ≤ q) := by
  refine Met.ofW (cc := cX4_cell) (maxL := 2) (ret := (some .int)) (by decide) rfl ?_
  intro p e s m args below meth c s₁ B9 hml hv
  obtain ⟨hargs, hBs, hP, hKK⟩ := hv
  have hx := B9.exec
  have hb := B9.bytes
  have hr := B9.returns
  have hts := atoms_spec (ws := wsX4_cell) B9.pre
  have hown : s.vm.findClass RX4 = some m.cls := findClass_of_methodNamed B9.named
  have hlocks := B9.notSynchronized
  have hK := hKK.k
  have hS : va_S (fun q => B ≤ q) s.heap s.heap [] := va_S.rf
  obtain ⟨Q, hQ⟩ : ∃ Q, Q = MQ below (va_Qi (fun r μ2 => μ2 = μ ∧ r = nI (ix p9 q9)) (BB G B) (fun q => B ≤ q)) args s 0 0 (fun q => B ≤ q) := ⟨_, rfl⟩
  rw [← hQ]
  have hl := lv_entry ([.int (nI p9), .int (nI q9)]) (n := 2) (Nat.le_of_ble_eq_true rfl)
  have he9 : entryFrame m args 2 = entryFrame m ([.int (nI p9), .int (nI q9)] : List Value).toArray 2 := by rw [hargs]
  rw [he9, lg_entry_eq]
  generalize (lg_sl ([.int (nI p9), .int (nI q9)]) ++ List.replicate (2 - (lg_sl ([.int (nI p9), .int (nI q9)])).length) Slot.unset).toArray = ls at hl ⊢
  have hl : lv_has ls 2 [(0, .int (nI p9)), (1, .int (nI q9))] := hl
  refine lv_iload_n hx hb dX4_cell_0 rfl (lv_at hl 0 rfl) ?_
  refine lv_iload_n hx hb dX4_cell_1 rfl (lv_at hl 1 rfl) ?_
  refine nv_icmp_ge (tgt := 17) hx hb (by omega) (by omega) dX4_cell_2 (by decide) (fun hc2 => ?_) (fun hc2 => ?_)
  · have hm9 : p9 * (p9 + 1) ≤ 132 := Nat.mul_le_mul (by omega : p9 ≤ 11) (by omega : p9 + 1 ≤ 12)
    refine lv_iload_n hx hb dX4_cell_17 rfl (lv_at hl 0 rfl) ?_
    refine lv_iload_n hx hb dX4_cell_18 rfl (lv_at hl 0 rfl) ?_
    refine lv_iconst (v := nI 1) hx hb dX4_cell_19 (by decide) ?_
    refine nv_iadd hx hb dX4_cell_20 ?_
    refine nv_imul hx hb dX4_cell_21 ?_
    refine lv_iconst (v := nI 2) hx hb dX4_cell_22 (by decide) ?_
    refine nv_idiv hx hb (by omega) (by decide) (by decide) dX4_cell_23 ?_
    refine lv_iload_n hx hb dX4_cell_24 rfl (lv_at hl 1 rfl) ?_
    refine nv_iadd hx hb dX4_cell_25 ?_
    rw [hQ]
    exact W.iret (v := nI (((p9 * (p9 + 1)) / 2) + q9)) hx hb hr (fun t99 ht99 hW99 => ⟨⟨nI (((p9 * (p9 + 1)) / 2) + q9), μ, rfl, (⟨rfl, by first | (unfold ix; rw [if_pos (by omega)]) | (unfold ix; rw [if_neg (by omega)])⟩), by show mw _ _ _ _ t99.heap; rw [ht99]; exact hP⟩, hS.F ht99⟩) hS.2.2 dX4_cell_26
  · have hm9 : q9 * (q9 + 1) ≤ 132 := Nat.mul_le_mul (by omega : q9 ≤ 11) (by omega : q9 + 1 ≤ 12)
    refine lv_iload_n hx hb dX4_cell_5 rfl (lv_at hl 1 rfl) ?_
    refine lv_iload_n hx hb dX4_cell_6 rfl (lv_at hl 1 rfl) ?_
    refine lv_iconst (v := nI 1) hx hb dX4_cell_7 (by decide) ?_
    refine nv_iadd hx hb dX4_cell_8 ?_
    refine nv_imul hx hb dX4_cell_9 ?_
    refine lv_iconst (v := nI 2) hx hb dX4_cell_10 (by decide) ?_
    refine nv_idiv hx hb (by omega) (by decide) (by decide) dX4_cell_11 ?_
    refine lv_iload_n hx hb dX4_cell_12 rfl (lv_at hl 0 rfl) ?_
    refine nv_iadd hx hb dX4_cell_13 ?_
    refine lv_goto (tgt := 26) hx hb dX4_cell_14 (by decide) ?_
    rw [hQ]
    exact W.iret (v := nI (((q9 * (q9 + 1)) / 2) + p9)) hx hb hr (fun t99 ht99 hW99 => ⟨⟨nI (((q9 * (q9 + 1)) / 2) + p9), μ, rfl, (⟨rfl, by first | (unfold ix; rw [if_pos (by omega)]) | (unfold ix; rw [if_neg (by omega)])⟩), by show mw _ _ _ _ t99.heap; rw [ht99]; exact hP⟩, hS.F ht99⟩) hS.2.2 dX4_cell_26

abbrev rm_X6_negation : Room := { frames := 0, cells := 0, slots := 0, locals := 0 }
set_option maxHeartbeats 4000000 in
set_option maxRecDepth 100000 in
theorem c_X6_negation (l : Launch) (G : GG) (B : Nat) (μ : mp) (p9 : Nat) (hp9 : p9 < 12) : Met l yX6_negation wsX6_negation rm_X6_negation (va_Pc [.int (nI p9)] (KW G B μ)) (va_Qi (fun r μ2 => μ2 = μ ∧ r = nI (ne p9)) (BB G B) (fun q => B ≤ q)) 0 0 (fun q => B ≤ q) := by
  refine Met.ofW (cc := cX6_negation) (maxL := 1) (ret := (some .int)) (by decide) rfl ?_
  intro p e s m args below meth c s₁ B9 hml hv
  obtain ⟨hargs, hBs, hP, hKK⟩ := hv
  have hx := B9.exec
  have hb := B9.bytes
  have hr := B9.returns
  have hts := atoms_spec (ws := wsX6_negation) B9.pre
  have hown : s.vm.findClass RX6 = some m.cls := findClass_of_methodNamed B9.named
  have hlocks := B9.notSynchronized
  have hK := hKK.k
  have hS : va_S (fun q => B ≤ q) s.heap s.heap [] := va_S.rf
  obtain ⟨Q, hQ⟩ : ∃ Q, Q = MQ below (va_Qi (fun r μ2 => μ2 = μ ∧ r = nI (ne p9)) (BB G B) (fun q => B ≤ q)) args s 0 0 (fun q => B ≤ q) := ⟨_, rfl⟩
  rw [← hQ]
  have hl := lv_entry ([.int (nI p9)]) (n := 1) (Nat.le_of_ble_eq_true rfl)
  have he9 : entryFrame m args 1 = entryFrame m ([.int (nI p9)] : List Value).toArray 1 := by rw [hargs]
  rw [he9, lg_entry_eq]
  generalize (lg_sl ([.int (nI p9)]) ++ List.replicate (1 - (lg_sl ([.int (nI p9)])).length) Slot.unset).toArray = ls at hl ⊢
  have hl : lv_has ls 1 [(0, .int (nI p9))] := hl
  refine lv_iload_n hx hb dX6_negation_0 rfl (lv_at hl 0 rfl) ?_
  refine lv_iconst (v := nI 1) hx hb dX6_negation_1 (by decide) ?_
  refine lv_ixor hx hb dX6_negation_2 ?_
  rw [hQ]
  exact W.iret (v := (nI p9) ^^^ (nI 1)) hx hb hr (fun t99 ht99 hW99 => ⟨⟨(nI p9) ^^^ (nI 1), μ, rfl, (⟨rfl, ne_x p9 hp9⟩), by show mw _ _ _ _ t99.heap; rw [ht99]; exact hP⟩, hS.F ht99⟩) hS.2.2 dX6_negation_3

abbrev rm_X4_put : Room := { frames := 2, cells := 0, slots := 0, locals := 46 }
set_option maxHeartbeats 4000000 in
set_option maxRecDepth 100000 in
theorem c_X4_put (l : Launch) (G : GG) (B : Nat) (μ : mp) (h bn nn la s9 lo eb : Nat) (nf : List Value) (f g : Nat → Int64) (w9 : Nat → Int32) (i9 : Nat) (v9 : Int64) (hh : μ h = some (.inr (4, [.ref bn, .ref nn, .ref la, .int (nI eb)]))) (hbn : μ bn = some (.inr (0, [.ref nn, .ref s9, .ref lo]))) (hnn : μ nn = some (.inr (3, nf))) (ha : μ la = some (.inl (G.2 0, 78, .inr (.inl f)))) (hs9 : μ s9 = some (.inl (G.2 0, 13, .inr (.inl g)))) (hlo : μ lo = some (.inl (G.2 2, 78, .inl w9))) (hi9 : i9 < 78) (hpa : NG (f i9)) (hpb : NG v9) : Met l yX4_put wsX4_put rm_X4_put (va_Pc [.ref h, .int (nI i9), .long v9] (KW G B μ)) (va_Qv (fun μ2 => μ2 = mu μ la (.inl (G.2 0, 78, .inr (.inl (vp_updL f i9 v9))))) (BB G B) (fun q => B ≤ q)) 0 0 (fun q => B ≤ q) := by
  refine Met.ofW (cc := cX4_put) (maxL := 4) (ret := none) (by decide) rfl ?_
  intro p e s m args below meth c s₁ B9 hml hv
  obtain ⟨hargs, hBs, hP, hKK⟩ := hv
  have hx := B9.exec
  have hb := B9.bytes
  have hr := B9.returns
  have hts := atoms_spec (ws := wsX4_put) B9.pre
  have hown : s.vm.findClass RX4 = some m.cls := findClass_of_methodNamed B9.named
  have hlocks := B9.notSynchronized
  have hK := hKK.k
  have hS : va_S (fun q => B ≤ q) s.heap s.heap [] := va_S.rf
  obtain ⟨Q, hQ⟩ : ∃ Q, Q = MQ below (va_Qv (fun μ2 => μ2 = mu μ la (.inl (G.2 0, 78, .inr (.inl (vp_updL f i9 v9))))) (BB G B) (fun q => B ≤ q)) args s 0 0 (fun q => B ≤ q) := ⟨_, rfl⟩
  rw [← hQ]
  have ne0_1 : h ≠ bn := mp_ne hh hbn (by simp)
  have ne0_2 : h ≠ nn := mp_ne hh hnn (by simp)
  have ne0_3 : h ≠ la := mp_ne hh ha (by simp)
  have ne0_4 : h ≠ s9 := mp_ne hh hs9 (by simp)
  have ne0_5 : h ≠ lo := mp_ne hh hlo (by simp)
  have ne1_2 : bn ≠ nn := mp_ne hbn hnn (by simp)
  have ne1_3 : bn ≠ la := mp_ne hbn ha (by simp)
  have ne1_4 : bn ≠ s9 := mp_ne hbn hs9 (by simp)
  have ne1_5 : bn ≠ lo := mp_ne hbn hlo (by simp)
  have ne2_3 : nn ≠ la := mp_ne hnn ha (by simp)
  have ne2_4 : nn ≠ s9 := mp_ne hnn hs9 (by simp)
  have ne2_5 : nn ≠ lo := mp_ne hnn hlo (by simp)
  have in_X4_put_X4 : ∀ w ∈ wsX40, w ∈ wsX4_put := by decide +kernel
  have hP : mw G.1 vwCl B (mu μ la (.inl (G.2 0, 78, .inr (.inl f)))) s.heap := mw_eq (mu_i ha).symm hP
  have hl := lv_entry ([.ref h, .int (nI i9), .long v9]) (n := 4) (Nat.le_of_ble_eq_true rfl)
  have he9 : entryFrame m args 4 = entryFrame m ([.ref h, .int (nI i9), .long v9] : List Value).toArray 4 := by rw [hargs]
  rw [he9, lg_entry_eq]
  generalize (lg_sl ([.ref h, .int (nI i9), .long v9]) ++ List.replicate (4 - (lg_sl ([.ref h, .int (nI i9), .long v9])).length) Slot.unset).toArray = ls at hl ⊢
  have hl : lv_has ls 4 [(0, .ref h), (1, .int (nI i9)), (2, .long v9)] := hl
  refine lv_aload_n hx hb dX4_put_0 rfl (lv_at hl 0 rfl) ?_
  refine mw_get (C := RX4) (T := TX4) (N := 4) hx hb hts in_X4_put_X4 hown hK hP ((mu_n ne0_3).trans (hh)) rfl 2 (by decide) (hts (.fieldLink RX4 22 "OctagonDesk$Shape" "cells" "[J") (by decide +kernel)) (fun _ h9 => h9) rfl dX4_put_1 ?_
  refine lv_iload_n hx hb dX4_put_4 rfl (lv_at hl 1 rfl) ?_
  refine lv_aload_n hx hb dX4_put_5 rfl (lv_at hl 0 rfl) ?_
  refine mw_get (C := RX4) (T := TX4) (N := 4) hx hb hts in_X4_put_X4 hown hK hP ((mu_n ne0_3).trans (hh)) rfl 1 (by decide) (hts (.fieldLink RX4 21 "OctagonDesk$Shape" "numbers" "LOctagonDesk$Numbers;") (by decide +kernel)) (fun _ h9 => h9) rfl dX4_put_6 ?_
  refine lv_aload_n hx hb dX4_put_9 rfl (lv_at hl 0 rfl) ?_
  refine mw_get (C := RX4) (T := TX4) (N := 4) hx hb hts in_X4_put_X4 hown hK hP ((mu_n ne0_3).trans (hh)) rfl 2 (by decide) (hts (.fieldLink RX4 22 "OctagonDesk$Shape" "cells" "[J") (by decide +kernel)) (fun _ h9 => h9) rfl dX4_put_10 ?_
  refine lv_iload_n hx hb dX4_put_13 rfl (lv_at hl 1 rfl) ?_
  refine mw_lald hx hb hK hP 0 (mu_s _ _ _) rfl (by omega) (by omega) dX4_put_14 ?_
  refine lv_lload_n hx hb dX4_put_15 rfl (lv_at hl 2 rfl) ?_
  refine kc_l (va_runV (As := [.long (f i9), .long v9]) (rest := [.int (nI i9), .ref la]) ⟨hx, hb, hml, hown, hts⟩ (c_X3_replace l G B (mu μ la (.inl (G.2 0, 78, .inr (.inl f)))) nn nf (f i9) v9 ((mu_n ne2_3).trans (hnn)) (hpa) (hpb)) (cwV 2 hts gX4_put_X3_replace rfl rfl rfl (by decide +kernel) ⟨Nat.le_of_ble_eq_true rfl, Nat.le_of_ble_eq_true rfl⟩) ⟨KW.blind, hP.recv hK rfl ((mu_n ne2_3).trans (hnn)), fun U9 hU9 hW9 => ⟨rfl, KW.pre hBs hKK hS hP U9 hU9 hW9⟩⟩ rfl rfl hl.1 rfl (lv_room (Nat.le_of_ble_eq_true rfl)) dX4_put_16 ⟨(Nat.le_of_ble_eq_true rfl), (Nat.le_of_ble_eq_true rfl)⟩) hS (fun r16 m16 H locs hq9 hP hz9 hS => ?_)
  obtain ⟨he8, hrr9⟩ := hq9
  rw [he8] at hP
  rw [hrr9]
  refine mw_last hx hb hK hP hS 0 (mu_s _ _ _) rfl (by omega) (by omega) dX4_put_19 (fun H locs hP hS => ?_)
  have hP : mw G.1 vwCl B (mu μ la (.inl (G.2 0, 78, .inr (.inl (vp_updL f i9 v9))))) _ := mw_eq (mu_u _ _ _ _) hP
  rw [hQ]
  exact W.vret hx hb hr (fun t99 ht99 hW99 => ⟨⟨mu μ la (.inl (G.2 0, 78, .inr (.inl (vp_updL f i9 v9)))), rfl, (rfl), by show mw _ _ _ _ t99.heap; rw [ht99]; exact hP⟩, hS.F ht99⟩) hS.2.2 dX4_put_20

abbrev rm_X4_allowNone : Room := { frames := 2, cells := 0, slots := 0, locals := 46 }
set_option maxHeartbeats 4000000 in
set_option maxRecDepth 100000 in
theorem c_X4_allowNone (l : Launch) (G : GG) (B : Nat) (μ : mp) (h bn nn la s9 lo eb : Nat) (nf : List Value) (f g : Nat → Int64) (w9 : Nat → Int32) (hh : μ h = some (.inr (4, [.ref bn, .ref nn, .ref la, .int (nI eb)]))) (hbn : μ bn = some (.inr (0, [.ref nn, .ref s9, .ref lo]))) (hnn : μ nn = some (.inr (3, nf))) (ha : μ la = some (.inl (G.2 0, 78, .inr (.inl f)))) (hs9 : μ s9 = some (.inl (G.2 0, 13, .inr (.inl g)))) (hlo : μ lo = some (.inl (G.2 2, 78, .inl w9))) (hPs : Ps f) : Met l yX4_allowNone wsX4_allowNone rm_X4_allowNone (va_Pc [.ref h] (KW G B μ)) (va_Qv (fun μ2 => ∃ f9 : Nat → Int64, μ2 = mu (mu μ h (.inr (4, [.ref bn, .ref nn, .ref la, .int (nI 1)]))) la (.inl (G.2 0, 78, .inr (.inl f9))) ∧ ∀ c, c < 78 → f9 c = 0) (BB G B) (fun q => B ≤ q)) 0 0 (fun q => B ≤ q) := by
  refine Met.ofW (cc := cX4_allowNone) (maxL := 2) (ret := none) (by decide) rfl ?_
  intro p e s m args below meth c s₁ B9 hml hv
  obtain ⟨hargs, hBs, hP, hKK⟩ := hv
  have hx := B9.exec
  have hb := B9.bytes
  have hr := B9.returns
  have hts := atoms_spec (ws := wsX4_allowNone) B9.pre
  have hown : s.vm.findClass RX4 = some m.cls := findClass_of_methodNamed B9.named
  have hlocks := B9.notSynchronized
  have hK := hKK.k
  have hS : va_S (fun q => B ≤ q) s.heap s.heap [] := va_S.rf
  obtain ⟨Q, hQ⟩ : ∃ Q, Q = MQ below (va_Qv (fun μ2 => ∃ f9 : Nat → Int64, μ2 = mu (mu μ h (.inr (4, [.ref bn, .ref nn, .ref la, .int (nI 1)]))) la (.inl (G.2 0, 78, .inr (.inl f9))) ∧ ∀ c, c < 78 → f9 c = 0) (BB G B) (fun q => B ≤ q)) args s 0 0 (fun q => B ≤ q) := ⟨_, rfl⟩
  rw [← hQ]
  have ne0_1 : h ≠ bn := mp_ne hh hbn (by simp)
  have ne0_2 : h ≠ nn := mp_ne hh hnn (by simp)
  have ne0_3 : h ≠ la := mp_ne hh ha (by simp)
  have ne0_4 : h ≠ s9 := mp_ne hh hs9 (by simp)
  have ne0_5 : h ≠ lo := mp_ne hh hlo (by simp)
  have ne1_2 : bn ≠ nn := mp_ne hbn hnn (by simp)
  have ne1_3 : bn ≠ la := mp_ne hbn ha (by simp)
  have ne1_4 : bn ≠ s9 := mp_ne hbn hs9 (by simp)
  have ne1_5 : bn ≠ lo := mp_ne hbn hlo (by simp)
  have ne2_3 : nn ≠ la := mp_ne hnn ha (by simp)
  have ne2_4 : nn ≠ s9 := mp_ne hnn hs9 (by simp)
  have ne2_5 : nn ≠ lo := mp_ne hnn hlo (by simp)
  have in_X4_allowNone_X4 : ∀ w ∈ wsX40, w ∈ wsX4_allowNone := by decide +kernel
  have hP : mw G.1 vwCl B (mu (mu μ h (.inr (4, [.ref bn, .ref nn, .ref la, .int (nI eb)]))) la (.inl (G.2 0, 78, .inr (.inl f)))) s.heap := mw_eq ((congrArg (fun z => mu z la (.inl (G.2 0, 78, .inr (.inl f)))) (mu_i hh)).trans (mu_i ha)).symm hP
  have L7 : ∀ (N7 : Nat) (i1 : Nat) (g1 : Nat → Int64) (hN7 : 78 - i1 < N7) (hi : i1 ≤ 78) (hp1 : Ps g1) (hz : ∀ c, c < i1 → g1 c = (fun _ : Nat => (0 : Int64)) c), ∀ (H : Heap) (locs : List Loc), mw G.1 vwCl B (mu (mu μ h (.inr (4, [.ref bn, .ref nn, .ref la, .int (nI 1)]))) la (.inl (G.2 0, 78, .inr (.inl g1)))) H → va_S (fun q => B ≤ q) s.heap H locs → ∀ ls : Array Slot, lv_has ls 2 [(0, .ref h), (1, .int (nI i1))] → W p l e rm_X4_allowNone s m args below meth c H locs 0 0 Q (F0 m 7 ls []) := by
    intro N7
    induction N7 with
    | zero => intro i1 g1 hN7; exact absurd hN7 (Nat.not_lt_zero _)
    | succ N7 ih7 =>
      intro i1 g1 hN7 hi hp1 hz H locs hP hS ls hl
      refine lv_iload_n hx hb dX4_allowNone_7 rfl (lv_at hl 1 rfl) ?_
      refine lv_bipush (v := nI 78) hx hb dX4_allowNone_8 (by decide) ?_
      refine nv_icmp_ge (tgt := 39) hx hb (by omega) (by omega) dX4_allowNone_10 (by decide) (fun hc10 => ?_) (fun hc10 => ?_)
      · rw [hQ]
        exact W.vret hx hb hr (fun t99 ht99 hW99 => ⟨⟨mu (mu μ h (.inr (4, [.ref bn, .ref nn, .ref la, .int (nI 1)]))) la (.inl (G.2 0, 78, .inr (.inl g1))), rfl, (⟨_, rfl, fun c hc => hz c (by omega)⟩), by show mw _ _ _ _ t99.heap; rw [ht99]; exact hP⟩, hS.F ht99⟩) hS.2.2 dX4_allowNone_39
      · refine lv_aload_n hx hb dX4_allowNone_13 rfl (lv_at hl 0 rfl) ?_
        refine mw_get (C := RX4) (T := TX4) (N := 4) hx hb hts in_X4_allowNone_X4 hown hK hP ((mu_n ne0_3).trans (mu_s _ _ _)) rfl 2 (by decide) (hts (.fieldLink RX4 22 "OctagonDesk$Shape" "cells" "[J") (by decide +kernel)) (fun _ h9 => h9) rfl dX4_allowNone_14 ?_
        refine lv_iload_n hx hb dX4_allowNone_17 rfl (lv_at hl 1 rfl) ?_
        refine lv_aload_n hx hb dX4_allowNone_18 rfl (lv_at hl 0 rfl) ?_
        refine mw_get (C := RX4) (T := TX4) (N := 4) hx hb hts in_X4_allowNone_X4 hown hK hP ((mu_n ne0_3).trans (mu_s _ _ _)) rfl 1 (by decide) (hts (.fieldLink RX4 21 "OctagonDesk$Shape" "numbers" "LOctagonDesk$Numbers;") (by decide +kernel)) (fun _ h9 => h9) rfl dX4_allowNone_19 ?_
        refine lv_aload_n hx hb dX4_allowNone_22 rfl (lv_at hl 0 rfl) ?_
        refine mw_get (C := RX4) (T := TX4) (N := 4) hx hb hts in_X4_allowNone_X4 hown hK hP ((mu_n ne0_3).trans (mu_s _ _ _)) rfl 2 (by decide) (hts (.fieldLink RX4 22 "OctagonDesk$Shape" "cells" "[J") (by decide +kernel)) (fun _ h9 => h9) rfl dX4_allowNone_23 ?_
        refine lv_iload_n hx hb dX4_allowNone_26 rfl (lv_at hl 1 rfl) ?_
        refine mw_lald hx hb hK hP 0 (mu_s _ _ _) rfl (by omega) (by omega) dX4_allowNone_27 ?_
        refine lv_lconst (v := 0) hx hb dX4_allowNone_28 (by decide) ?_
        refine kc_l (va_runV (As := [.long (g1 i1), .long 0]) (rest := [.int (nI i1), .ref la]) ⟨hx, hb, hml, hown, hts⟩ (c_X3_replace l G B (mu (mu μ h (.inr (4, [.ref bn, .ref nn, .ref la, .int (nI 1)]))) la (.inl (G.2 0, 78, .inr (.inl g1)))) nn nf (g1 i1) 0 ((mu_n ne2_3).trans ((mu_n ((Ne.symm ne0_2))).trans (hnn))) (hp1 _ (by omega)) (Pn.ng (Pn.z))) (cwV 2 hts gX4_allowNone_X3_replace rfl rfl rfl (by decide +kernel) ⟨Nat.le_of_ble_eq_true rfl, Nat.le_of_ble_eq_true rfl⟩) ⟨KW.blind, hP.recv hK rfl ((mu_n ne2_3).trans ((mu_n ((Ne.symm ne0_2))).trans (hnn))), fun U9 hU9 hW9 => ⟨rfl, KW.pre hBs hKK hS hP U9 hU9 hW9⟩⟩ rfl rfl hl.1 rfl (lv_room (Nat.le_of_ble_eq_true rfl)) dX4_allowNone_29 ⟨(Nat.le_of_ble_eq_true rfl), (Nat.le_of_ble_eq_true rfl)⟩) hS (fun r29 m29 H locs hq9 hP hz9 hS => ?_)
        obtain ⟨he8, hrr9⟩ := hq9
        rw [he8] at hP
        rw [hrr9]
        refine mw_last hx hb hK hP hS 0 (mu_s _ _ _) rfl (by omega) (by omega) dX4_allowNone_32 (fun H locs hP hS => ?_)
        have hP : mw G.1 vwCl B (mu (mu μ h (.inr (4, [.ref bn, .ref nn, .ref la, .int (nI 1)]))) la (.inl (G.2 0, 78, .inr (.inl (vp_updL g1 i1 0))))) _ := mw_eq (mu_u _ _ _ _) hP
        refine lv_iinc (v := nI (i1 + 1)) (lv' := [(1, .int (nI (i1 + 1))), (0, .ref h)]) hx hb dX4_allowNone_33 hl (k := 1) rfl (nI_add _ _) (by decide) rfl (fun ls hl => ?_)
        refine lv_goto (tgt := 7) hx hb dX4_allowNone_36 (by decide) ?_
        exact ih7 (i1 + 1) (vp_updL g1 i1 0) (by omega) (by omega) (hp1.upd Pn.z.ng) (up_nx hz rfl) _ _ hP hS ls (lv_sub hl [1, 0] rfl)
  have hl := lv_entry ([.ref h]) (n := 2) (Nat.le_of_ble_eq_true rfl)
  have he9 : entryFrame m args 2 = entryFrame m ([.ref h] : List Value).toArray 2 := by rw [hargs]
  rw [he9, lg_entry_eq]
  generalize (lg_sl ([.ref h]) ++ List.replicate (2 - (lg_sl ([.ref h])).length) Slot.unset).toArray = ls at hl ⊢
  have hl : lv_has ls 2 [(0, .ref h)] := hl
  refine lv_aload_n hx hb dX4_allowNone_0 rfl (lv_at hl 0 rfl) ?_
  refine lv_iconst (v := nI 1) hx hb dX4_allowNone_1 (by decide) ?_
  refine mw_put (ty := .boolean) (v := .int (nI 1)) (C := RX4) (T := TX4) (N := 4) hx hb hts in_X4_allowNone_X4 tyX4 tyX4_ok nmX4 hown hK hP hS ((mu_n ne0_3).trans (mu_s _ _ _)) rfl 3 (by decide) (hts (.fieldLink RX4 26 "OctagonDesk$Shape" "empty" "Z") (by decide +kernel)) (fun _ h9 => h9) rfl (by decide +kernel) (by first | rfl | decide) (by first | rfl | decide) (Nat.le_of_ble_eq_true rfl) dX4_allowNone_2 (fun H locs hP hS => ?_)
  have hP : mw G.1 vwCl B (mu (mu μ h (.inr (4, [.ref bn, .ref nn, .ref la, .int (nI 1)]))) la (.inl (G.2 0, 78, .inr (.inl f)))) _ := mw_eq ((mu_c _ _ ((Ne.symm ne0_3))).trans (congrArg (fun z => mu z la (.inl (G.2 0, 78, .inr (.inl f)))) (mu_u _ _ _ _))) hP
  refine lv_iconst (v := nI 0) hx hb dX4_allowNone_5 (by decide) ?_
  refine lv_istore_n (lv' := [(1, .int (nI 0)), (0, .ref h)]) hx hb dX4_allowNone_6 rfl hl (by decide) rfl (fun ls hl => ?_)
  exact L7 _ 0 f (Nat.lt_succ_self _) (by omega) (hPs) (fun c hc => absurd hc (by omega)) _ _ hP hS ls (lv_sub hl [1, 0] rfl)

abbrev rm_X4_release : Room := { frames := 3, cells := 0, slots := 0, locals := 69 }
set_option maxHeartbeats 4000000 in
set_option maxRecDepth 100000 in
theorem c_X4_release (l : Launch) (G : GG) (B : Nat) (μ : mp) (h bn nn la s9 lo : Nat) (nf : List Value) (f g : Nat → Int64) (w9 : Nat → Int32) (i : Nat) (hh : μ h = some (.inr (4, [.ref bn, .ref nn, .ref la, .int (nI 0)]))) (hbn : μ bn = some (.inr (0, [.ref nn, .ref s9, .ref lo]))) (hnn : μ nn = some (.inr (3, nf))) (ha : μ la = some (.inl (G.2 0, 78, .inr (.inl f)))) (hs9 : μ s9 = some (.inl (G.2 0, 13, .inr (.inl g)))) (hlo : μ lo = some (.inl (G.2 2, 78, .inl w9))) (hi6 : i < 6) (hPs : Ps f) : Met l yX4_release wsX4_release rm_X4_release (va_Pc [.ref h, .int (nI i)] (KW G B μ)) (va_Qv (fun μ2 => ∃ f9 : Nat → Int64, μ2 = mu μ la (.inl (G.2 0, 78, .inr (.inl f9))) ∧ ∀ x y, x < 12 → y < 12 → f9 (ix x y) = rl f i x y) (BB G B) (fun q => B ≤ q)) 0 0 (fun q => B ≤ q) := by
  refine Met.ofW (cc := cX4_release) (maxL := 4) (ret := none) (by decide) rfl ?_
  intro p e s m args below meth c s₁ B9 hml hv
  obtain ⟨hargs, hBs, hP, hKK⟩ := hv
  have hx := B9.exec
  have hb := B9.bytes
  have hr := B9.returns
  have hts := atoms_spec (ws := wsX4_release) B9.pre
  have hown : s.vm.findClass RX4 = some m.cls := findClass_of_methodNamed B9.named
  have hlocks := B9.notSynchronized
  have hK := hKK.k
  have hS : va_S (fun q => B ≤ q) s.heap s.heap [] := va_S.rf
  obtain ⟨Q, hQ⟩ : ∃ Q, Q = MQ below (va_Qv (fun μ2 => ∃ f9 : Nat → Int64, μ2 = mu μ la (.inl (G.2 0, 78, .inr (.inl f9))) ∧ ∀ x y, x < 12 → y < 12 → f9 (ix x y) = rl f i x y) (BB G B) (fun q => B ≤ q)) args s 0 0 (fun q => B ≤ q) := ⟨_, rfl⟩
  rw [← hQ]
  have ne0_1 : h ≠ bn := mp_ne hh hbn (by simp)
  have ne0_2 : h ≠ nn := mp_ne hh hnn (by simp)
  have ne0_3 : h ≠ la := mp_ne hh ha (by simp)
  have ne0_4 : h ≠ s9 := mp_ne hh hs9 (by simp)
  have ne0_5 : h ≠ lo := mp_ne hh hlo (by simp)
  have ne1_2 : bn ≠ nn := mp_ne hbn hnn (by simp)
  have ne1_3 : bn ≠ la := mp_ne hbn ha (by simp)
  have ne1_4 : bn ≠ s9 := mp_ne hbn hs9 (by simp)
  have ne1_5 : bn ≠ lo := mp_ne hbn hlo (by simp)
  have ne2_3 : nn ≠ la := mp_ne hnn ha (by simp)
  have ne2_4 : nn ≠ s9 := mp_ne hnn hs9 (by simp)
  have ne2_5 : nn ≠ lo := mp_ne hnn hlo (by simp)
  have in_X4_release_X4 : ∀ w ∈ wsX40, w ∈ wsX4_release := by decide +kernel
  have hP : mw G.1 vwCl B (mu μ la (.inl (G.2 0, 78, .inr (.inl f)))) s.heap := mw_eq (mu_i ha).symm hP
  have L12 : ∀ (N12 : Nat) (p1 : Nat) (g1 : Nat → Int64) (hN12 : 2 * i + 2 - p1 < N12) (hp : 2 * i ≤ p1 ∧ p1 ≤ 2 * i + 2) (hp1 : Ps g1) (hz : Rl f g1 i p1 0), ∀ (H : Heap) (locs : List Loc), mw G.1 vwCl B (mu μ la (.inl (G.2 0, 78, .inr (.inl g1)))) H → va_S (fun q => B ≤ q) s.heap H locs → ∀ ls : Array Slot, lv_has ls 4 [(0, .ref h), (1, .int (nI i)), (2, .int (nI p1))] → W p l e rm_X4_release s m args below meth c H locs 0 0 Q (F0 m 12 ls []) := by
    intro N12
    induction N12 with
    | zero => intro p1 g1 hN12; exact absurd hN12 (Nat.not_lt_zero _)
    | succ N12 ih12 =>
      intro p1 g1 hN12 hp hp1 hz H locs hP hS ls hl
      have L23 : ∀ (N23 : Nat) (q1 : Nat) (g1 : Nat → Int64) (hN23 : 12 - q1 < N23) (hpo : 2 * i ≤ p1 ∧ p1 ≤ 2 * i + 1) (hq : q1 ≤ 12) (hp1 : Ps g1) (hz : Rl f g1 i p1 q1), ∀ (H : Heap) (locs : List Loc), mw G.1 vwCl B (mu μ la (.inl (G.2 0, 78, .inr (.inl g1)))) H → va_S (fun q => B ≤ q) s.heap H locs → ∀ ls : Array Slot, lv_has ls 4 [(0, .ref h), (1, .int (nI i)), (2, .int (nI p1)), (3, .int (nI q1))] → W p l e rm_X4_release s m args below meth c H locs 0 0 Q (F0 m 23 ls []) := by
        intro N23
        induction N23 with
        | zero => intro q1 g1 hN23; exact absurd hN23 (Nat.not_lt_zero _)
        | succ N23 ih23 =>
          intro q1 g1 hN23 hpo hq hp1 hz H locs hP hS ls hl
          refine lv_iload_n hx hb dX4_release_23 rfl (lv_at hl 3 rfl) ?_
          refine lv_bipush (v := nI 12) hx hb dX4_release_24 (by decide) ?_
          refine nv_icmp_ge (tgt := 59) hx hb (by omega) (by omega) dX4_release_26 (by decide) (fun hc26 => ?_) (fun hc26 => ?_)
          · refine lv_iinc (v := nI (p1 + 1)) (lv' := [(2, .int (nI (p1 + 1))), (0, .ref h), (1, .int (nI i)), (3, .int (nI q1))]) hx hb dX4_release_59 hl (k := 2) rfl (nI_add _ _) (by decide) rfl (fun ls hl => ?_)
            refine lv_goto (tgt := 12) hx hb dX4_release_62 (by decide) ?_
            exact ih12 (p1 + 1) g1 (by omega) (by omega) (hp1) (by have e : q1 = 12 := (by omega); subst e; exact hz.n (by omega)) _ _ hP hS ls (lv_sub hl [1, 2, 0] rfl)
          · refine lv_aload_n hx hb dX4_release_29 rfl (lv_at hl 0 rfl) ?_
            refine lv_iload_n hx hb dX4_release_30 rfl (lv_at hl 2 rfl) ?_
            refine lv_iload_n hx hb dX4_release_31 rfl (lv_at hl 3 rfl) ?_
            refine kc_i (va_runS (As := [.int (nI p1), .int (nI q1)]) (rest := [.ref h]) ⟨hx, hb, hml, hown, hts⟩ (c_X4_cell l G B (mu μ la (.inl (G.2 0, 78, .inr (.inl g1)))) p1 q1 (by omega) (by omega)) (va_cwS 2 hts gX4_release_X4_cell rfl rfl rfl (by decide +kernel) ⟨Nat.le_of_ble_eq_true rfl, Nat.le_of_ble_eq_true rfl⟩) ⟨KW.blind, fun U9 hU9 hW9 => ⟨rfl, KW.pre hBs hKK hS hP U9 hU9 hW9⟩⟩ rfl rfl hl.1 rfl (lv_room (Nat.le_of_ble_eq_true rfl)) dX4_release_32 ⟨(Nat.le_of_ble_eq_true rfl), (Nat.le_of_ble_eq_true rfl)⟩) hS (fun r32 m32 H locs hq9 hP hz9 hS => ?_)
            obtain ⟨he9, rfl⟩ := hq9
            rw [he9] at hP
            have hix32 := ix_lt (p := p1) (q := q1) (by omega) (by omega)
            refine lv_iload_n hx hb dX4_release_35 rfl (lv_at hl 3 rfl) ?_
            refine lv_iload_n hx hb dX4_release_36 rfl (lv_at hl 2 rfl) ?_
            refine kc_i (va_runSN (As := [.int (nI p1)]) (rest := [.int (nI q1), .int (nI (ix p1 q1)), .ref h]) ⟨hx, hb, hml, hown, hts⟩ (c_X6_negation l G B (mu μ la (.inl (G.2 0, 78, .inr (.inl g1)))) p1 (by omega)) ⟨va_cnB 1 hts gX4_release_X6_negation_n70 rfl rfl rfl hKK.2.1.1 (hts (.initialized RX6) (by decide +kernel)) (by decide +kernel) ⟨Nat.le_of_ble_eq_true rfl, Nat.le_of_ble_eq_true rfl⟩, hts (.static yX6_negation) (by decide +kernel), trivial⟩ ⟨KW.blind, fun U9 hU9 hW9 => ⟨rfl, KW.pre hBs hKK hS hP U9 hU9 hW9⟩⟩ rfl rfl hl.1 rfl (lv_room (Nat.le_of_ble_eq_true rfl)) dX4_release_37 ⟨(Nat.le_of_ble_eq_true rfl), (Nat.le_of_ble_eq_true rfl)⟩) hS (fun r37 m37 H locs hq9 hP hz9 hS => ?_)
            obtain ⟨he9, rfl⟩ := hq9
            rw [he9] at hP
            have hne37 := ne_lt (p := p1) (by omega)
            refine nv_icmp_ne (tgt := 47) hx hb (by omega) (by omega) dX4_release_40 (by decide) (fun hc40 => ?_) (fun hc40 => ?_)
            · refine lv_ldc2 (v := (9223372036854775807)) hx hb hown (hts (.constantLong RX4 74 (9223372036854775807)) (by decide +kernel)) dX4_release_47 ?_
              refine kc_v (va_runV (As := [.int (nI (ix p1 q1)), .long 9223372036854775807]) (rest := []) ⟨hx, hb, hml, hown, hts⟩ (c_X4_put l G B (mu μ la (.inl (G.2 0, 78, .inr (.inl g1)))) h bn nn la s9 lo 0 nf g1 g w9 (ix p1 q1) 9223372036854775807 ((mu_n ne0_3).trans (hh)) ((mu_n ne1_3).trans (hbn)) ((mu_n ne2_3).trans (hnn)) (mu_s _ _ _) ((mu_n ((mp_ne hs9 ha (by simp)))).trans (hs9)) ((mu_n ((mp_ne hlo ha (by simp)))).trans (hlo)) (by omega) (hp1 _ (by omega)) (Pn.ng (Pn.i))) (cwV 2 hts gX4_release_X4_put rfl rfl rfl (by decide +kernel) ⟨Nat.le_of_ble_eq_true rfl, Nat.le_of_ble_eq_true rfl⟩) ⟨KW.blind, hP.recv hK rfl ((mu_n ne0_3).trans (hh)), fun U9 hU9 hW9 => ⟨rfl, KW.pre hBs hKK hS hP U9 hU9 hW9⟩⟩ rfl rfl hl.1 rfl (lv_room (Nat.le_of_ble_eq_true rfl)) dX4_release_50 ⟨(Nat.le_of_ble_eq_true rfl), (Nat.le_of_ble_eq_true rfl)⟩) hS (fun m50 H locs hq9 hP hz9 hS => ?_)
              rw [hq9] at hP
              have hP : mw G.1 vwCl B (mu μ la (.inl (G.2 0, 78, .inr (.inl (vp_updL g1 (ix p1 q1) 9223372036854775807))))) _ := mw_eq (mu_u _ _ _ _) hP
              refine lv_iinc (v := nI (q1 + 1)) (lv' := [(3, .int (nI (q1 + 1))), (0, .ref h), (1, .int (nI i)), (2, .int (nI p1))]) hx hb dX4_release_53 hl (k := 3) rfl (nI_add _ _) (by decide) rfl (fun ls hl => ?_)
              refine lv_goto (tgt := 23) hx hb dX4_release_56 (by decide) ?_
              exact ih23 (q1 + 1) (vp_updL g1 (ix p1 q1) 9223372036854775807) (by omega) (by omega) (by omega) (hp1.upd (by first | exact Pn.z.ng | exact Pn.i.ng)) (hz.s (by omega) (by omega) (by omega) (by first | exact (if_pos hc40).symm | exact (if_neg hc40).symm)) _ _ hP hS ls (lv_sub hl [1, 2, 3, 0] rfl)
            · refine lv_lconst (v := 0) hx hb dX4_release_43 (by decide) ?_
              refine lv_goto (tgt := 50) hx hb dX4_release_44 (by decide) ?_
              refine kc_v (va_runV (As := [.int (nI (ix p1 q1)), .long 0]) (rest := []) ⟨hx, hb, hml, hown, hts⟩ (c_X4_put l G B (mu μ la (.inl (G.2 0, 78, .inr (.inl g1)))) h bn nn la s9 lo 0 nf g1 g w9 (ix p1 q1) 0 ((mu_n ne0_3).trans (hh)) ((mu_n ne1_3).trans (hbn)) ((mu_n ne2_3).trans (hnn)) (mu_s _ _ _) ((mu_n ((mp_ne hs9 ha (by simp)))).trans (hs9)) ((mu_n ((mp_ne hlo ha (by simp)))).trans (hlo)) (by omega) (hp1 _ (by omega)) (Pn.ng (Pn.z))) (cwV 2 hts gX4_release_X4_put rfl rfl rfl (by decide +kernel) ⟨Nat.le_of_ble_eq_true rfl, Nat.le_of_ble_eq_true rfl⟩) ⟨KW.blind, hP.recv hK rfl ((mu_n ne0_3).trans (hh)), fun U9 hU9 hW9 => ⟨rfl, KW.pre hBs hKK hS hP U9 hU9 hW9⟩⟩ rfl rfl hl.1 rfl (lv_room (Nat.le_of_ble_eq_true rfl)) dX4_release_50 ⟨(Nat.le_of_ble_eq_true rfl), (Nat.le_of_ble_eq_true rfl)⟩) hS (fun m50 H locs hq9 hP hz9 hS => ?_)
              rw [hq9] at hP
              have hP : mw G.1 vwCl B (mu μ la (.inl (G.2 0, 78, .inr (.inl (vp_updL g1 (ix p1 q1) 0))))) _ := mw_eq (mu_u _ _ _ _) hP
              refine lv_iinc (v := nI (q1 + 1)) (lv' := [(3, .int (nI (q1 + 1))), (0, .ref h), (1, .int (nI i)), (2, .int (nI p1))]) hx hb dX4_release_53 hl (k := 3) rfl (nI_add _ _) (by decide) rfl (fun ls hl => ?_)
              refine lv_goto (tgt := 23) hx hb dX4_release_56 (by decide) ?_
              exact ih23 (q1 + 1) (vp_updL g1 (ix p1 q1) 0) (by omega) (by omega) (by omega) (hp1.upd (by first | exact Pn.z.ng | exact Pn.i.ng)) (hz.s (by omega) (by omega) (by omega) (by first | exact (if_pos hc40).symm | exact (if_neg hc40).symm)) _ _ hP hS ls (lv_sub hl [1, 2, 3, 0] rfl)
      refine lv_iload_n hx hb dX4_release_12 rfl (lv_at hl 2 rfl) ?_
      refine lv_iconst (v := nI 2) hx hb dX4_release_13 (by decide) ?_
      refine lv_iload_n hx hb dX4_release_14 rfl (lv_at hl 1 rfl) ?_
      refine nv_imul hx hb dX4_release_15 ?_
      refine lv_iconst (v := nI 1) hx hb dX4_release_16 (by decide) ?_
      refine nv_iadd hx hb dX4_release_17 ?_
      refine nv_icmp_gt (tgt := 65) hx hb (by omega) (by omega) dX4_release_18 (by decide) (fun hc18 => ?_) (fun hc18 => ?_)
      · rw [hQ]
        exact W.vret hx hb hr (fun t99 ht99 hW99 => ⟨⟨mu μ la (.inl (G.2 0, 78, .inr (.inl g1))), rfl, (⟨_, rfl, Rl.e (by omega) hz⟩), by show mw _ _ _ _ t99.heap; rw [ht99]; exact hP⟩, hS.F ht99⟩) hS.2.2 dX4_release_65
      · refine lv_iconst (v := nI 0) hx hb dX4_release_21 (by decide) ?_
        refine lv_istore_n (lv' := [(3, .int (nI 0)), (0, .ref h), (1, .int (nI i)), (2, .int (nI p1))]) hx hb dX4_release_22 rfl hl (by decide) rfl (fun ls hl => ?_)
        exact L23 _ 0 g1 (Nat.lt_succ_self _) (by omega) (by omega) (hp1) (hz) _ _ hP hS ls (lv_sub hl [1, 2, 3, 0] rfl)
  have hl := lv_entry ([.ref h, .int (nI i)]) (n := 4) (Nat.le_of_ble_eq_true rfl)
  have he9 : entryFrame m args 4 = entryFrame m ([.ref h, .int (nI i)] : List Value).toArray 4 := by rw [hargs]
  rw [he9, lg_entry_eq]
  generalize (lg_sl ([.ref h, .int (nI i)]) ++ List.replicate (4 - (lg_sl ([.ref h, .int (nI i)])).length) Slot.unset).toArray = ls at hl ⊢
  have hl : lv_has ls 4 [(0, .ref h), (1, .int (nI i))] := hl
  refine lv_aload_n hx hb dX4_release_0 rfl (lv_at hl 0 rfl) ?_
  refine mw_get (C := RX4) (T := TX4) (N := 4) hx hb hts in_X4_release_X4 hown hK hP ((mu_n ne0_3).trans (hh)) rfl 3 (by decide) (hts (.fieldLink RX4 26 "OctagonDesk$Shape" "empty" "Z") (by decide +kernel)) (fun _ h9 => h9) rfl dX4_release_1 ?_
  refine lv_if_eq (tgt := 8) hx hb dX4_release_4 (by decide) (fun hc4 => ?_) (fun hc4 => ?_)
  · refine lv_iconst (v := nI 2) hx hb dX4_release_8 (by decide) ?_
    refine lv_iload_n hx hb dX4_release_9 rfl (lv_at hl 1 rfl) ?_
    refine nv_imul hx hb dX4_release_10 ?_
    refine lv_istore_n (lv' := [(2, .int (nI (2 * i))), (0, .ref h), (1, .int (nI i))]) hx hb dX4_release_11 rfl hl (by decide) rfl (fun ls hl => ?_)
    exact L12 _ (2 * i) f (Nat.lt_succ_self _) (by omega) (hPs) (Rl.z f i) _ _ hP hS ls (lv_sub hl [1, 2, 0] rfl)
  · exact absurd rfl hc4

abbrev rm_X4_allowAll : Room := { frames := 4, cells := 0, slots := 0, locals := 92 }
set_option maxHeartbeats 4000000 in
set_option maxRecDepth 100000 in
theorem c_X4_allowAll (l : Launch) (G : GG) (B : Nat) (μ : mp) (h bn nn la s9 lo eb : Nat) (nf : List Value) (f g : Nat → Int64) (w9 : Nat → Int32) (hh : μ h = some (.inr (4, [.ref bn, .ref nn, .ref la, .int (nI eb)]))) (hbn : μ bn = some (.inr (0, [.ref nn, .ref s9, .ref lo]))) (hnn : μ nn = some (.inr (3, nf))) (ha : μ la = some (.inl (G.2 0, 78, .inr (.inl f)))) (hs9 : μ s9 = some (.inl (G.2 0, 13, .inr (.inl g)))) (hlo : μ lo = some (.inl (G.2 2, 78, .inl w9))) (hPs : Ps f) : Met l yX4_allowAll wsX4_allowAll rm_X4_allowAll (va_Pc [.ref h] (KW G B μ)) (va_Qv (fun μ2 => ∃ f9 : Nat → Int64, μ2 = mu (mu μ h (.inr (4, [.ref bn, .ref nn, .ref la, .int (nI 0)]))) la (.inl (G.2 0, 78, .inr (.inl f9))) ∧ ∀ c, c < 78 → f9 c = tz c) (BB G B) (fun q => B ≤ q)) 0 0 (fun q => B ≤ q) := by
  refine Met.ofW (cc := cX4_allowAll) (maxL := 2) (ret := none) (by decide) rfl ?_
  intro p e s m args below meth c s₁ B9 hml hv
  obtain ⟨hargs, hBs, hP, hKK⟩ := hv
  have hx := B9.exec
  have hb := B9.bytes
  have hr := B9.returns
  have hts := atoms_spec (ws := wsX4_allowAll) B9.pre
  have hown : s.vm.findClass RX4 = some m.cls := findClass_of_methodNamed B9.named
  have hlocks := B9.notSynchronized
  have hK := hKK.k
  have hS : va_S (fun q => B ≤ q) s.heap s.heap [] := va_S.rf
  obtain ⟨Q, hQ⟩ : ∃ Q, Q = MQ below (va_Qv (fun μ2 => ∃ f9 : Nat → Int64, μ2 = mu (mu μ h (.inr (4, [.ref bn, .ref nn, .ref la, .int (nI 0)]))) la (.inl (G.2 0, 78, .inr (.inl f9))) ∧ ∀ c, c < 78 → f9 c = tz c) (BB G B) (fun q => B ≤ q)) args s 0 0 (fun q => B ≤ q) := ⟨_, rfl⟩
  rw [← hQ]
  have ne0_1 : h ≠ bn := mp_ne hh hbn (by simp)
  have ne0_2 : h ≠ nn := mp_ne hh hnn (by simp)
  have ne0_3 : h ≠ la := mp_ne hh ha (by simp)
  have ne0_4 : h ≠ s9 := mp_ne hh hs9 (by simp)
  have ne0_5 : h ≠ lo := mp_ne hh hlo (by simp)
  have ne1_2 : bn ≠ nn := mp_ne hbn hnn (by simp)
  have ne1_3 : bn ≠ la := mp_ne hbn ha (by simp)
  have ne1_4 : bn ≠ s9 := mp_ne hbn hs9 (by simp)
  have ne1_5 : bn ≠ lo := mp_ne hbn hlo (by simp)
  have ne2_3 : nn ≠ la := mp_ne hnn ha (by simp)
  have ne2_4 : nn ≠ s9 := mp_ne hnn hs9 (by simp)
  have ne2_5 : nn ≠ lo := mp_ne hnn hlo (by simp)
  have in_X4_allowAll_X4 : ∀ w ∈ wsX40, w ∈ wsX4_allowAll := by decide +kernel
  have hP : mw G.1 vwCl B (mu (mu μ h (.inr (4, [.ref bn, .ref nn, .ref la, .int (nI eb)]))) la (.inl (G.2 0, 78, .inr (.inl f)))) s.heap := mw_eq ((congrArg (fun z => mu z la (.inl (G.2 0, 78, .inr (.inl f)))) (mu_i hh)).trans (mu_i ha)).symm hP
  have L7 : ∀ (N7 : Nat) (i1 : Nat) (g1 : Nat → Int64) (hN7 : 6 - i1 < N7) (hi : i1 ≤ 6) (hp1 : Ps g1) (hz : ∀ x y, x < 12 → y < 12 → (x / 2 < i1 ∨ y / 2 < i1) → g1 (ix x y) = tz (ix x y)), ∀ (H : Heap) (locs : List Loc), mw G.1 vwCl B (mu (mu μ h (.inr (4, [.ref bn, .ref nn, .ref la, .int (nI 0)]))) la (.inl (G.2 0, 78, .inr (.inl g1)))) H → va_S (fun q => B ≤ q) s.heap H locs → ∀ ls : Array Slot, lv_has ls 2 [(0, .ref h), (1, .int (nI i1))] → W p l e rm_X4_allowAll s m args below meth c H locs 0 0 Q (F0 m 7 ls []) := by
    intro N7
    induction N7 with
    | zero => intro i1 g1 hN7; exact absurd hN7 (Nat.not_lt_zero _)
    | succ N7 ih7 =>
      intro i1 g1 hN7 hi hp1 hz H locs hP hS ls hl
      refine lv_iload_n hx hb dX4_allowAll_7 rfl (lv_at hl 1 rfl) ?_
      refine lv_bipush (v := nI 6) hx hb dX4_allowAll_8 (by decide) ?_
      refine nv_icmp_ge (tgt := 24) hx hb (by omega) (by omega) dX4_allowAll_10 (by decide) (fun hc10 => ?_) (fun hc10 => ?_)
      · rw [hQ]
        exact W.vret hx hb hr (fun t99 ht99 hW99 => ⟨⟨mu (mu μ h (.inr (4, [.ref bn, .ref nn, .ref la, .int (nI 0)]))) la (.inl (G.2 0, 78, .inr (.inl g1))), rfl, (⟨_, rfl, ix_all (fun x y hx9 hy9 => hz x y hx9 hy9 (by omega))⟩), by show mw _ _ _ _ t99.heap; rw [ht99]; exact hP⟩, hS.F ht99⟩) hS.2.2 dX4_allowAll_24
      · refine lv_aload_n hx hb dX4_allowAll_13 rfl (lv_at hl 0 rfl) ?_
        refine lv_iload_n hx hb dX4_allowAll_14 rfl (lv_at hl 1 rfl) ?_
        refine kc_v (va_runV (As := [.int (nI i1)]) (rest := []) ⟨hx, hb, hml, hown, hts⟩ (c_X4_release l G B (mu (mu μ h (.inr (4, [.ref bn, .ref nn, .ref la, .int (nI 0)]))) la (.inl (G.2 0, 78, .inr (.inl g1)))) h bn nn la s9 lo nf g1 g w9 i1 ((mu_n ne0_3).trans (mu_s _ _ _)) ((mu_n ne1_3).trans ((mu_n ((Ne.symm ne0_1))).trans (hbn))) ((mu_n ne2_3).trans ((mu_n ((Ne.symm ne0_2))).trans (hnn))) (mu_s _ _ _) ((mu_n ((mp_ne hs9 ha (by simp)))).trans ((mu_n ((Ne.symm ne0_4))).trans (hs9))) ((mu_n ((mp_ne hlo ha (by simp)))).trans ((mu_n ((Ne.symm ne0_5))).trans (hlo))) (by omega) (hp1)) (cwV 1 hts gX4_allowAll_X4_release rfl rfl rfl (by decide +kernel) ⟨Nat.le_of_ble_eq_true rfl, Nat.le_of_ble_eq_true rfl⟩) ⟨KW.blind, hP.recv hK rfl ((mu_n ne0_3).trans (mu_s _ _ _)), fun U9 hU9 hW9 => ⟨rfl, KW.pre hBs hKK hS hP U9 hU9 hW9⟩⟩ rfl rfl hl.1 rfl (lv_room (Nat.le_of_ble_eq_true rfl)) dX4_allowAll_15 ⟨(Nat.le_of_ble_eq_true rfl), (Nat.le_of_ble_eq_true rfl)⟩) hS (fun m15 H locs hq9 hP hz9 hS => ?_)
        obtain ⟨f15, rfl, hf15⟩ := hq9
        have hP : mw G.1 vwCl B (mu (mu μ h (.inr (4, [.ref bn, .ref nn, .ref la, .int (nI 0)]))) la (.inl (G.2 0, 78, .inr (.inl f15)))) _ := mw_eq (mu_u _ _ _ _) hP
        refine lv_iinc (v := nI (i1 + 1)) (lv' := [(1, .int (nI (i1 + 1))), (0, .ref h)]) hx hb dX4_allowAll_18 hl (k := 1) rfl (nI_add _ _) (by decide) rfl (fun ls hl => ?_)
        refine lv_goto (tgt := 7) hx hb dX4_allowAll_21 (by decide) ?_
        exact ih7 (i1 + 1) f15 (by omega) (by omega) (hp1.rel hf15) (aa_s hz hf15) _ _ hP hS ls (lv_sub hl [1, 0] rfl)
  have hl := lv_entry ([.ref h]) (n := 2) (Nat.le_of_ble_eq_true rfl)
  have he9 : entryFrame m args 2 = entryFrame m ([.ref h] : List Value).toArray 2 := by rw [hargs]
  rw [he9, lg_entry_eq]
  generalize (lg_sl ([.ref h]) ++ List.replicate (2 - (lg_sl ([.ref h])).length) Slot.unset).toArray = ls at hl ⊢
  have hl : lv_has ls 2 [(0, .ref h)] := hl
  refine lv_aload_n hx hb dX4_allowAll_0 rfl (lv_at hl 0 rfl) ?_
  refine lv_iconst (v := nI 0) hx hb dX4_allowAll_1 (by decide) ?_
  refine mw_put (ty := .boolean) (v := .int (nI 0)) (C := RX4) (T := TX4) (N := 4) hx hb hts in_X4_allowAll_X4 tyX4 tyX4_ok nmX4 hown hK hP hS ((mu_n ne0_3).trans (mu_s _ _ _)) rfl 3 (by decide) (hts (.fieldLink RX4 26 "OctagonDesk$Shape" "empty" "Z") (by decide +kernel)) (fun _ h9 => h9) rfl (by decide +kernel) (by first | rfl | decide) (by first | rfl | decide) (Nat.le_of_ble_eq_true rfl) dX4_allowAll_2 (fun H locs hP hS => ?_)
  have hP : mw G.1 vwCl B (mu (mu μ h (.inr (4, [.ref bn, .ref nn, .ref la, .int (nI 0)]))) la (.inl (G.2 0, 78, .inr (.inl f)))) _ := mw_eq ((mu_c _ _ ((Ne.symm ne0_3))).trans (congrArg (fun z => mu z la (.inl (G.2 0, 78, .inr (.inl f)))) (mu_u _ _ _ _))) hP
  refine lv_iconst (v := nI 0) hx hb dX4_allowAll_5 (by decide) ?_
  refine lv_istore_n (lv' := [(1, .int (nI 0)), (0, .ref h)]) hx hb dX4_allowAll_6 rfl hl (by decide) rfl (fun ls hl => ?_)
  exact L7 _ 0 f (Nat.lt_succ_self _) (by omega) (hPs) (fun x y _ _ h9 => absurd h9 (by omega)) _ _ hP hS ls (lv_sub hl [1, 0] rfl)

abbrev rm_X4_takeOver : Room := { frames := 3, cells := 0, slots := 0, locals := 69 }
set_option maxHeartbeats 4000000 in
set_option maxRecDepth 100000 in
theorem c_X4_takeOver (l : Launch) (G : GG) (B : Nat) (μ : mp) (h bn nn la s9 lo eb : Nat) (nf : List Value) (f g : Nat → Int64) (w9 : Nat → Int32) (h2 la2 eb2 : Nat) (f2 : Nat → Int64) (hh : μ h = some (.inr (4, [.ref bn, .ref nn, .ref la, .int (nI eb)]))) (hbn : μ bn = some (.inr (0, [.ref nn, .ref s9, .ref lo]))) (hnn : μ nn = some (.inr (3, nf))) (ha : μ la = some (.inl (G.2 0, 78, .inr (.inl f)))) (hs9 : μ s9 = some (.inl (G.2 0, 13, .inr (.inl g)))) (hlo : μ lo = some (.inl (G.2 2, 78, .inl w9))) (hh2 : μ h2 = some (.inr (4, [.ref bn, .ref nn, .ref la2, .int (nI eb2)]))) (ha2 : μ la2 = some (.inl (G.2 0, 78, .inr (.inl f2)))) (he2 : eb2 ≤ 1) (hPs : Ps f) (hPs2 : Ps f2) (hne : la ≠ la2) (hne0 : h ≠ h2) : Met l yX4_takeOver wsX4_takeOver rm_X4_takeOver (va_Pc [.ref h, .ref h2] (KW G B μ)) (va_Qv (fun μ2 => ∃ f9 : Nat → Int64, μ2 = mu (mu μ h (.inr (4, [.ref bn, .ref nn, .ref la, .int (nI eb2)]))) la (.inl (G.2 0, 78, .inr (.inl f9))) ∧ ∀ c, c < 78 → f9 c = f2 c) (BB G B) (fun q => B ≤ q)) 0 0 (fun q => B ≤ q) := by
  refine Met.ofW (cc := cX4_takeOver) (maxL := 3) (ret := none) (by decide) rfl ?_
  intro p e s m args below meth c s₁ B9 hml hv
  obtain ⟨hargs, hBs, hP, hKK⟩ := hv
  have hx := B9.exec
  have hb := B9.bytes
  have hr := B9.returns
  have hts := atoms_spec (ws := wsX4_takeOver) B9.pre
  have hown : s.vm.findClass RX4 = some m.cls := findClass_of_methodNamed B9.named
  have hlocks := B9.notSynchronized
  have hK := hKK.k
  have hS : va_S (fun q => B ≤ q) s.heap s.heap [] := va_S.rf
  obtain ⟨Q, hQ⟩ : ∃ Q, Q = MQ below (va_Qv (fun μ2 => ∃ f9 : Nat → Int64, μ2 = mu (mu μ h (.inr (4, [.ref bn, .ref nn, .ref la, .int (nI eb2)]))) la (.inl (G.2 0, 78, .inr (.inl f9))) ∧ ∀ c, c < 78 → f9 c = f2 c) (BB G B) (fun q => B ≤ q)) args s 0 0 (fun q => B ≤ q) := ⟨_, rfl⟩
  rw [← hQ]
  have ne0_1 : h ≠ bn := mp_ne hh hbn (by simp)
  have ne0_2 : h ≠ nn := mp_ne hh hnn (by simp)
  have ne0_3 : h ≠ la := mp_ne hh ha (by simp)
  have ne0_4 : h ≠ s9 := mp_ne hh hs9 (by simp)
  have ne0_5 : h ≠ lo := mp_ne hh hlo (by simp)
  have ne0_7 : h ≠ la2 := mp_ne hh ha2 (by simp)
  have ne1_2 : bn ≠ nn := mp_ne hbn hnn (by simp)
  have ne1_3 : bn ≠ la := mp_ne hbn ha (by simp)
  have ne1_4 : bn ≠ s9 := mp_ne hbn hs9 (by simp)
  have ne1_5 : bn ≠ lo := mp_ne hbn hlo (by simp)
  have ne1_6 : bn ≠ h2 := mp_ne hbn hh2 (by simp)
  have ne1_7 : bn ≠ la2 := mp_ne hbn ha2 (by simp)
  have ne2_3 : nn ≠ la := mp_ne hnn ha (by simp)
  have ne2_4 : nn ≠ s9 := mp_ne hnn hs9 (by simp)
  have ne2_5 : nn ≠ lo := mp_ne hnn hlo (by simp)
  have ne2_6 : nn ≠ h2 := mp_ne hnn hh2 (by simp)
  have ne2_7 : nn ≠ la2 := mp_ne hnn ha2 (by simp)
  have ne3_6 : la ≠ h2 := mp_ne ha hh2 (by simp)
  have ne4_6 : s9 ≠ h2 := mp_ne hs9 hh2 (by simp)
  have ne5_6 : lo ≠ h2 := mp_ne hlo hh2 (by simp)
  have ne6_7 : h2 ≠ la2 := mp_ne hh2 ha2 (by simp)
  have in_X4_takeOver_X4 : ∀ w ∈ wsX40, w ∈ wsX4_takeOver := by decide +kernel
  have hP : mw G.1 vwCl B (mu (mu μ h (.inr (4, [.ref bn, .ref nn, .ref la, .int (nI eb)]))) la (.inl (G.2 0, 78, .inr (.inl f)))) s.heap := mw_eq ((congrArg (fun z => mu z la (.inl (G.2 0, 78, .inr (.inl f)))) (mu_i hh)).trans (mu_i ha)).symm hP
  have L10 : ∀ (N10 : Nat) (i1 : Nat) (g1 : Nat → Int64) (hN10 : 78 - i1 < N10) (hi : i1 ≤ 78) (hp1 : Ps g1) (hz : ∀ c, c < i1 → g1 c = f2 c), ∀ (H : Heap) (locs : List Loc), mw G.1 vwCl B (mu (mu μ h (.inr (4, [.ref bn, .ref nn, .ref la, .int (nI eb2)]))) la (.inl (G.2 0, 78, .inr (.inl g1)))) H → va_S (fun q => B ≤ q) s.heap H locs → ∀ ls : Array Slot, lv_has ls 3 [(0, .ref h), (1, .ref h2), (2, .int (nI i1))] → W p l e rm_X4_takeOver s m args below meth c H locs 0 0 Q (F0 m 10 ls []) := by
    intro N10
    induction N10 with
    | zero => intro i1 g1 hN10; exact absurd hN10 (Nat.not_lt_zero _)
    | succ N10 ih10 =>
      intro i1 g1 hN10 hi hp1 hz H locs hP hS ls hl
      refine lv_iload_n hx hb dX4_takeOver_10 rfl (lv_at hl 2 rfl) ?_
      refine lv_bipush (v := nI 78) hx hb dX4_takeOver_11 (by decide) ?_
      refine nv_icmp_ge (tgt := 33) hx hb (by omega) (by omega) dX4_takeOver_13 (by decide) (fun hc13 => ?_) (fun hc13 => ?_)
      · rw [hQ]
        exact W.vret hx hb hr (fun t99 ht99 hW99 => ⟨⟨mu (mu μ h (.inr (4, [.ref bn, .ref nn, .ref la, .int (nI eb2)]))) la (.inl (G.2 0, 78, .inr (.inl g1))), rfl, (⟨_, rfl, fun c hc => hz c (by omega)⟩), by show mw _ _ _ _ t99.heap; rw [ht99]; exact hP⟩, hS.F ht99⟩) hS.2.2 dX4_takeOver_33
      · refine lv_aload_n hx hb dX4_takeOver_16 rfl (lv_at hl 0 rfl) ?_
        refine lv_iload_n hx hb dX4_takeOver_17 rfl (lv_at hl 2 rfl) ?_
        refine lv_aload_n hx hb dX4_takeOver_18 rfl (lv_at hl 1 rfl) ?_
        refine mw_get (C := RX4) (T := TX4) (N := 4) hx hb hts in_X4_takeOver_X4 hown hK hP ((mu_n ((Ne.symm ne3_6))).trans ((mu_n ((Ne.symm hne0))).trans (hh2))) rfl 2 (by decide) (hts (.fieldLink RX4 22 "OctagonDesk$Shape" "cells" "[J") (by decide +kernel)) (fun _ h9 => h9) rfl dX4_takeOver_19 ?_
        refine lv_iload_n hx hb dX4_takeOver_22 rfl (lv_at hl 2 rfl) ?_
        refine mw_lald hx hb hK hP 0 ((mu_n ((Ne.symm hne))).trans ((mu_n ((Ne.symm ne0_7))).trans (ha2))) rfl (by omega) (by omega) dX4_takeOver_23 ?_
        refine kc_v (va_runV (As := [.int (nI i1), .long (f2 i1)]) (rest := []) ⟨hx, hb, hml, hown, hts⟩ (c_X4_put l G B (mu (mu μ h (.inr (4, [.ref bn, .ref nn, .ref la, .int (nI eb2)]))) la (.inl (G.2 0, 78, .inr (.inl g1)))) h bn nn la s9 lo eb2 nf g1 g w9 i1 (f2 i1) ((mu_n ne0_3).trans (mu_s _ _ _)) ((mu_n ne1_3).trans ((mu_n ((Ne.symm ne0_1))).trans (hbn))) ((mu_n ne2_3).trans ((mu_n ((Ne.symm ne0_2))).trans (hnn))) (mu_s _ _ _) ((mu_n ((mp_ne hs9 ha (by simp)))).trans ((mu_n ((Ne.symm ne0_4))).trans (hs9))) ((mu_n ((mp_ne hlo ha (by simp)))).trans ((mu_n ((Ne.symm ne0_5))).trans (hlo))) (by omega) (hp1 _ (by omega)) (hPs2 _ (by omega))) (cwV 2 hts gX4_takeOver_X4_put rfl rfl rfl (by decide +kernel) ⟨Nat.le_of_ble_eq_true rfl, Nat.le_of_ble_eq_true rfl⟩) ⟨KW.blind, hP.recv hK rfl ((mu_n ne0_3).trans (mu_s _ _ _)), fun U9 hU9 hW9 => ⟨rfl, KW.pre hBs hKK hS hP U9 hU9 hW9⟩⟩ rfl rfl hl.1 rfl (lv_room (Nat.le_of_ble_eq_true rfl)) dX4_takeOver_24 ⟨(Nat.le_of_ble_eq_true rfl), (Nat.le_of_ble_eq_true rfl)⟩) hS (fun m24 H locs hq9 hP hz9 hS => ?_)
        rw [hq9] at hP
        have hP : mw G.1 vwCl B (mu (mu μ h (.inr (4, [.ref bn, .ref nn, .ref la, .int (nI eb2)]))) la (.inl (G.2 0, 78, .inr (.inl (vp_updL g1 i1 (f2 i1)))))) _ := mw_eq (mu_u _ _ _ _) hP
        refine lv_iinc (v := nI (i1 + 1)) (lv' := [(2, .int (nI (i1 + 1))), (0, .ref h), (1, .ref h2)]) hx hb dX4_takeOver_27 hl (k := 2) rfl (nI_add _ _) (by decide) rfl (fun ls hl => ?_)
        refine lv_goto (tgt := 10) hx hb dX4_takeOver_30 (by decide) ?_
        exact ih10 (i1 + 1) (vp_updL g1 i1 (f2 i1)) (by omega) (by omega) (hp1.upd (hPs2 _ (by omega))) (up_nx hz rfl) _ _ hP hS ls (lv_sub hl [1, 2, 0] rfl)
  have hl := lv_entry ([.ref h, .ref h2]) (n := 3) (Nat.le_of_ble_eq_true rfl)
  have he9 : entryFrame m args 3 = entryFrame m ([.ref h, .ref h2] : List Value).toArray 3 := by rw [hargs]
  rw [he9, lg_entry_eq]
  generalize (lg_sl ([.ref h, .ref h2]) ++ List.replicate (3 - (lg_sl ([.ref h, .ref h2])).length) Slot.unset).toArray = ls at hl ⊢
  have hl : lv_has ls 3 [(0, .ref h), (1, .ref h2)] := hl
  refine lv_aload_n hx hb dX4_takeOver_0 rfl (lv_at hl 0 rfl) ?_
  refine lv_aload_n hx hb dX4_takeOver_1 rfl (lv_at hl 1 rfl) ?_
  refine mw_get (C := RX4) (T := TX4) (N := 4) hx hb hts in_X4_takeOver_X4 hown hK hP ((mu_n ((Ne.symm ne3_6))).trans ((mu_n ((Ne.symm hne0))).trans (hh2))) rfl 3 (by decide) (hts (.fieldLink RX4 26 "OctagonDesk$Shape" "empty" "Z") (by decide +kernel)) (fun _ h9 => h9) rfl dX4_takeOver_2 ?_
  refine mw_put (ty := .boolean) (v := .int (nI eb2)) (C := RX4) (T := TX4) (N := 4) hx hb hts in_X4_takeOver_X4 tyX4 tyX4_ok nmX4 hown hK hP hS ((mu_n ne0_3).trans (mu_s _ _ _)) rfl 3 (by decide) (hts (.fieldLink RX4 26 "OctagonDesk$Shape" "empty" "Z") (by decide +kernel)) (fun _ h9 => h9) rfl (by decide +kernel) (zb_n (by omega)) (zb_f (by omega)) (Nat.le_of_ble_eq_true rfl) dX4_takeOver_5 (fun H locs hP hS => ?_)
  have hP : mw G.1 vwCl B (mu (mu μ h (.inr (4, [.ref bn, .ref nn, .ref la, .int (nI eb2)]))) la (.inl (G.2 0, 78, .inr (.inl f)))) _ := mw_eq ((mu_c _ _ ((Ne.symm ne0_3))).trans (congrArg (fun z => mu z la (.inl (G.2 0, 78, .inr (.inl f)))) (mu_u _ _ _ _))) hP
  refine lv_iconst (v := nI 0) hx hb dX4_takeOver_8 (by decide) ?_
  refine lv_istore_n (lv' := [(2, .int (nI 0)), (0, .ref h), (1, .ref h2)]) hx hb dX4_takeOver_9 rfl hl (by decide) rfl (fun ls hl => ?_)
  exact L10 _ 0 f (Nat.lt_succ_self _) (by omega) (hPs) (fun c hc => absurd hc (by omega)) _ _ hP hS ls (lv_sub hl [1, 2, 0] rfl)

set_option maxHeartbeats 4000000 in
set_option maxRecDepth 100000 in
theorem c_X4_takeOver_s (l : Launch) (G : GG) (B : Nat) (μ : mp) (h bn nn la s9 lo eb : Nat) (nf : List Value) (f g : Nat → Int64) (w9 : Nat → Int32) (hh : μ h = some (.inr (4, [.ref bn, .ref nn, .ref la, .int (nI eb)]))) (hbn : μ bn = some (.inr (0, [.ref nn, .ref s9, .ref lo]))) (hnn : μ nn = some (.inr (3, nf))) (ha : μ la = some (.inl (G.2 0, 78, .inr (.inl f)))) (hs9 : μ s9 = some (.inl (G.2 0, 13, .inr (.inl g)))) (hlo : μ lo = some (.inl (G.2 2, 78, .inl w9))) (he2 : eb ≤ 1) (hPs : Ps f) : Met l yX4_takeOver wsX4_takeOver rm_X4_takeOver (va_Pc [.ref h, .ref h] (KW G B μ)) (va_Qv (fun μ2 => ∃ f9 : Nat → Int64, μ2 = mu (mu μ h (.inr (4, [.ref bn, .ref nn, .ref la, .int (nI eb)]))) la (.inl (G.2 0, 78, .inr (.inl f9))) ∧ ∀ c, c < 78 → f9 c = f c) (BB G B) (fun q => B ≤ q)) 0 0 (fun q => B ≤ q) := by
  refine Met.ofW (cc := cX4_takeOver) (maxL := 3) (ret := none) (by decide) rfl ?_
  intro p e s m args below meth c s₁ B9 hml hv
  obtain ⟨hargs, hBs, hP, hKK⟩ := hv
  have hx := B9.exec
  have hb := B9.bytes
  have hr := B9.returns
  have hts := atoms_spec (ws := wsX4_takeOver) B9.pre
  have hown : s.vm.findClass RX4 = some m.cls := findClass_of_methodNamed B9.named
  have hlocks := B9.notSynchronized
  have hK := hKK.k
  have hS : va_S (fun q => B ≤ q) s.heap s.heap [] := va_S.rf
  obtain ⟨Q, hQ⟩ : ∃ Q, Q = MQ below (va_Qv (fun μ2 => ∃ f9 : Nat → Int64, μ2 = mu (mu μ h (.inr (4, [.ref bn, .ref nn, .ref la, .int (nI eb)]))) la (.inl (G.2 0, 78, .inr (.inl f9))) ∧ ∀ c, c < 78 → f9 c = f c) (BB G B) (fun q => B ≤ q)) args s 0 0 (fun q => B ≤ q) := ⟨_, rfl⟩
  rw [← hQ]
  have ne0_1 : h ≠ bn := mp_ne hh hbn (by simp)
  have ne0_2 : h ≠ nn := mp_ne hh hnn (by simp)
  have ne0_3 : h ≠ la := mp_ne hh ha (by simp)
  have ne0_4 : h ≠ s9 := mp_ne hh hs9 (by simp)
  have ne0_5 : h ≠ lo := mp_ne hh hlo (by simp)
  have ne1_2 : bn ≠ nn := mp_ne hbn hnn (by simp)
  have ne1_3 : bn ≠ la := mp_ne hbn ha (by simp)
  have ne1_4 : bn ≠ s9 := mp_ne hbn hs9 (by simp)
  have ne1_5 : bn ≠ lo := mp_ne hbn hlo (by simp)
  have ne2_3 : nn ≠ la := mp_ne hnn ha (by simp)
  have ne2_4 : nn ≠ s9 := mp_ne hnn hs9 (by simp)
  have ne2_5 : nn ≠ lo := mp_ne hnn hlo (by simp)
  have in_X4_takeOver_X4 : ∀ w ∈ wsX40, w ∈ wsX4_takeOver := by decide +kernel
  have hP : mw G.1 vwCl B (mu (mu μ h (.inr (4, [.ref bn, .ref nn, .ref la, .int (nI eb)]))) la (.inl (G.2 0, 78, .inr (.inl f)))) s.heap := mw_eq ((congrArg (fun z => mu z la (.inl (G.2 0, 78, .inr (.inl f)))) (mu_i hh)).trans (mu_i ha)).symm hP
  have L10 : ∀ (N10 : Nat) (i1 : Nat) (g1 : Nat → Int64) (hN10 : 78 - i1 < N10) (hi : i1 ≤ 78) (hz : ∀ c, c < 78 → g1 c = f c), ∀ (H : Heap) (locs : List Loc), mw G.1 vwCl B (mu (mu μ h (.inr (4, [.ref bn, .ref nn, .ref la, .int (nI eb)]))) la (.inl (G.2 0, 78, .inr (.inl g1)))) H → va_S (fun q => B ≤ q) s.heap H locs → ∀ ls : Array Slot, lv_has ls 3 [(0, .ref h), (1, .ref h), (2, .int (nI i1))] → W p l e rm_X4_takeOver s m args below meth c H locs 0 0 Q (F0 m 10 ls []) := by
    intro N10
    induction N10 with
    | zero => intro i1 g1 hN10; exact absurd hN10 (Nat.not_lt_zero _)
    | succ N10 ih10 =>
      intro i1 g1 hN10 hi hz H locs hP hS ls hl
      refine lv_iload_n hx hb dX4_takeOver_10 rfl (lv_at hl 2 rfl) ?_
      refine lv_bipush (v := nI 78) hx hb dX4_takeOver_11 (by decide) ?_
      refine nv_icmp_ge (tgt := 33) hx hb (by omega) (by omega) dX4_takeOver_13 (by decide) (fun hc13 => ?_) (fun hc13 => ?_)
      · rw [hQ]
        exact W.vret hx hb hr (fun t99 ht99 hW99 => ⟨⟨mu (mu μ h (.inr (4, [.ref bn, .ref nn, .ref la, .int (nI eb)]))) la (.inl (G.2 0, 78, .inr (.inl g1))), rfl, (⟨_, rfl, hz⟩), by show mw _ _ _ _ t99.heap; rw [ht99]; exact hP⟩, hS.F ht99⟩) hS.2.2 dX4_takeOver_33
      · refine lv_aload_n hx hb dX4_takeOver_16 rfl (lv_at hl 0 rfl) ?_
        refine lv_iload_n hx hb dX4_takeOver_17 rfl (lv_at hl 2 rfl) ?_
        refine lv_aload_n hx hb dX4_takeOver_18 rfl (lv_at hl 1 rfl) ?_
        refine mw_get (C := RX4) (T := TX4) (N := 4) hx hb hts in_X4_takeOver_X4 hown hK hP ((mu_n ne0_3).trans (mu_s _ _ _)) rfl 2 (by decide) (hts (.fieldLink RX4 22 "OctagonDesk$Shape" "cells" "[J") (by decide +kernel)) (fun _ h9 => h9) rfl dX4_takeOver_19 ?_
        refine lv_iload_n hx hb dX4_takeOver_22 rfl (lv_at hl 2 rfl) ?_
        refine mw_lald hx hb hK hP 0 (mu_s _ _ _) rfl (by omega) (by omega) dX4_takeOver_23 ?_
        refine kc_v (va_runV (As := [.int (nI i1), .long (g1 i1)]) (rest := []) ⟨hx, hb, hml, hown, hts⟩ (c_X4_put l G B (mu (mu μ h (.inr (4, [.ref bn, .ref nn, .ref la, .int (nI eb)]))) la (.inl (G.2 0, 78, .inr (.inl g1)))) h bn nn la s9 lo eb nf g1 g w9 i1 (g1 i1) ((mu_n ne0_3).trans (mu_s _ _ _)) ((mu_n ne1_3).trans ((mu_n ((Ne.symm ne0_1))).trans (hbn))) ((mu_n ne2_3).trans ((mu_n ((Ne.symm ne0_2))).trans (hnn))) (mu_s _ _ _) ((mu_n ((mp_ne hs9 ha (by simp)))).trans ((mu_n ((Ne.symm ne0_4))).trans (hs9))) ((mu_n ((mp_ne hlo ha (by simp)))).trans ((mu_n ((Ne.symm ne0_5))).trans (hlo))) (by omega) (hPs.of hz _ (by omega)) (hPs.of hz _ (by omega))) (cwV 2 hts gX4_takeOver_X4_put rfl rfl rfl (by decide +kernel) ⟨Nat.le_of_ble_eq_true rfl, Nat.le_of_ble_eq_true rfl⟩) ⟨KW.blind, hP.recv hK rfl ((mu_n ne0_3).trans (mu_s _ _ _)), fun U9 hU9 hW9 => ⟨rfl, KW.pre hBs hKK hS hP U9 hU9 hW9⟩⟩ rfl rfl hl.1 rfl (lv_room (Nat.le_of_ble_eq_true rfl)) dX4_takeOver_24 ⟨(Nat.le_of_ble_eq_true rfl), (Nat.le_of_ble_eq_true rfl)⟩) hS (fun m24 H locs hq9 hP hz9 hS => ?_)
        rw [hq9] at hP
        have hP : mw G.1 vwCl B (mu (mu μ h (.inr (4, [.ref bn, .ref nn, .ref la, .int (nI eb)]))) la (.inl (G.2 0, 78, .inr (.inl (vp_updL g1 i1 (g1 i1)))))) _ := mw_eq (mu_u _ _ _ _) hP
        refine lv_iinc (v := nI (i1 + 1)) (lv' := [(2, .int (nI (i1 + 1))), (0, .ref h), (1, .ref h)]) hx hb dX4_takeOver_27 hl (k := 2) rfl (nI_add _ _) (by decide) rfl (fun ls hl => ?_)
        refine lv_goto (tgt := 10) hx hb dX4_takeOver_30 (by decide) ?_
        exact ih10 (i1 + 1) (vp_updL g1 i1 (g1 i1)) (by omega) (by omega) (up_id (by omega) hz) _ _ hP hS ls (lv_sub hl [1, 2, 0] rfl)
  have hl := lv_entry ([.ref h, .ref h]) (n := 3) (Nat.le_of_ble_eq_true rfl)
  have he9 : entryFrame m args 3 = entryFrame m ([.ref h, .ref h] : List Value).toArray 3 := by rw [hargs]
  rw [he9, lg_entry_eq]
  generalize (lg_sl ([.ref h, .ref h]) ++ List.replicate (3 - (lg_sl ([.ref h, .ref h])).length) Slot.unset).toArray = ls at hl ⊢
  have hl : lv_has ls 3 [(0, .ref h), (1, .ref h)] := hl
  refine lv_aload_n hx hb dX4_takeOver_0 rfl (lv_at hl 0 rfl) ?_
  refine lv_aload_n hx hb dX4_takeOver_1 rfl (lv_at hl 1 rfl) ?_
  refine mw_get (C := RX4) (T := TX4) (N := 4) hx hb hts in_X4_takeOver_X4 hown hK hP ((mu_n ne0_3).trans (mu_s _ _ _)) rfl 3 (by decide) (hts (.fieldLink RX4 26 "OctagonDesk$Shape" "empty" "Z") (by decide +kernel)) (fun _ h9 => h9) rfl dX4_takeOver_2 ?_
  refine mw_put (ty := .boolean) (v := .int (nI eb)) (C := RX4) (T := TX4) (N := 4) hx hb hts in_X4_takeOver_X4 tyX4 tyX4_ok nmX4 hown hK hP hS ((mu_n ne0_3).trans (mu_s _ _ _)) rfl 3 (by decide) (hts (.fieldLink RX4 26 "OctagonDesk$Shape" "empty" "Z") (by decide +kernel)) (fun _ h9 => h9) rfl (by decide +kernel) (zb_n (by omega)) (zb_f (by omega)) (Nat.le_of_ble_eq_true rfl) dX4_takeOver_5 (fun H locs hP hS => ?_)
  have hP : mw G.1 vwCl B (mu (mu μ h (.inr (4, [.ref bn, .ref nn, .ref la, .int (nI eb)]))) la (.inl (G.2 0, 78, .inr (.inl f)))) _ := mw_eq ((mu_c _ _ ((Ne.symm ne0_3))).trans (congrArg (fun z => mu z la (.inl (G.2 0, 78, .inr (.inl f)))) (mu_u _ _ _ _))) hP
  refine lv_iconst (v := nI 0) hx hb dX4_takeOver_8 (by decide) ?_
  refine lv_istore_n (lv' := [(2, .int (nI 0)), (0, .ref h), (1, .ref h)]) hx hb dX4_takeOver_9 rfl hl (by decide) rfl (fun ls hl => ?_)
  exact L10 _ 0 f (Nat.lt_succ_self _) (by omega) (fun _ _ => rfl) _ _ hP hS ls (lv_sub hl [1, 2, 0] rfl)

abbrev rm_X4_findContradiction : Room := { frames := 2, cells := 0, slots := 0, locals := 43 }
set_option maxHeartbeats 4000000 in
set_option maxRecDepth 100000 in
theorem c_X4_findContradiction (l : Launch) (G : GG) (B : Nat) (μ : mp) (h bn nn la s9 lo : Nat) (nf : List Value) (f g : Nat → Int64) (w9 : Nat → Int32) (hh : μ h = some (.inr (4, [.ref bn, .ref nn, .ref la, .int (nI 0)]))) (hbn : μ bn = some (.inr (0, [.ref nn, .ref s9, .ref lo]))) (hnn : μ nn = some (.inr (3, nf))) (ha : μ la = some (.inl (G.2 0, 78, .inr (.inl f)))) (hs9 : μ s9 = some (.inl (G.2 0, 13, .inr (.inl g)))) (hlo : μ lo = some (.inl (G.2 2, 78, .inl w9))) (hOk : Ok f) : Met l yX4_findContradiction wsX4_findContradiction rm_X4_findContradiction (va_Pc [.ref h] (KW G B μ)) (va_Qv (fun μ2 => μ2 = μ) (BB G B) (fun q => B ≤ q)) 0 0 (fun q => B ≤ q) := by
  refine Met.ofW (cc := cX4_findContradiction) (maxL := 2) (ret := none) (by decide) rfl ?_
  intro p e s m args below meth c s₁ B9 hml hv
  obtain ⟨hargs, hBs, hP, hKK⟩ := hv
  have hx := B9.exec
  have hb := B9.bytes
  have hr := B9.returns
  have hts := atoms_spec (ws := wsX4_findContradiction) B9.pre
  have hown : s.vm.findClass RX4 = some m.cls := findClass_of_methodNamed B9.named
  have hlocks := B9.notSynchronized
  have hK := hKK.k
  have hS : va_S (fun q => B ≤ q) s.heap s.heap [] := va_S.rf
  obtain ⟨Q, hQ⟩ : ∃ Q, Q = MQ below (va_Qv (fun μ2 => μ2 = μ) (BB G B) (fun q => B ≤ q)) args s 0 0 (fun q => B ≤ q) := ⟨_, rfl⟩
  rw [← hQ]
  have ne0_1 : h ≠ bn := mp_ne hh hbn (by simp)
  have ne0_2 : h ≠ nn := mp_ne hh hnn (by simp)
  have ne0_3 : h ≠ la := mp_ne hh ha (by simp)
  have ne0_4 : h ≠ s9 := mp_ne hh hs9 (by simp)
  have ne0_5 : h ≠ lo := mp_ne hh hlo (by simp)
  have ne1_2 : bn ≠ nn := mp_ne hbn hnn (by simp)
  have ne1_3 : bn ≠ la := mp_ne hbn ha (by simp)
  have ne1_4 : bn ≠ s9 := mp_ne hbn hs9 (by simp)
  have ne1_5 : bn ≠ lo := mp_ne hbn hlo (by simp)
  have ne2_3 : nn ≠ la := mp_ne hnn ha (by simp)
  have ne2_4 : nn ≠ s9 := mp_ne hnn hs9 (by simp)
  have ne2_5 : nn ≠ lo := mp_ne hnn hlo (by simp)
  have in_X4_findContradiction_X4 : ∀ w ∈ wsX40, w ∈ wsX4_findContradiction := by decide +kernel
  have L2 : ∀ (N2 : Nat) (p1 : Nat) (hN2 : 12 - p1 < N2) (hp : p1 ≤ 12 ∧ p1 % 2 = 0), ∀ (H : Heap) (locs : List Loc), mw G.1 vwCl B (μ) H → va_S (fun q => B ≤ q) s.heap H locs → ∀ ls : Array Slot, lv_has ls 2 [(0, .ref h), (1, .int (nI p1))] → W p l e rm_X4_findContradiction s m args below meth c H locs 0 0 Q (F0 m 2 ls []) := by
    intro N2
    induction N2 with
    | zero => intro p1 hN2; exact absurd hN2 (Nat.not_lt_zero _)
    | succ N2 ih2 =>
      intro p1 hN2 hp H locs hP hS ls hl
      refine lv_iload_n hx hb dX4_findContradiction_2 rfl (lv_at hl 1 rfl) ?_
      refine lv_bipush (v := nI 12) hx hb dX4_findContradiction_3 (by decide) ?_
      refine nv_icmp_ge (tgt := 42) hx hb (by omega) (by omega) dX4_findContradiction_5 (by decide) (fun hc5 => ?_) (fun hc5 => ?_)
      · rw [hQ]
        exact W.vret hx hb hr (fun t99 ht99 hW99 => ⟨⟨μ, rfl, (rfl), by show mw _ _ _ _ t99.heap; rw [ht99]; exact hP⟩, hS.F ht99⟩) hS.2.2 dX4_findContradiction_42
      · refine lv_aload_n hx hb dX4_findContradiction_8 rfl (lv_at hl 0 rfl) ?_
        refine mw_get (C := RX4) (T := TX4) (N := 4) hx hb hts in_X4_findContradiction_X4 hown hK hP (hh) rfl 1 (by decide) (hts (.fieldLink RX4 21 "OctagonDesk$Shape" "numbers" "LOctagonDesk$Numbers;") (by decide +kernel)) (fun _ h9 => h9) rfl dX4_findContradiction_9 ?_
        refine lv_aload_n hx hb dX4_findContradiction_12 rfl (lv_at hl 0 rfl) ?_
        refine mw_get (C := RX4) (T := TX4) (N := 4) hx hb hts in_X4_findContradiction_X4 hown hK hP (hh) rfl 2 (by decide) (hts (.fieldLink RX4 22 "OctagonDesk$Shape" "cells" "[J") (by decide +kernel)) (fun _ h9 => h9) rfl dX4_findContradiction_13 ?_
        refine lv_iload_n hx hb dX4_findContradiction_16 rfl (lv_at hl 1 rfl) ?_
        refine lv_iload_n hx hb dX4_findContradiction_17 rfl (lv_at hl 1 rfl) ?_
        refine kc_i (va_runSN (As := [.int (nI p1)]) (rest := [.int (nI p1), .ref la, .ref nn]) ⟨hx, hb, hml, hown, hts⟩ (c_X6_negation l G B (μ) p1 (by omega)) ⟨va_cnB 1 hts gX4_findContradiction_X6_negation_n70 rfl rfl rfl hKK.2.1.1 (hts (.initialized RX6) (by decide +kernel)) (by decide +kernel) ⟨Nat.le_of_ble_eq_true rfl, Nat.le_of_ble_eq_true rfl⟩, hts (.static yX6_negation) (by decide +kernel), trivial⟩ ⟨KW.blind, fun U9 hU9 hW9 => ⟨rfl, KW.pre hBs hKK hS hP U9 hU9 hW9⟩⟩ rfl rfl hl.1 rfl (lv_room (Nat.le_of_ble_eq_true rfl)) dX4_findContradiction_18 ⟨(Nat.le_of_ble_eq_true rfl), (Nat.le_of_ble_eq_true rfl)⟩) hS (fun r18 m18 H locs hq9 hP hz9 hS => ?_)
        obtain ⟨he9, rfl⟩ := hq9
        rw [he9] at hP
        have hne18 := ne_lt (p := p1) (by omega)
        refine kc_i (va_runS (As := [.int (nI p1), .int (nI (ne p1))]) (rest := [.ref la, .ref nn]) ⟨hx, hb, hml, hown, hts⟩ (c_X4_cell l G B (μ) p1 (ne p1) (by omega) (by omega)) (va_cwS 2 hts gX4_findContradiction_X4_cell rfl rfl rfl (by decide +kernel) ⟨Nat.le_of_ble_eq_true rfl, Nat.le_of_ble_eq_true rfl⟩) ⟨KW.blind, fun U9 hU9 hW9 => ⟨rfl, KW.pre hBs hKK hS hP U9 hU9 hW9⟩⟩ rfl rfl hl.1 rfl (lv_room (Nat.le_of_ble_eq_true rfl)) dX4_findContradiction_21 ⟨(Nat.le_of_ble_eq_true rfl), (Nat.le_of_ble_eq_true rfl)⟩) hS (fun r21 m21 H locs hq9 hP hz9 hS => ?_)
        obtain ⟨he9, rfl⟩ := hq9
        rw [he9] at hP
        have hix21 := ix_lt (p := p1) (q := ne p1) (by omega) (by omega)
        refine mw_lald hx hb hK hP 0 (ha) rfl (by omega) (by omega) dX4_findContradiction_24 ?_
        refine kc_i (va_runV (As := [.long (f (ix p1 (ne p1)))]) (rest := []) ⟨hx, hb, hml, hown, hts⟩ (c_X3_isNegative l G B (μ) nn nf (f (ix p1 (ne p1))) (hnn) (Pn.ng (hOk.pn (by omega)))) (cwV 1 hts gX4_findContradiction_X3_isNegative rfl rfl rfl (by decide +kernel) ⟨Nat.le_of_ble_eq_true rfl, Nat.le_of_ble_eq_true rfl⟩) ⟨KW.blind, hP.recv hK rfl (hnn), fun U9 hU9 hW9 => ⟨rfl, KW.pre hBs hKK hS hP U9 hU9 hW9⟩⟩ rfl rfl hl.1 rfl (lv_room (Nat.le_of_ble_eq_true rfl)) dX4_findContradiction_25 ⟨(Nat.le_of_ble_eq_true rfl), (Nat.le_of_ble_eq_true rfl)⟩) hS (fun r25 m25 H locs hq9 hP hz9 hS => ?_)
        obtain ⟨he9, hr25⟩ := hq9
        rw [he9] at hP
        refine lv_if_eq (tgt := 36) hx hb dX4_findContradiction_28 (by decide) (fun hc28 => ?_) (fun hc28 => ?_)
        · refine lv_iinc (v := nI (p1 + 2)) (lv' := [(1, .int (nI (p1 + 2))), (0, .ref h)]) hx hb dX4_findContradiction_36 hl (k := 1) rfl (nI_add _ _) (by decide) rfl (fun ls hl => ?_)
          refine lv_goto (tgt := 2) hx hb dX4_findContradiction_39 (by decide) ?_
          exact ih2 (p1 + 2) (by omega) (by omega) _ _ hP hS ls (lv_sub hl [1, 0] rfl)
        · exact absurd (b1_1 hr25 hc28) (hOk.nn (by omega))
  have hl := lv_entry ([.ref h]) (n := 2) (Nat.le_of_ble_eq_true rfl)
  have he9 : entryFrame m args 2 = entryFrame m ([.ref h] : List Value).toArray 2 := by rw [hargs]
  rw [he9, lg_entry_eq]
  generalize (lg_sl ([.ref h]) ++ List.replicate (2 - (lg_sl ([.ref h])).length) Slot.unset).toArray = ls at hl ⊢
  have hl : lv_has ls 2 [(0, .ref h)] := hl
  refine lv_iconst (v := nI 0) hx hb dX4_findContradiction_0 (by decide) ?_
  refine lv_istore_n (lv' := [(1, .int (nI 0)), (0, .ref h)]) hx hb dX4_findContradiction_1 rfl hl (by decide) rfl (fun ls hl => ?_)
  exact L2 _ 0 (Nat.lt_succ_self _) (by omega) _ _ hP hS ls (lv_sub hl [1, 0] rfl)

abbrev rm_X4_combineSingles : Room := { frames := 3, cells := 0, slots := 0, locals := 69 }
set_option maxHeartbeats 4000000 in
set_option maxRecDepth 100000 in
theorem c_X4_combineSingles (l : Launch) (G : GG) (B : Nat) (μ : mp) (h bn nn la s9 lo : Nat) (nf : List Value) (f g : Nat → Int64) (w9 : Nat → Int32) (hh : μ h = some (.inr (4, [.ref bn, .ref nn, .ref la, .int (nI 0)]))) (hbn : μ bn = some (.inr (0, [.ref nn, .ref s9, .ref lo]))) (hnn : μ nn = some (.inr (3, nf))) (ha : μ la = some (.inl (G.2 0, 78, .inr (.inl f)))) (hs9 : μ s9 = some (.inl (G.2 0, 13, .inr (.inl g)))) (hlo : μ lo = some (.inl (G.2 2, 78, .inl w9))) (hOk : Ok f) (hSn : Sn g) : Met l yX4_combineSingles wsX4_combineSingles rm_X4_combineSingles (va_Pc [.ref h] (KW G B μ)) (va_Qv (fun μ2 => ∃ f9 g9 : Nat → Int64, μ2 = mu (mu μ la (.inl (G.2 0, 78, .inr (.inl f9)))) s9 (.inl (G.2 0, 13, .inr (.inl g9))) ∧ MD f f9 ∧ Sn g9) (BB G B) (fun q => B ≤ q)) 0 0 (fun q => B ≤ q) := by
  refine Met.ofW (cc := cX4_combineSingles) (maxL := 3) (ret := none) (by decide) rfl ?_
  intro p e s m args below meth c s₁ B9 hml hv
  obtain ⟨hargs, hBs, hP, hKK⟩ := hv
  have hx := B9.exec
  have hb := B9.bytes
  have hr := B9.returns
  have hts := atoms_spec (ws := wsX4_combineSingles) B9.pre
  have hown : s.vm.findClass RX4 = some m.cls := findClass_of_methodNamed B9.named
  have hlocks := B9.notSynchronized
  have hK := hKK.k
  have hS : va_S (fun q => B ≤ q) s.heap s.heap [] := va_S.rf
  obtain ⟨Q, hQ⟩ : ∃ Q, Q = MQ below (va_Qv (fun μ2 => ∃ f9 g9 : Nat → Int64, μ2 = mu (mu μ la (.inl (G.2 0, 78, .inr (.inl f9)))) s9 (.inl (G.2 0, 13, .inr (.inl g9))) ∧ MD f f9 ∧ Sn g9) (BB G B) (fun q => B ≤ q)) args s 0 0 (fun q => B ≤ q) := ⟨_, rfl⟩
  rw [← hQ]
  have ne0_1 : h ≠ bn := mp_ne hh hbn (by simp)
  have ne0_2 : h ≠ nn := mp_ne hh hnn (by simp)
  have ne0_3 : h ≠ la := mp_ne hh ha (by simp)
  have ne0_4 : h ≠ s9 := mp_ne hh hs9 (by simp)
  have ne0_5 : h ≠ lo := mp_ne hh hlo (by simp)
  have ne1_2 : bn ≠ nn := mp_ne hbn hnn (by simp)
  have ne1_3 : bn ≠ la := mp_ne hbn ha (by simp)
  have ne1_4 : bn ≠ s9 := mp_ne hbn hs9 (by simp)
  have ne1_5 : bn ≠ lo := mp_ne hbn hlo (by simp)
  have ne2_3 : nn ≠ la := mp_ne hnn ha (by simp)
  have ne2_4 : nn ≠ s9 := mp_ne hnn hs9 (by simp)
  have ne2_5 : nn ≠ lo := mp_ne hnn hlo (by simp)
  have in_X4_combineSingles_X0 : ∀ w ∈ wsX00, w ∈ wsX4_combineSingles := by decide +kernel
  have in_X4_combineSingles_X4 : ∀ w ∈ wsX40, w ∈ wsX4_combineSingles := by decide +kernel
  have hP : mw G.1 vwCl B (mu (mu μ la (.inl (G.2 0, 78, .inr (.inl f)))) s9 (.inl (G.2 0, 13, .inr (.inl g)))) s.heap := mw_eq ((congrArg (fun z => mu z s9 (.inl (G.2 0, 13, .inr (.inl g)))) (mu_i ha)).trans (mu_i hs9)).symm hP
  have L49 : ∀ (N49 : Nat) (p1 : Nat) (g1 : Nat → Int64) (s1 : Nat → Int64) (hN49 : 12 - p1 < N49) (hp : p1 ≤ 12) (hs1 : Sn s1) (hAl : ∀ x, x < 12 → s1 x = hf (f (ix x x))) (hM : MD f g1), ∀ (H : Heap) (locs : List Loc), mw G.1 vwCl B (mu (mu μ la (.inl (G.2 0, 78, .inr (.inl g1)))) s9 (.inl (G.2 0, 13, .inr (.inl s1)))) H → va_S (fun q => B ≤ q) s.heap H locs → ∀ ls : Array Slot, lv_has ls 3 [(0, .ref h), (1, .int (nI p1))] → W p l e rm_X4_combineSingles s m args below meth c H locs 0 0 Q (F0 m 49 ls []) := by
    intro N49
    induction N49 with
    | zero => intro p1 g1 s1 hN49; exact absurd hN49 (Nat.not_lt_zero _)
    | succ N49 ih49 =>
      intro p1 g1 s1 hN49 hp hs1 hAl hM H locs hP hS ls hl
      have L57 : ∀ (N57 : Nat) (q1 : Nat) (g1 : Nat → Int64) (hN57 : p1 + 1 - q1 < N57) (hpo : p1 < 12) (hq : q1 ≤ p1 + 1) (hM : MD f g1), ∀ (H : Heap) (locs : List Loc), mw G.1 vwCl B (mu (mu μ la (.inl (G.2 0, 78, .inr (.inl g1)))) s9 (.inl (G.2 0, 13, .inr (.inl s1)))) H → va_S (fun q => B ≤ q) s.heap H locs → ∀ ls : Array Slot, lv_has ls 3 [(0, .ref h), (1, .int (nI p1)), (2, .int (nI q1))] → W p l e rm_X4_combineSingles s m args below meth c H locs 0 0 Q (F0 m 57 ls []) := by
        intro N57
        induction N57 with
        | zero => intro q1 g1 hN57; exact absurd hN57 (Nat.not_lt_zero _)
        | succ N57 ih57 =>
          intro q1 g1 hN57 hpo hq hM H locs hP hS ls hl
          refine lv_iload_n hx hb dX4_combineSingles_57 rfl (lv_at hl 2 rfl) ?_
          refine lv_iload_n hx hb dX4_combineSingles_58 rfl (lv_at hl 1 rfl) ?_
          refine nv_icmp_gt (tgt := 156) hx hb (by omega) (by omega) dX4_combineSingles_59 (by decide) (fun hc59 => ?_) (fun hc59 => ?_)
          · refine lv_iinc (v := nI (p1 + 1)) (lv' := [(1, .int (nI (p1 + 1))), (0, .ref h), (2, .int (nI q1))]) hx hb dX4_combineSingles_156 hl (k := 1) rfl (nI_add _ _) (by decide) rfl (fun ls hl => ?_)
            refine lv_goto (tgt := 49) hx hb dX4_combineSingles_159 (by decide) ?_
            exact ih49 (p1 + 1) g1 s1 (by omega) (by omega) (hs1) (hAl) (hM) _ _ hP hS ls (lv_sub hl [1, 0] rfl)
          · refine lv_aload_n hx hb dX4_combineSingles_62 rfl (lv_at hl 0 rfl) ?_
            refine mw_get (C := RX4) (T := TX4) (N := 4) hx hb hts in_X4_combineSingles_X4 hown hK hP ((mu_n ne0_4).trans ((mu_n ne0_3).trans (hh))) rfl 0 (by decide) (hts (.fieldLink RX4 9 "OctagonDesk$Shape" "bench" "LOctagonDesk$Bench;") (by decide +kernel)) (fun _ h9 => h9) rfl dX4_combineSingles_63 ?_
            refine mw_get (C := RX0) (T := TX0) (N := 3) hx hb hts in_X4_combineSingles_X0 hown hK hP ((mu_n ne1_4).trans ((mu_n ne1_3).trans (hbn))) rfl 1 (by decide) (hts (.fieldLink RX4 76 "OctagonDesk$Bench" "scratch" "[J") (by decide +kernel)) (fun _ h9 => h9) rfl dX4_combineSingles_66 ?_
            refine lv_iload_n hx hb dX4_combineSingles_69 rfl (lv_at hl 1 rfl) ?_
            refine mw_lald hx hb hK hP 0 (mu_s _ _ _) rfl (by omega) (by omega) dX4_combineSingles_70 ?_
            refine lv_ldc2 (v := (9223372036854775807)) hx hb hown (hts (.constantLong RX4 74 (9223372036854775807)) (by decide +kernel)) dX4_combineSingles_71 ?_
            refine nl_if_eq (tgt := 156) hx hb dX4_combineSingles_74 dX4_combineSingles_75 (by decide) (fun hc74 => ?_) (fun hc74 => ?_)
            · refine lv_iinc (v := nI (p1 + 1)) (lv' := [(1, .int (nI (p1 + 1))), (0, .ref h), (2, .int (nI q1))]) hx hb dX4_combineSingles_156 hl (k := 1) rfl (nI_add _ _) (by decide) rfl (fun ls hl => ?_)
              refine lv_goto (tgt := 49) hx hb dX4_combineSingles_159 (by decide) ?_
              exact ih49 (p1 + 1) g1 s1 (by omega) (by omega) (hs1) (hAl) (hM) _ _ hP hS ls (lv_sub hl [1, 0] rfl)
            · refine lv_aload_n hx hb dX4_combineSingles_78 rfl (lv_at hl 0 rfl) ?_
              refine mw_get (C := RX4) (T := TX4) (N := 4) hx hb hts in_X4_combineSingles_X4 hown hK hP ((mu_n ne0_4).trans ((mu_n ne0_3).trans (hh))) rfl 1 (by decide) (hts (.fieldLink RX4 21 "OctagonDesk$Shape" "numbers" "LOctagonDesk$Numbers;") (by decide +kernel)) (fun _ h9 => h9) rfl dX4_combineSingles_79 ?_
              refine lv_aload_n hx hb dX4_combineSingles_82 rfl (lv_at hl 0 rfl) ?_
              refine mw_get (C := RX4) (T := TX4) (N := 4) hx hb hts in_X4_combineSingles_X4 hown hK hP ((mu_n ne0_4).trans ((mu_n ne0_3).trans (hh))) rfl 0 (by decide) (hts (.fieldLink RX4 9 "OctagonDesk$Shape" "bench" "LOctagonDesk$Bench;") (by decide +kernel)) (fun _ h9 => h9) rfl dX4_combineSingles_83 ?_
              refine mw_get (C := RX0) (T := TX0) (N := 3) hx hb hts in_X4_combineSingles_X0 hown hK hP ((mu_n ne1_4).trans ((mu_n ne1_3).trans (hbn))) rfl 1 (by decide) (hts (.fieldLink RX4 76 "OctagonDesk$Bench" "scratch" "[J") (by decide +kernel)) (fun _ h9 => h9) rfl dX4_combineSingles_86 ?_
              refine lv_iload_n hx hb dX4_combineSingles_89 rfl (lv_at hl 1 rfl) ?_
              refine mw_lald hx hb hK hP 0 (mu_s _ _ _) rfl (by omega) (by omega) dX4_combineSingles_90 ?_
              refine lv_aload_n hx hb dX4_combineSingles_91 rfl (lv_at hl 0 rfl) ?_
              refine mw_get (C := RX4) (T := TX4) (N := 4) hx hb hts in_X4_combineSingles_X4 hown hK hP ((mu_n ne0_4).trans ((mu_n ne0_3).trans (hh))) rfl 0 (by decide) (hts (.fieldLink RX4 9 "OctagonDesk$Shape" "bench" "LOctagonDesk$Bench;") (by decide +kernel)) (fun _ h9 => h9) rfl dX4_combineSingles_92 ?_
              refine mw_get (C := RX0) (T := TX0) (N := 3) hx hb hts in_X4_combineSingles_X0 hown hK hP ((mu_n ne1_4).trans ((mu_n ne1_3).trans (hbn))) rfl 1 (by decide) (hts (.fieldLink RX4 76 "OctagonDesk$Bench" "scratch" "[J") (by decide +kernel)) (fun _ h9 => h9) rfl dX4_combineSingles_95 ?_
              refine lv_iload_n hx hb dX4_combineSingles_98 rfl (lv_at hl 2 rfl) ?_
              refine mw_lald hx hb hK hP 0 (mu_s _ _ _) rfl (by omega) (by omega) dX4_combineSingles_99 ?_
              refine lv_aload_n hx hb dX4_combineSingles_100 rfl (lv_at hl 0 rfl) ?_
              refine mw_get (C := RX4) (T := TX4) (N := 4) hx hb hts in_X4_combineSingles_X4 hown hK hP ((mu_n ne0_4).trans ((mu_n ne0_3).trans (hh))) rfl 2 (by decide) (hts (.fieldLink RX4 22 "OctagonDesk$Shape" "cells" "[J") (by decide +kernel)) (fun _ h9 => h9) rfl dX4_combineSingles_101 ?_
              refine lv_iload_n hx hb dX4_combineSingles_104 rfl (lv_at hl 1 rfl) ?_
              refine lv_iload_n hx hb dX4_combineSingles_105 rfl (lv_at hl 2 rfl) ?_
              refine kc_i (va_runS (As := [.int (nI p1), .int (nI q1)]) (rest := [.ref la, .long (s1 q1), .long (s1 p1), .ref nn]) ⟨hx, hb, hml, hown, hts⟩ (c_X4_cell l G B (mu (mu μ la (.inl (G.2 0, 78, .inr (.inl g1)))) s9 (.inl (G.2 0, 13, .inr (.inl s1)))) p1 q1 (by omega) (by omega)) (va_cwS 2 hts gX4_combineSingles_X4_cell rfl rfl rfl (by decide +kernel) ⟨Nat.le_of_ble_eq_true rfl, Nat.le_of_ble_eq_true rfl⟩) ⟨KW.blind, fun U9 hU9 hW9 => ⟨rfl, KW.pre hBs hKK hS hP U9 hU9 hW9⟩⟩ rfl rfl hl.1 rfl (lv_room (Nat.le_of_ble_eq_true rfl)) dX4_combineSingles_106 ⟨(Nat.le_of_ble_eq_true rfl), (Nat.le_of_ble_eq_true rfl)⟩) hS (fun r106 m106 H locs hq9 hP hz9 hS => ?_)
              obtain ⟨he9, rfl⟩ := hq9
              rw [he9] at hP
              have hix106 := ix_lt (p := p1) (q := q1) (by omega) (by omega)
              refine mw_lald hx hb hK hP 0 ((mu_n ((mp_ne ha hs9 (by simp)))).trans (mu_s _ _ _)) rfl (by omega) (by omega) dX4_combineSingles_109 ?_
              refine kc_i (va_runV (As := [.long (s1 p1), .long (s1 q1), .long (g1 (ix p1 q1))]) (rest := []) ⟨hx, hb, hml, hown, hts⟩ (c_X3_isSumLess l G B (mu (mu μ la (.inl (G.2 0, 78, .inr (.inl g1)))) s9 (.inl (G.2 0, 13, .inr (.inl s1)))) nn nf (s1 p1) (s1 q1) (g1 (ix p1 q1)) ((mu_n ne2_4).trans ((mu_n ne2_3).trans (hnn))) (hs1 _ (by omega)) (hs1 _ (by omega)) (Pn.ng (hM.pn (by omega)))) (cwV 3 hts gX4_combineSingles_X3_isSumLess rfl rfl rfl (by decide +kernel) ⟨Nat.le_of_ble_eq_true rfl, Nat.le_of_ble_eq_true rfl⟩) ⟨KW.blind, hP.recv hK rfl ((mu_n ne2_4).trans ((mu_n ne2_3).trans (hnn))), fun U9 hU9 hW9 => ⟨rfl, KW.pre hBs hKK hS hP U9 hU9 hW9⟩⟩ rfl rfl hl.1 rfl (lv_room (Nat.le_of_ble_eq_true rfl)) dX4_combineSingles_110 ⟨(Nat.le_of_ble_eq_true rfl), (Nat.le_of_ble_eq_true rfl)⟩) hS (fun r110 m110 H locs hq9 hP hz9 hS => ?_)
              obtain ⟨he9, hr110⟩ := hq9
              rw [he9] at hP
              refine lv_if_eq (tgt := 150) hx hb dX4_combineSingles_113 (by decide) (fun hc113 => ?_) (fun hc113 => ?_)
              · refine lv_iinc (v := nI (q1 + 1)) (lv' := [(2, .int (nI (q1 + 1))), (0, .ref h), (1, .int (nI p1))]) hx hb dX4_combineSingles_150 hl (k := 2) rfl (nI_add _ _) (by decide) rfl (fun ls hl => ?_)
                refine lv_goto (tgt := 57) hx hb dX4_combineSingles_153 (by decide) ?_
                exact ih57 (q1 + 1) g1 (by omega) (by omega) (by omega) (hM) _ _ hP hS ls (lv_sub hl [1, 2, 0] rfl)
              · refine lv_aload_n hx hb dX4_combineSingles_116 rfl (lv_at hl 0 rfl) ?_
                refine lv_iload_n hx hb dX4_combineSingles_117 rfl (lv_at hl 1 rfl) ?_
                refine lv_iload_n hx hb dX4_combineSingles_118 rfl (lv_at hl 2 rfl) ?_
                refine kc_i (va_runS (As := [.int (nI p1), .int (nI q1)]) (rest := [.ref h]) ⟨hx, hb, hml, hown, hts⟩ (c_X4_cell l G B (mu (mu μ la (.inl (G.2 0, 78, .inr (.inl g1)))) s9 (.inl (G.2 0, 13, .inr (.inl s1)))) p1 q1 (by omega) (by omega)) (va_cwS 2 hts gX4_combineSingles_X4_cell rfl rfl rfl (by decide +kernel) ⟨Nat.le_of_ble_eq_true rfl, Nat.le_of_ble_eq_true rfl⟩) ⟨KW.blind, fun U9 hU9 hW9 => ⟨rfl, KW.pre hBs hKK hS hP U9 hU9 hW9⟩⟩ rfl rfl hl.1 rfl (lv_room (Nat.le_of_ble_eq_true rfl)) dX4_combineSingles_119 ⟨(Nat.le_of_ble_eq_true rfl), (Nat.le_of_ble_eq_true rfl)⟩) hS (fun r119 m119 H locs hq9 hP hz9 hS => ?_)
                obtain ⟨he9, rfl⟩ := hq9
                rw [he9] at hP
                have hix119 := ix_lt (p := p1) (q := q1) (by omega) (by omega)
                refine lv_aload_n hx hb dX4_combineSingles_122 rfl (lv_at hl 0 rfl) ?_
                refine mw_get (C := RX4) (T := TX4) (N := 4) hx hb hts in_X4_combineSingles_X4 hown hK hP ((mu_n ne0_4).trans ((mu_n ne0_3).trans (hh))) rfl 1 (by decide) (hts (.fieldLink RX4 21 "OctagonDesk$Shape" "numbers" "LOctagonDesk$Numbers;") (by decide +kernel)) (fun _ h9 => h9) rfl dX4_combineSingles_123 ?_
                refine lv_aload_n hx hb dX4_combineSingles_126 rfl (lv_at hl 0 rfl) ?_
                refine mw_get (C := RX4) (T := TX4) (N := 4) hx hb hts in_X4_combineSingles_X4 hown hK hP ((mu_n ne0_4).trans ((mu_n ne0_3).trans (hh))) rfl 0 (by decide) (hts (.fieldLink RX4 9 "OctagonDesk$Shape" "bench" "LOctagonDesk$Bench;") (by decide +kernel)) (fun _ h9 => h9) rfl dX4_combineSingles_127 ?_
                refine mw_get (C := RX0) (T := TX0) (N := 3) hx hb hts in_X4_combineSingles_X0 hown hK hP ((mu_n ne1_4).trans ((mu_n ne1_3).trans (hbn))) rfl 1 (by decide) (hts (.fieldLink RX4 76 "OctagonDesk$Bench" "scratch" "[J") (by decide +kernel)) (fun _ h9 => h9) rfl dX4_combineSingles_130 ?_
                refine lv_iload_n hx hb dX4_combineSingles_133 rfl (lv_at hl 1 rfl) ?_
                refine mw_lald hx hb hK hP 0 (mu_s _ _ _) rfl (by omega) (by omega) dX4_combineSingles_134 ?_
                refine lv_aload_n hx hb dX4_combineSingles_135 rfl (lv_at hl 0 rfl) ?_
                refine mw_get (C := RX4) (T := TX4) (N := 4) hx hb hts in_X4_combineSingles_X4 hown hK hP ((mu_n ne0_4).trans ((mu_n ne0_3).trans (hh))) rfl 0 (by decide) (hts (.fieldLink RX4 9 "OctagonDesk$Shape" "bench" "LOctagonDesk$Bench;") (by decide +kernel)) (fun _ h9 => h9) rfl dX4_combineSingles_136 ?_
                refine mw_get (C := RX0) (T := TX0) (N := 3) hx hb hts in_X4_combineSingles_X0 hown hK hP ((mu_n ne1_4).trans ((mu_n ne1_3).trans (hbn))) rfl 1 (by decide) (hts (.fieldLink RX4 76 "OctagonDesk$Bench" "scratch" "[J") (by decide +kernel)) (fun _ h9 => h9) rfl dX4_combineSingles_139 ?_
                refine lv_iload_n hx hb dX4_combineSingles_142 rfl (lv_at hl 2 rfl) ?_
                refine mw_lald hx hb hK hP 0 (mu_s _ _ _) rfl (by omega) (by omega) dX4_combineSingles_143 ?_
                refine kc_l (va_runV (As := [.long (s1 p1), .long (s1 q1)]) (rest := [.int (nI (ix p1 q1)), .ref h]) ⟨hx, hb, hml, hown, hts⟩ (c_X3_sum l G B (mu (mu μ la (.inl (G.2 0, 78, .inr (.inl g1)))) s9 (.inl (G.2 0, 13, .inr (.inl s1)))) nn nf (s1 p1) (s1 q1) ((mu_n ne2_4).trans ((mu_n ne2_3).trans (hnn))) (hs1 _ (by omega)) (hs1 _ (by omega))) (cwV 2 hts gX4_combineSingles_X3_sum rfl rfl rfl (by decide +kernel) ⟨Nat.le_of_ble_eq_true rfl, Nat.le_of_ble_eq_true rfl⟩) ⟨KW.blind, hP.recv hK rfl ((mu_n ne2_4).trans ((mu_n ne2_3).trans (hnn))), fun U9 hU9 hW9 => ⟨rfl, KW.pre hBs hKK hS hP U9 hU9 hW9⟩⟩ rfl rfl hl.1 rfl (lv_room (Nat.le_of_ble_eq_true rfl)) dX4_combineSingles_144 ⟨(Nat.le_of_ble_eq_true rfl), (Nat.le_of_ble_eq_true rfl)⟩) hS (fun r144 m144 H locs hq9 hP hz9 hS => ?_)
                obtain ⟨he9, hr144⟩ := hq9
                rw [he9] at hP
                refine kc_v (va_runV (As := [.int (nI (ix p1 q1)), .long r144]) (rest := []) ⟨hx, hb, hml, hown, hts⟩ (c_X4_put l G B (mu (mu μ la (.inl (G.2 0, 78, .inr (.inl g1)))) s9 (.inl (G.2 0, 13, .inr (.inl s1)))) h bn nn la s9 lo 0 nf g1 s1 w9 (ix p1 q1) r144 ((mu_n ne0_4).trans ((mu_n ne0_3).trans (hh))) ((mu_n ne1_4).trans ((mu_n ne1_3).trans (hbn))) ((mu_n ne2_4).trans ((mu_n ne2_3).trans (hnn))) ((mu_n ((mp_ne ha hs9 (by simp)))).trans (mu_s _ _ _)) (mu_s _ _ _) ((mu_n ((mp_ne hlo hs9 (by simp)))).trans ((mu_n ((mp_ne hlo ha (by simp)))).trans (hlo))) (by omega) (Pn.ng (hM.pn (by omega))) (by rw [hr144]; exact sm_ng (hs1 _ (by omega)) (hs1 _ (by omega)))) (cwV 2 hts gX4_combineSingles_X4_put rfl rfl rfl (by decide +kernel) ⟨Nat.le_of_ble_eq_true rfl, Nat.le_of_ble_eq_true rfl⟩) ⟨KW.blind, hP.recv hK rfl ((mu_n ne0_4).trans ((mu_n ne0_3).trans (hh))), fun U9 hU9 hW9 => ⟨rfl, KW.pre hBs hKK hS hP U9 hU9 hW9⟩⟩ rfl rfl hl.1 rfl (lv_room (Nat.le_of_ble_eq_true rfl)) dX4_combineSingles_147 ⟨(Nat.le_of_ble_eq_true rfl), (Nat.le_of_ble_eq_true rfl)⟩) hS (fun m147 H locs hq9 hP hz9 hS => ?_)
                rw [hq9] at hP
                have hP : mw G.1 vwCl B (mu (mu μ la (.inl (G.2 0, 78, .inr (.inl (vp_updL g1 (ix p1 q1) r144))))) s9 (.inl (G.2 0, 13, .inr (.inl s1)))) _ := mw_eq ((mu_c _ _ ((mp_ne hs9 ha (by simp)))).trans (congrArg (fun z => mu z s9 (.inl (G.2 0, 13, .inr (.inl s1)))) (mu_u _ _ _ _))) hP
                refine lv_iinc (v := nI (q1 + 1)) (lv' := [(2, .int (nI (q1 + 1))), (0, .ref h), (1, .int (nI p1))]) hx hb dX4_combineSingles_150 hl (k := 2) rfl (nI_add _ _) (by decide) rfl (fun ls hl => ?_)
                refine lv_goto (tgt := 57) hx hb dX4_combineSingles_153 (by decide) ?_
                exact ih57 (q1 + 1) (vp_updL g1 (ix p1 q1) r144) (by omega) (by omega) (by omega) (cs_l (by omega) (by omega) hM hAl hr110 hc113 hr144) _ _ hP hS ls (lv_sub hl [1, 2, 0] rfl)
      refine lv_iload_n hx hb dX4_combineSingles_49 rfl (lv_at hl 1 rfl) ?_
      refine lv_bipush (v := nI 12) hx hb dX4_combineSingles_50 (by decide) ?_
      refine nv_icmp_ge (tgt := 162) hx hb (by omega) (by omega) dX4_combineSingles_52 (by decide) (fun hc52 => ?_) (fun hc52 => ?_)
      · refine lv_aload_n hx hb dX4_combineSingles_162 rfl (lv_at hl 0 rfl) ?_
        refine kc_v (va_runV (As := []) (rest := []) ⟨hx, hb, hml, hown, hts⟩ (c_X4_findContradiction l G B (mu (mu μ la (.inl (G.2 0, 78, .inr (.inl g1)))) s9 (.inl (G.2 0, 13, .inr (.inl s1)))) h bn nn la s9 lo nf g1 s1 w9  ((mu_n ne0_4).trans ((mu_n ne0_3).trans (hh))) ((mu_n ne1_4).trans ((mu_n ne1_3).trans (hbn))) ((mu_n ne2_4).trans ((mu_n ne2_3).trans (hnn))) ((mu_n ((mp_ne ha hs9 (by simp)))).trans (mu_s _ _ _)) (mu_s _ _ _) ((mu_n ((mp_ne hlo hs9 (by simp)))).trans ((mu_n ((mp_ne hlo ha (by simp)))).trans (hlo))) (hM.ok)) (cwV 0 hts gX4_combineSingles_X4_findContradiction rfl rfl rfl (by decide +kernel) ⟨Nat.le_of_ble_eq_true rfl, Nat.le_of_ble_eq_true rfl⟩) ⟨KW.blind, hP.recv hK rfl ((mu_n ne0_4).trans ((mu_n ne0_3).trans (hh))), fun U9 hU9 hW9 => ⟨rfl, KW.pre hBs hKK hS hP U9 hU9 hW9⟩⟩ rfl rfl hl.1 rfl (lv_room (Nat.le_of_ble_eq_true rfl)) dX4_combineSingles_163 ⟨(Nat.le_of_ble_eq_true rfl), (Nat.le_of_ble_eq_true rfl)⟩) hS (fun m163 H locs hq9 hP hz9 hS => ?_)
        rw [hq9] at hP
        rw [hQ]
        exact W.vret hx hb hr (fun t99 ht99 hW99 => ⟨⟨mu (mu μ la (.inl (G.2 0, 78, .inr (.inl g1)))) s9 (.inl (G.2 0, 13, .inr (.inl s1))), rfl, (⟨_, _, rfl, hM, hs1⟩), by show mw _ _ _ _ t99.heap; rw [ht99]; exact hP⟩, hS.F ht99⟩) hS.2.2 dX4_combineSingles_166
      · refine lv_iconst (v := nI 0) hx hb dX4_combineSingles_55 (by decide) ?_
        refine lv_istore_n (lv' := [(2, .int (nI 0)), (0, .ref h), (1, .int (nI p1))]) hx hb dX4_combineSingles_56 rfl hl (by decide) rfl (fun ls hl => ?_)
        exact L57 _ 0 g1 (Nat.lt_succ_self _) (by omega) (by omega) (hM) _ _ hP hS ls (lv_sub hl [1, 2, 0] rfl)
  have L10 : ∀ (N10 : Nat) (p1 : Nat) (s1 : Nat → Int64) (hN10 : 12 - p1 < N10) (hp : p1 ≤ 12) (hs1 : Sn s1) (hAl : ∀ x, x < p1 → s1 x = hf (f (ix x x))), ∀ (H : Heap) (locs : List Loc), mw G.1 vwCl B (mu (mu μ la (.inl (G.2 0, 78, .inr (.inl f)))) s9 (.inl (G.2 0, 13, .inr (.inl s1)))) H → va_S (fun q => B ≤ q) s.heap H locs → ∀ ls : Array Slot, lv_has ls 3 [(0, .ref h), (1, .int (nI p1))] → W p l e rm_X4_combineSingles s m args below meth c H locs 0 0 Q (F0 m 10 ls []) := by
    intro N10
    induction N10 with
    | zero => intro p1 s1 hN10; exact absurd hN10 (Nat.not_lt_zero _)
    | succ N10 ih10 =>
      intro p1 s1 hN10 hp hs1 hAl H locs hP hS ls hl
      refine lv_iload_n hx hb dX4_combineSingles_10 rfl (lv_at hl 1 rfl) ?_
      refine lv_bipush (v := nI 12) hx hb dX4_combineSingles_11 (by decide) ?_
      refine nv_icmp_ge (tgt := 47) hx hb (by omega) (by omega) dX4_combineSingles_13 (by decide) (fun hc13 => ?_) (fun hc13 => ?_)
      · refine lv_iconst (v := nI 0) hx hb dX4_combineSingles_47 (by decide) ?_
        refine lv_istore_n (lv' := [(1, .int (nI 0)), (0, .ref h)]) hx hb dX4_combineSingles_48 rfl hl (by decide) rfl (fun ls hl => ?_)
        exact L49 _ 0 f s1 (Nat.lt_succ_self _) (by omega) (hs1) (by have e : p1 = 12 := (by omega); subst e; exact hAl) (MD.rf hOk) _ _ hP hS ls (lv_sub hl [1, 0] rfl)
      · refine lv_aload_n hx hb dX4_combineSingles_16 rfl (lv_at hl 0 rfl) ?_
        refine mw_get (C := RX4) (T := TX4) (N := 4) hx hb hts in_X4_combineSingles_X4 hown hK hP ((mu_n ne0_4).trans ((mu_n ne0_3).trans (hh))) rfl 0 (by decide) (hts (.fieldLink RX4 9 "OctagonDesk$Shape" "bench" "LOctagonDesk$Bench;") (by decide +kernel)) (fun _ h9 => h9) rfl dX4_combineSingles_17 ?_
        refine lv_iload_n hx hb dX4_combineSingles_20 rfl (lv_at hl 1 rfl) ?_
        refine lv_aload_n hx hb dX4_combineSingles_21 rfl (lv_at hl 0 rfl) ?_
        refine mw_get (C := RX4) (T := TX4) (N := 4) hx hb hts in_X4_combineSingles_X4 hown hK hP ((mu_n ne0_4).trans ((mu_n ne0_3).trans (hh))) rfl 1 (by decide) (hts (.fieldLink RX4 21 "OctagonDesk$Shape" "numbers" "LOctagonDesk$Numbers;") (by decide +kernel)) (fun _ h9 => h9) rfl dX4_combineSingles_22 ?_
        refine lv_aload_n hx hb dX4_combineSingles_25 rfl (lv_at hl 0 rfl) ?_
        refine mw_get (C := RX4) (T := TX4) (N := 4) hx hb hts in_X4_combineSingles_X4 hown hK hP ((mu_n ne0_4).trans ((mu_n ne0_3).trans (hh))) rfl 2 (by decide) (hts (.fieldLink RX4 22 "OctagonDesk$Shape" "cells" "[J") (by decide +kernel)) (fun _ h9 => h9) rfl dX4_combineSingles_26 ?_
        refine lv_iload_n hx hb dX4_combineSingles_29 rfl (lv_at hl 1 rfl) ?_
        refine lv_iload_n hx hb dX4_combineSingles_30 rfl (lv_at hl 1 rfl) ?_
        refine kc_i (va_runS (As := [.int (nI p1), .int (nI p1)]) (rest := [.ref la, .ref nn, .int (nI p1), .ref bn]) ⟨hx, hb, hml, hown, hts⟩ (c_X4_cell l G B (mu (mu μ la (.inl (G.2 0, 78, .inr (.inl f)))) s9 (.inl (G.2 0, 13, .inr (.inl s1)))) p1 p1 (by omega) (by omega)) (va_cwS 2 hts gX4_combineSingles_X4_cell rfl rfl rfl (by decide +kernel) ⟨Nat.le_of_ble_eq_true rfl, Nat.le_of_ble_eq_true rfl⟩) ⟨KW.blind, fun U9 hU9 hW9 => ⟨rfl, KW.pre hBs hKK hS hP U9 hU9 hW9⟩⟩ rfl rfl hl.1 rfl (lv_room (Nat.le_of_ble_eq_true rfl)) dX4_combineSingles_31 ⟨(Nat.le_of_ble_eq_true rfl), (Nat.le_of_ble_eq_true rfl)⟩) hS (fun r31 m31 H locs hq9 hP hz9 hS => ?_)
        obtain ⟨he9, rfl⟩ := hq9
        rw [he9] at hP
        have hix31 := ix_lt (p := p1) (q := p1) (by omega) (by omega)
        refine mw_lald hx hb hK hP 0 ((mu_n ((mp_ne ha hs9 (by simp)))).trans (mu_s _ _ _)) rfl (by omega) (by omega) dX4_combineSingles_34 ?_
        refine kc_l (va_runV (As := [.long (f (ix p1 p1))]) (rest := [.int (nI p1), .ref bn]) ⟨hx, hb, hml, hown, hts⟩ (c_X3_half l G B (mu (mu μ la (.inl (G.2 0, 78, .inr (.inl f)))) s9 (.inl (G.2 0, 13, .inr (.inl s1)))) nn nf (f (ix p1 p1)) ((mu_n ne2_4).trans ((mu_n ne2_3).trans (hnn))) (Pn.ng (hOk.pn (by omega)))) (cwV 1 hts gX4_combineSingles_X3_half rfl rfl rfl (by decide +kernel) ⟨Nat.le_of_ble_eq_true rfl, Nat.le_of_ble_eq_true rfl⟩) ⟨KW.blind, hP.recv hK rfl ((mu_n ne2_4).trans ((mu_n ne2_3).trans (hnn))), fun U9 hU9 hW9 => ⟨rfl, KW.pre hBs hKK hS hP U9 hU9 hW9⟩⟩ rfl rfl hl.1 rfl (lv_room (Nat.le_of_ble_eq_true rfl)) dX4_combineSingles_35 ⟨(Nat.le_of_ble_eq_true rfl), (Nat.le_of_ble_eq_true rfl)⟩) hS (fun r35 m35 H locs hq9 hP hz9 hS => ?_)
        obtain ⟨he9, hr35⟩ := hq9
        rw [he9] at hP
        refine kc_v (va_runV (As := [.int (nI p1), .long r35]) (rest := []) ⟨hx, hb, hml, hown, hts⟩ (c_X0_note l G B (mu (mu μ la (.inl (G.2 0, 78, .inr (.inl f)))) s9 (.inl (G.2 0, 13, .inr (.inl s1)))) bn nn s9 lo nf s1 p1 r35 ((mu_n ne1_4).trans ((mu_n ne1_3).trans (hbn))) ((mu_n ne2_4).trans ((mu_n ne2_3).trans (hnn))) (mu_s _ _ _) (by omega) (Pn.ng (hs1 _ (by omega))) (Pn.ng (by rw [hr35]; exact hf_pn (hOk.pn (by omega))))) (cwV 2 hts gX4_combineSingles_X0_note rfl rfl rfl (by decide +kernel) ⟨Nat.le_of_ble_eq_true rfl, Nat.le_of_ble_eq_true rfl⟩) ⟨KW.blind, hP.recv hK rfl ((mu_n ne1_4).trans ((mu_n ne1_3).trans (hbn))), fun U9 hU9 hW9 => ⟨rfl, KW.pre hBs hKK hS hP U9 hU9 hW9⟩⟩ rfl rfl hl.1 rfl (lv_room (Nat.le_of_ble_eq_true rfl)) dX4_combineSingles_38 ⟨(Nat.le_of_ble_eq_true rfl), (Nat.le_of_ble_eq_true rfl)⟩) hS (fun m38 H locs hq9 hP hz9 hS => ?_)
        rw [hq9] at hP
        have hP : mw G.1 vwCl B (mu (mu μ la (.inl (G.2 0, 78, .inr (.inl f)))) s9 (.inl (G.2 0, 13, .inr (.inl (vp_updL s1 p1 r35))))) _ := mw_eq (mu_u _ _ _ _) hP
        refine lv_iinc (v := nI (p1 + 1)) (lv' := [(1, .int (nI (p1 + 1))), (0, .ref h)]) hx hb dX4_combineSingles_41 hl (k := 1) rfl (nI_add _ _) (by decide) rfl (fun ls hl => ?_)
        refine lv_goto (tgt := 10) hx hb dX4_combineSingles_44 (by decide) ?_
        exact ih10 (p1 + 1) (vp_updL s1 p1 r35) (by omega) (by omega) (hs1.upd (by rw [hr35]; exact hf_pn (hOk.pn (by omega)))) (cs_h hAl hr35) _ _ hP hS ls (lv_sub hl [1, 0] rfl)
  have hl := lv_entry ([.ref h]) (n := 3) (Nat.le_of_ble_eq_true rfl)
  have he9 : entryFrame m args 3 = entryFrame m ([.ref h] : List Value).toArray 3 := by rw [hargs]
  rw [he9, lg_entry_eq]
  generalize (lg_sl ([.ref h]) ++ List.replicate (3 - (lg_sl ([.ref h])).length) Slot.unset).toArray = ls at hl ⊢
  have hl : lv_has ls 3 [(0, .ref h)] := hl
  refine lv_aload_n hx hb dX4_combineSingles_0 rfl (lv_at hl 0 rfl) ?_
  refine mw_get (C := RX4) (T := TX4) (N := 4) hx hb hts in_X4_combineSingles_X4 hown hK hP ((mu_n ne0_4).trans ((mu_n ne0_3).trans (hh))) rfl 3 (by decide) (hts (.fieldLink RX4 26 "OctagonDesk$Shape" "empty" "Z") (by decide +kernel)) (fun _ h9 => h9) rfl dX4_combineSingles_1 ?_
  refine lv_if_eq (tgt := 8) hx hb dX4_combineSingles_4 (by decide) (fun hc4 => ?_) (fun hc4 => ?_)
  · refine lv_iconst (v := nI 0) hx hb dX4_combineSingles_8 (by decide) ?_
    refine lv_istore_n (lv' := [(1, .int (nI 0)), (0, .ref h)]) hx hb dX4_combineSingles_9 rfl hl (by decide) rfl (fun ls hl => ?_)
    exact L10 _ 0 g (Nat.lt_succ_self _) (by omega) (hSn) (fun x h9 => absurd h9 (by omega)) _ _ hP hS ls (lv_sub hl [1, 0] rfl)
  · exact absurd rfl hc4

abbrev rm_X4_passThrough : Room := { frames := 3, cells := 0, slots := 0, locals := 69 }
set_option maxHeartbeats 4000000 in
set_option maxRecDepth 100000 in
theorem c_X4_passThrough (l : Launch) (G : GG) (B : Nat) (μ : mp) (h bn nn la s9 lo : Nat) (nf : List Value) (f g : Nat → Int64) (w9 : Nat → Int32) (p9 q9 : Nat) (hh : μ h = some (.inr (4, [.ref bn, .ref nn, .ref la, .int (nI 0)]))) (hbn : μ bn = some (.inr (0, [.ref nn, .ref s9, .ref lo]))) (hnn : μ nn = some (.inr (3, nf))) (ha : μ la = some (.inl (G.2 0, 78, .inr (.inl f)))) (hs9 : μ s9 = some (.inl (G.2 0, 13, .inr (.inl g)))) (hlo : μ lo = some (.inl (G.2 2, 78, .inl w9))) (hp9 : p9 < 12) (hq9a : q9 < 12) (hOk : Ok f) (hSn : Sn g) : Met l yX4_passThrough wsX4_passThrough rm_X4_passThrough (va_Pc [.ref h, .int (nI p9), .int (nI q9)] (KW G B μ)) (va_Qv (fun μ2 => ∃ f9 g9 : Nat → Int64, μ2 = mu (mu μ la (.inl (G.2 0, 78, .inr (.inl f9)))) s9 (.inl (G.2 0, 13, .inr (.inl g9))) ∧ MD f f9 ∧ Sn g9) (BB G B) (fun q => B ≤ q)) 0 0 (fun q => B ≤ q) := by
  refine Met.ofW (cc := cX4_passThrough) (maxL := 9) (ret := none) (by decide) rfl ?_
  intro p e s m args below meth c s₁ B9 hml hv
  obtain ⟨hargs, hBs, hP, hKK⟩ := hv
  have hx := B9.exec
  have hb := B9.bytes
  have hr := B9.returns
  have hts := atoms_spec (ws := wsX4_passThrough) B9.pre
  have hown : s.vm.findClass RX4 = some m.cls := findClass_of_methodNamed B9.named
  have hlocks := B9.notSynchronized
  have hK := hKK.k
  have hS : va_S (fun q => B ≤ q) s.heap s.heap [] := va_S.rf
  obtain ⟨Q, hQ⟩ : ∃ Q, Q = MQ below (va_Qv (fun μ2 => ∃ f9 g9 : Nat → Int64, μ2 = mu (mu μ la (.inl (G.2 0, 78, .inr (.inl f9)))) s9 (.inl (G.2 0, 13, .inr (.inl g9))) ∧ MD f f9 ∧ Sn g9) (BB G B) (fun q => B ≤ q)) args s 0 0 (fun q => B ≤ q) := ⟨_, rfl⟩
  rw [← hQ]
  have ne0_1 : h ≠ bn := mp_ne hh hbn (by simp)
  have ne0_2 : h ≠ nn := mp_ne hh hnn (by simp)
  have ne0_3 : h ≠ la := mp_ne hh ha (by simp)
  have ne0_4 : h ≠ s9 := mp_ne hh hs9 (by simp)
  have ne0_5 : h ≠ lo := mp_ne hh hlo (by simp)
  have ne1_2 : bn ≠ nn := mp_ne hbn hnn (by simp)
  have ne1_3 : bn ≠ la := mp_ne hbn ha (by simp)
  have ne1_4 : bn ≠ s9 := mp_ne hbn hs9 (by simp)
  have ne1_5 : bn ≠ lo := mp_ne hbn hlo (by simp)
  have ne2_3 : nn ≠ la := mp_ne hnn ha (by simp)
  have ne2_4 : nn ≠ s9 := mp_ne hnn hs9 (by simp)
  have ne2_5 : nn ≠ lo := mp_ne hnn hlo (by simp)
  have in_X4_passThrough_X0 : ∀ w ∈ wsX00, w ∈ wsX4_passThrough := by decide +kernel
  have in_X4_passThrough_X4 : ∀ w ∈ wsX40, w ∈ wsX4_passThrough := by decide +kernel
  have hP : mw G.1 vwCl B (mu (mu μ la (.inl (G.2 0, 78, .inr (.inl f)))) s9 (.inl (G.2 0, 13, .inr (.inl g)))) s.heap := mw_eq ((congrArg (fun z => mu z s9 (.inl (G.2 0, 13, .inr (.inl g)))) (mu_i ha)).trans (mu_i hs9)).symm hP
  have L52 : ∀ (N52 : Nat) (i1 : Nat) (g1 : Nat → Int64) (s1 : Nat → Int64) (hN52 : 12 - i1 < N52) (hi : i1 ≤ 12) (hs1 : Sn s1) (hM : MD f g1), ∀ (H : Heap) (locs : List Loc), mw G.1 vwCl B (mu (mu μ la (.inl (G.2 0, 78, .inr (.inl g1)))) s9 (.inl (G.2 0, 13, .inr (.inl s1)))) H → va_S (fun q => B ≤ q) s.heap H locs → ∀ ls : Array Slot, lv_has ls 9 [(0, .ref h), (1, .int (nI p9)), (2, .int (nI q9)), (3, .int (nI i1))] → W p l e rm_X4_passThrough s m args below meth c H locs 0 0 Q (F0 m 52 ls []) := by
    intro N52
    induction N52 with
    | zero => intro i1 g1 s1 hN52; exact absurd hN52 (Nat.not_lt_zero _)
    | succ N52 ih52 =>
      intro i1 g1 s1 hN52 hi hs1 hM H locs hP hS ls hl
      have L112 : ∀ (N112 : Nat) (j1 : Nat) (g1 : Nat → Int64) (s1 : Nat → Int64) (t1 : Int64) (hN112 : 12 - j1 < N112) (hpo : i1 < 12) (hj : j1 ≤ 12) (hs1 : Sn s1) (hT : TD f g1 i1 p9 q9 t1), ∀ (H : Heap) (locs : List Loc), mw G.1 vwCl B (mu (mu μ la (.inl (G.2 0, 78, .inr (.inl g1)))) s9 (.inl (G.2 0, 13, .inr (.inl s1)))) H → va_S (fun q => B ≤ q) s.heap H locs → ∀ ls : Array Slot, lv_has ls 9 [(0, .ref h), (1, .int (nI p9)), (2, .int (nI q9)), (3, .int (nI i1)), (4, .long t1), (6, .int (nI j1))] → W p l e rm_X4_passThrough s m args below meth c H locs 0 0 Q (F0 m 112 ls []) := by
        intro N112
        induction N112 with
        | zero => intro j1 g1 s1 t1 hN112; exact absurd hN112 (Nat.not_lt_zero _)
        | succ N112 ih112 =>
          intro j1 g1 s1 t1 hN112 hpo hj hs1 hT H locs hP hS ls hl
          refine lv_iload hx hb dX4_passThrough_112 (lv_at hl 5 rfl) ?_
          refine lv_bipush (v := nI 12) hx hb dX4_passThrough_114 (by decide) ?_
          refine nv_icmp_ge (tgt := 196) hx hb (by omega) (by omega) dX4_passThrough_116 (by decide) (fun hc116 => ?_) (fun hc116 => ?_)
          · refine lv_iinc (v := nI (i1 + 1)) (lv' := [(3, .int (nI (i1 + 1))), (0, .ref h), (1, .int (nI p9)), (2, .int (nI q9)), (4, .long t1), (6, .int (nI j1))]) hx hb dX4_passThrough_196 hl (k := 3) rfl (nI_add _ _) (by decide) rfl (fun ls hl => ?_)
            refine lv_goto (tgt := 52) hx hb dX4_passThrough_199 (by decide) ?_
            exact ih52 (i1 + 1) g1 s1 (by omega) (by omega) (hs1) (hT.md) _ _ hP hS ls (lv_sub hl [1, 2, 3, 0] rfl)
          · refine lv_lload hx hb dX4_passThrough_119 (lv_at hl 4 rfl) ?_
            refine lv_ldc2 (v := (9223372036854775807)) hx hb hown (hts (.constantLong RX4 74 (9223372036854775807)) (by decide +kernel)) dX4_passThrough_121 ?_
            refine nl_if_eq (tgt := 196) hx hb dX4_passThrough_124 dX4_passThrough_125 (by decide) (fun hc124 => ?_) (fun hc124 => ?_)
            · refine lv_iinc (v := nI (i1 + 1)) (lv' := [(3, .int (nI (i1 + 1))), (0, .ref h), (1, .int (nI p9)), (2, .int (nI q9)), (4, .long t1), (6, .int (nI j1))]) hx hb dX4_passThrough_196 hl (k := 3) rfl (nI_add _ _) (by decide) rfl (fun ls hl => ?_)
              refine lv_goto (tgt := 52) hx hb dX4_passThrough_199 (by decide) ?_
              exact ih52 (i1 + 1) g1 s1 (by omega) (by omega) (hs1) (hT.md) _ _ hP hS ls (lv_sub hl [1, 2, 3, 0] rfl)
            · refine lv_aload_n hx hb dX4_passThrough_128 rfl (lv_at hl 0 rfl) ?_
              refine mw_get (C := RX4) (T := TX4) (N := 4) hx hb hts in_X4_passThrough_X4 hown hK hP ((mu_n ne0_4).trans ((mu_n ne0_3).trans (hh))) rfl 2 (by decide) (hts (.fieldLink RX4 22 "OctagonDesk$Shape" "cells" "[J") (by decide +kernel)) (fun _ h9 => h9) rfl dX4_passThrough_129 ?_
              refine lv_iload_n hx hb dX4_passThrough_132 rfl (lv_at hl 2 rfl) ?_
              refine kc_i (va_runSN (As := [.int (nI q9)]) (rest := [.ref la]) ⟨hx, hb, hml, hown, hts⟩ (c_X6_negation l G B (mu (mu μ la (.inl (G.2 0, 78, .inr (.inl g1)))) s9 (.inl (G.2 0, 13, .inr (.inl s1)))) q9 (by omega)) ⟨va_cnB 1 hts gX4_passThrough_X6_negation_n70 rfl rfl rfl hKK.2.1.1 (hts (.initialized RX6) (by decide +kernel)) (by decide +kernel) ⟨Nat.le_of_ble_eq_true rfl, Nat.le_of_ble_eq_true rfl⟩, hts (.static yX6_negation) (by decide +kernel), trivial⟩ ⟨KW.blind, fun U9 hU9 hW9 => ⟨rfl, KW.pre hBs hKK hS hP U9 hU9 hW9⟩⟩ rfl rfl hl.1 rfl (lv_room (Nat.le_of_ble_eq_true rfl)) dX4_passThrough_133 ⟨(Nat.le_of_ble_eq_true rfl), (Nat.le_of_ble_eq_true rfl)⟩) hS (fun r133 m133 H locs hq9 hP hz9 hS => ?_)
              obtain ⟨he9, rfl⟩ := hq9
              rw [he9] at hP
              have hne133 := ne_lt (p := q9) (by omega)
              refine lv_iload hx hb dX4_passThrough_136 (lv_at hl 5 rfl) ?_
              refine kc_i (va_runS (As := [.int (nI (ne q9)), .int (nI j1)]) (rest := [.ref la]) ⟨hx, hb, hml, hown, hts⟩ (c_X4_cell l G B (mu (mu μ la (.inl (G.2 0, 78, .inr (.inl g1)))) s9 (.inl (G.2 0, 13, .inr (.inl s1)))) (ne q9) j1 (by omega) (by omega)) (va_cwS 2 hts gX4_passThrough_X4_cell rfl rfl rfl (by decide +kernel) ⟨Nat.le_of_ble_eq_true rfl, Nat.le_of_ble_eq_true rfl⟩) ⟨KW.blind, fun U9 hU9 hW9 => ⟨rfl, KW.pre hBs hKK hS hP U9 hU9 hW9⟩⟩ rfl rfl hl.1 rfl (lv_room (Nat.le_of_ble_eq_true rfl)) dX4_passThrough_138 ⟨(Nat.le_of_ble_eq_true rfl), (Nat.le_of_ble_eq_true rfl)⟩) hS (fun r138 m138 H locs hq9 hP hz9 hS => ?_)
              obtain ⟨he9, rfl⟩ := hq9
              rw [he9] at hP
              have hix138 := ix_lt (p := ne q9) (q := j1) (by omega) (by omega)
              refine mw_lald hx hb hK hP 0 ((mu_n ((mp_ne ha hs9 (by simp)))).trans (mu_s _ _ _)) rfl (by omega) (by omega) dX4_passThrough_141 ?_
              refine lv_topl (fun v142 ev142 => ?_)
              refine lv_lstore (lv' := [(7, .long v142), (0, .ref h), (1, .int (nI p9)), (2, .int (nI q9)), (3, .int (nI i1)), (4, .long t1), (6, .int (nI j1))]) hx hb dX4_passThrough_142 hl (by decide) rfl (fun ls hl => ?_)
              refine lv_aload_n hx hb dX4_passThrough_144 rfl (lv_at hl 1 rfl) ?_
              refine mw_get (C := RX4) (T := TX4) (N := 4) hx hb hts in_X4_passThrough_X4 hown hK hP ((mu_n ne0_4).trans ((mu_n ne0_3).trans (hh))) rfl 1 (by decide) (hts (.fieldLink RX4 21 "OctagonDesk$Shape" "numbers" "LOctagonDesk$Numbers;") (by decide +kernel)) (fun _ h9 => h9) rfl dX4_passThrough_145 ?_
              refine lv_lload hx hb dX4_passThrough_148 (lv_at hl 5 rfl) ?_
              refine lv_lload hx hb dX4_passThrough_150 (lv_at hl 0 rfl) ?_
              refine lv_aload_n hx hb dX4_passThrough_152 rfl (lv_at hl 1 rfl) ?_
              refine mw_get (C := RX4) (T := TX4) (N := 4) hx hb hts in_X4_passThrough_X4 hown hK hP ((mu_n ne0_4).trans ((mu_n ne0_3).trans (hh))) rfl 2 (by decide) (hts (.fieldLink RX4 22 "OctagonDesk$Shape" "cells" "[J") (by decide +kernel)) (fun _ h9 => h9) rfl dX4_passThrough_153 ?_
              refine lv_iload_n hx hb dX4_passThrough_156 rfl (lv_at hl 4 rfl) ?_
              refine lv_iload hx hb dX4_passThrough_157 (lv_at hl 6 rfl) ?_
              refine kc_i (va_runS (As := [.int (nI i1), .int (nI j1)]) (rest := [.ref la, .long v142, .long t1, .ref nn]) ⟨hx, hb, hml, hown, hts⟩ (c_X4_cell l G B (mu (mu μ la (.inl (G.2 0, 78, .inr (.inl g1)))) s9 (.inl (G.2 0, 13, .inr (.inl s1)))) i1 j1 (by omega) (by omega)) (va_cwS 2 hts gX4_passThrough_X4_cell rfl rfl rfl (by decide +kernel) ⟨Nat.le_of_ble_eq_true rfl, Nat.le_of_ble_eq_true rfl⟩) ⟨KW.blind, fun U9 hU9 hW9 => ⟨rfl, KW.pre hBs hKK hS hP U9 hU9 hW9⟩⟩ rfl rfl hl.1 rfl (lv_room (Nat.le_of_ble_eq_true rfl)) dX4_passThrough_159 ⟨(Nat.le_of_ble_eq_true rfl), (Nat.le_of_ble_eq_true rfl)⟩) hS (fun r159 m159 H locs hq9 hP hz9 hS => ?_)
              obtain ⟨he9, rfl⟩ := hq9
              rw [he9] at hP
              have hix159 := ix_lt (p := i1) (q := j1) (by omega) (by omega)
              refine mw_lald hx hb hK hP 0 ((mu_n ((mp_ne ha hs9 (by simp)))).trans (mu_s _ _ _)) rfl (by omega) (by omega) dX4_passThrough_162 ?_
              refine kc_i (va_runV (As := [.long t1, .long v142, .long (g1 (ix i1 j1))]) (rest := []) ⟨hx, hb, hml, hown, hts⟩ (c_X3_isSumLess l G B (mu (mu μ la (.inl (G.2 0, 78, .inr (.inl g1)))) s9 (.inl (G.2 0, 13, .inr (.inl s1)))) nn nf t1 v142 (g1 (ix i1 j1)) ((mu_n ne2_4).trans ((mu_n ne2_3).trans (hnn))) (hT.pn (by omega) (by omega) (by omega)) (by rw [ev142]; exact hT.md.pn (by omega)) (Pn.ng (hT.md.pn (by omega)))) (cwV 3 hts gX4_passThrough_X3_isSumLess rfl rfl rfl (by decide +kernel) ⟨Nat.le_of_ble_eq_true rfl, Nat.le_of_ble_eq_true rfl⟩) ⟨KW.blind, hP.recv hK rfl ((mu_n ne2_4).trans ((mu_n ne2_3).trans (hnn))), fun U9 hU9 hW9 => ⟨rfl, KW.pre hBs hKK hS hP U9 hU9 hW9⟩⟩ rfl rfl hl.1 rfl (lv_room (Nat.le_of_ble_eq_true rfl)) dX4_passThrough_163 ⟨(Nat.le_of_ble_eq_true rfl), (Nat.le_of_ble_eq_true rfl)⟩) hS (fun r163 m163 H locs hq9 hP hz9 hS => ?_)
              obtain ⟨he9, hr163⟩ := hq9
              rw [he9] at hP
              refine lv_if_eq (tgt := 190) hx hb dX4_passThrough_166 (by decide) (fun hc166 => ?_) (fun hc166 => ?_)
              · refine lv_iinc (v := nI (j1 + 1)) (lv' := [(6, .int (nI (j1 + 1))), (7, .long v142), (0, .ref h), (1, .int (nI p9)), (2, .int (nI q9)), (3, .int (nI i1)), (4, .long t1)]) hx hb dX4_passThrough_190 hl (k := 6) rfl (nI_add _ _) (by decide) rfl (fun ls hl => ?_)
                refine lv_goto (tgt := 112) hx hb dX4_passThrough_193 (by decide) ?_
                exact ih112 (j1 + 1) g1 s1 t1 (by omega) (by omega) (by omega) (hs1) (hT) _ _ hP hS ls (lv_sub hl [2, 3, 4, 5, 6, 0] rfl)
              · refine lv_aload_n hx hb dX4_passThrough_169 rfl (lv_at hl 1 rfl) ?_
                refine lv_iload_n hx hb dX4_passThrough_170 rfl (lv_at hl 4 rfl) ?_
                refine lv_iload hx hb dX4_passThrough_171 (lv_at hl 6 rfl) ?_
                refine kc_i (va_runS (As := [.int (nI i1), .int (nI j1)]) (rest := [.ref h]) ⟨hx, hb, hml, hown, hts⟩ (c_X4_cell l G B (mu (mu μ la (.inl (G.2 0, 78, .inr (.inl g1)))) s9 (.inl (G.2 0, 13, .inr (.inl s1)))) i1 j1 (by omega) (by omega)) (va_cwS 2 hts gX4_passThrough_X4_cell rfl rfl rfl (by decide +kernel) ⟨Nat.le_of_ble_eq_true rfl, Nat.le_of_ble_eq_true rfl⟩) ⟨KW.blind, fun U9 hU9 hW9 => ⟨rfl, KW.pre hBs hKK hS hP U9 hU9 hW9⟩⟩ rfl rfl hl.1 rfl (lv_room (Nat.le_of_ble_eq_true rfl)) dX4_passThrough_173 ⟨(Nat.le_of_ble_eq_true rfl), (Nat.le_of_ble_eq_true rfl)⟩) hS (fun r173 m173 H locs hq9 hP hz9 hS => ?_)
                obtain ⟨he9, rfl⟩ := hq9
                rw [he9] at hP
                have hix173 := ix_lt (p := i1) (q := j1) (by omega) (by omega)
                refine lv_aload_n hx hb dX4_passThrough_176 rfl (lv_at hl 1 rfl) ?_
                refine mw_get (C := RX4) (T := TX4) (N := 4) hx hb hts in_X4_passThrough_X4 hown hK hP ((mu_n ne0_4).trans ((mu_n ne0_3).trans (hh))) rfl 1 (by decide) (hts (.fieldLink RX4 21 "OctagonDesk$Shape" "numbers" "LOctagonDesk$Numbers;") (by decide +kernel)) (fun _ h9 => h9) rfl dX4_passThrough_177 ?_
                refine lv_lload hx hb dX4_passThrough_180 (lv_at hl 5 rfl) ?_
                refine lv_lload hx hb dX4_passThrough_182 (lv_at hl 0 rfl) ?_
                refine kc_l (va_runV (As := [.long t1, .long v142]) (rest := [.int (nI (ix i1 j1)), .ref h]) ⟨hx, hb, hml, hown, hts⟩ (c_X3_sum l G B (mu (mu μ la (.inl (G.2 0, 78, .inr (.inl g1)))) s9 (.inl (G.2 0, 13, .inr (.inl s1)))) nn nf t1 v142 ((mu_n ne2_4).trans ((mu_n ne2_3).trans (hnn))) (hT.pn (by omega) (by omega) (by omega)) (by rw [ev142]; exact hT.md.pn (by omega))) (cwV 2 hts gX4_passThrough_X3_sum rfl rfl rfl (by decide +kernel) ⟨Nat.le_of_ble_eq_true rfl, Nat.le_of_ble_eq_true rfl⟩) ⟨KW.blind, hP.recv hK rfl ((mu_n ne2_4).trans ((mu_n ne2_3).trans (hnn))), fun U9 hU9 hW9 => ⟨rfl, KW.pre hBs hKK hS hP U9 hU9 hW9⟩⟩ rfl rfl hl.1 rfl (lv_room (Nat.le_of_ble_eq_true rfl)) dX4_passThrough_184 ⟨(Nat.le_of_ble_eq_true rfl), (Nat.le_of_ble_eq_true rfl)⟩) hS (fun r184 m184 H locs hq9 hP hz9 hS => ?_)
                obtain ⟨he9, hr184⟩ := hq9
                rw [he9] at hP
                refine kc_v (va_runV (As := [.int (nI (ix i1 j1)), .long r184]) (rest := []) ⟨hx, hb, hml, hown, hts⟩ (c_X4_put l G B (mu (mu μ la (.inl (G.2 0, 78, .inr (.inl g1)))) s9 (.inl (G.2 0, 13, .inr (.inl s1)))) h bn nn la s9 lo 0 nf g1 s1 w9 (ix i1 j1) r184 ((mu_n ne0_4).trans ((mu_n ne0_3).trans (hh))) ((mu_n ne1_4).trans ((mu_n ne1_3).trans (hbn))) ((mu_n ne2_4).trans ((mu_n ne2_3).trans (hnn))) ((mu_n ((mp_ne ha hs9 (by simp)))).trans (mu_s _ _ _)) (mu_s _ _ _) ((mu_n ((mp_ne hlo hs9 (by simp)))).trans ((mu_n ((mp_ne hlo ha (by simp)))).trans (hlo))) (by omega) (Pn.ng (hT.md.pn (by omega))) (by rw [hr184]; exact sm_ng (hT.pn (by omega) (by omega) (by omega)) (by rw [ev142]; exact hT.md.pn (by omega)))) (cwV 2 hts gX4_passThrough_X4_put rfl rfl rfl (by decide +kernel) ⟨Nat.le_of_ble_eq_true rfl, Nat.le_of_ble_eq_true rfl⟩) ⟨KW.blind, hP.recv hK rfl ((mu_n ne0_4).trans ((mu_n ne0_3).trans (hh))), fun U9 hU9 hW9 => ⟨rfl, KW.pre hBs hKK hS hP U9 hU9 hW9⟩⟩ rfl rfl hl.1 rfl (lv_room (Nat.le_of_ble_eq_true rfl)) dX4_passThrough_187 ⟨(Nat.le_of_ble_eq_true rfl), (Nat.le_of_ble_eq_true rfl)⟩) hS (fun m187 H locs hq9 hP hz9 hS => ?_)
                rw [hq9] at hP
                have hP : mw G.1 vwCl B (mu (mu μ la (.inl (G.2 0, 78, .inr (.inl (vp_updL g1 (ix i1 j1) r184))))) s9 (.inl (G.2 0, 13, .inr (.inl s1)))) _ := mw_eq ((mu_c _ _ ((mp_ne hs9 ha (by simp)))).trans (congrArg (fun z => mu z s9 (.inl (G.2 0, 13, .inr (.inl s1)))) (mu_u _ _ _ _))) hP
                refine lv_iinc (v := nI (j1 + 1)) (lv' := [(6, .int (nI (j1 + 1))), (7, .long v142), (0, .ref h), (1, .int (nI p9)), (2, .int (nI q9)), (3, .int (nI i1)), (4, .long t1)]) hx hb dX4_passThrough_190 hl (k := 6) rfl (nI_add _ _) (by decide) rfl (fun ls hl => ?_)
                refine lv_goto (tgt := 112) hx hb dX4_passThrough_193 (by decide) ?_
                exact ih112 (j1 + 1) (vp_updL g1 (ix i1 j1) r184) s1 t1 (by omega) (by omega) (by omega) (hs1) (hT.up (by omega) (by omega) (by omega) (by omega) ev142 hr163 hc166 hr184) _ _ hP hS ls (lv_sub hl [2, 3, 4, 5, 6, 0] rfl)
      refine lv_iload_n hx hb dX4_passThrough_52 rfl (lv_at hl 3 rfl) ?_
      refine lv_bipush (v := nI 12) hx hb dX4_passThrough_53 (by decide) ?_
      refine nv_icmp_ge (tgt := 202) hx hb (by omega) (by omega) dX4_passThrough_55 (by decide) (fun hc55 => ?_) (fun hc55 => ?_)
      · rw [hQ]
        exact W.vret hx hb hr (fun t99 ht99 hW99 => ⟨⟨mu (mu μ la (.inl (G.2 0, 78, .inr (.inl g1)))) s9 (.inl (G.2 0, 13, .inr (.inl s1))), rfl, (⟨_, _, rfl, hM, hs1⟩), by show mw _ _ _ _ t99.heap; rw [ht99]; exact hP⟩, hS.F ht99⟩) hS.2.2 dX4_passThrough_202
      · refine lv_aload_n hx hb dX4_passThrough_58 rfl (lv_at hl 0 rfl) ?_
        refine mw_get (C := RX4) (T := TX4) (N := 4) hx hb hts in_X4_passThrough_X4 hown hK hP ((mu_n ne0_4).trans ((mu_n ne0_3).trans (hh))) rfl 0 (by decide) (hts (.fieldLink RX4 9 "OctagonDesk$Shape" "bench" "LOctagonDesk$Bench;") (by decide +kernel)) (fun _ h9 => h9) rfl dX4_passThrough_59 ?_
        refine lv_bipush (v := nI 12) hx hb dX4_passThrough_62 (by decide) ?_
        refine lv_aload_n hx hb dX4_passThrough_64 rfl (lv_at hl 0 rfl) ?_
        refine mw_get (C := RX4) (T := TX4) (N := 4) hx hb hts in_X4_passThrough_X4 hown hK hP ((mu_n ne0_4).trans ((mu_n ne0_3).trans (hh))) rfl 1 (by decide) (hts (.fieldLink RX4 21 "OctagonDesk$Shape" "numbers" "LOctagonDesk$Numbers;") (by decide +kernel)) (fun _ h9 => h9) rfl dX4_passThrough_65 ?_
        refine lv_aload_n hx hb dX4_passThrough_68 rfl (lv_at hl 0 rfl) ?_
        refine mw_get (C := RX4) (T := TX4) (N := 4) hx hb hts in_X4_passThrough_X4 hown hK hP ((mu_n ne0_4).trans ((mu_n ne0_3).trans (hh))) rfl 2 (by decide) (hts (.fieldLink RX4 22 "OctagonDesk$Shape" "cells" "[J") (by decide +kernel)) (fun _ h9 => h9) rfl dX4_passThrough_69 ?_
        refine lv_iload_n hx hb dX4_passThrough_72 rfl (lv_at hl 3 rfl) ?_
        refine lv_iload_n hx hb dX4_passThrough_73 rfl (lv_at hl 1 rfl) ?_
        refine kc_i (va_runSN (As := [.int (nI p9)]) (rest := [.int (nI i1), .ref la, .ref nn, .int (nI 12), .ref bn]) ⟨hx, hb, hml, hown, hts⟩ (c_X6_negation l G B (mu (mu μ la (.inl (G.2 0, 78, .inr (.inl g1)))) s9 (.inl (G.2 0, 13, .inr (.inl s1)))) p9 (by omega)) ⟨va_cnB 1 hts gX4_passThrough_X6_negation_n70 rfl rfl rfl hKK.2.1.1 (hts (.initialized RX6) (by decide +kernel)) (by decide +kernel) ⟨Nat.le_of_ble_eq_true rfl, Nat.le_of_ble_eq_true rfl⟩, hts (.static yX6_negation) (by decide +kernel), trivial⟩ ⟨KW.blind, fun U9 hU9 hW9 => ⟨rfl, KW.pre hBs hKK hS hP U9 hU9 hW9⟩⟩ rfl rfl hl.1 rfl (lv_room (Nat.le_of_ble_eq_true rfl)) dX4_passThrough_74 ⟨(Nat.le_of_ble_eq_true rfl), (Nat.le_of_ble_eq_true rfl)⟩) hS (fun r74 m74 H locs hq9 hP hz9 hS => ?_)
        obtain ⟨he9, rfl⟩ := hq9
        rw [he9] at hP
        have hne74 := ne_lt (p := p9) (by omega)
        refine kc_i (va_runS (As := [.int (nI i1), .int (nI (ne p9))]) (rest := [.ref la, .ref nn, .int (nI 12), .ref bn]) ⟨hx, hb, hml, hown, hts⟩ (c_X4_cell l G B (mu (mu μ la (.inl (G.2 0, 78, .inr (.inl g1)))) s9 (.inl (G.2 0, 13, .inr (.inl s1)))) i1 (ne p9) (by omega) (by omega)) (va_cwS 2 hts gX4_passThrough_X4_cell rfl rfl rfl (by decide +kernel) ⟨Nat.le_of_ble_eq_true rfl, Nat.le_of_ble_eq_true rfl⟩) ⟨KW.blind, fun U9 hU9 hW9 => ⟨rfl, KW.pre hBs hKK hS hP U9 hU9 hW9⟩⟩ rfl rfl hl.1 rfl (lv_room (Nat.le_of_ble_eq_true rfl)) dX4_passThrough_77 ⟨(Nat.le_of_ble_eq_true rfl), (Nat.le_of_ble_eq_true rfl)⟩) hS (fun r77 m77 H locs hq9 hP hz9 hS => ?_)
        obtain ⟨he9, rfl⟩ := hq9
        rw [he9] at hP
        have hix77 := ix_lt (p := i1) (q := ne p9) (by omega) (by omega)
        refine mw_lald hx hb hK hP 0 ((mu_n ((mp_ne ha hs9 (by simp)))).trans (mu_s _ _ _)) rfl (by omega) (by omega) dX4_passThrough_80 ?_
        refine lv_aload_n hx hb dX4_passThrough_81 rfl (lv_at hl 0 rfl) ?_
        refine mw_get (C := RX4) (T := TX4) (N := 4) hx hb hts in_X4_passThrough_X4 hown hK hP ((mu_n ne0_4).trans ((mu_n ne0_3).trans (hh))) rfl 2 (by decide) (hts (.fieldLink RX4 22 "OctagonDesk$Shape" "cells" "[J") (by decide +kernel)) (fun _ h9 => h9) rfl dX4_passThrough_82 ?_
        refine lv_iload_n hx hb dX4_passThrough_85 rfl (lv_at hl 1 rfl) ?_
        refine lv_iload_n hx hb dX4_passThrough_86 rfl (lv_at hl 2 rfl) ?_
        refine kc_i (va_runS (As := [.int (nI p9), .int (nI q9)]) (rest := [.ref la, .long (g1 (ix i1 (ne p9))), .ref nn, .int (nI 12), .ref bn]) ⟨hx, hb, hml, hown, hts⟩ (c_X4_cell l G B (mu (mu μ la (.inl (G.2 0, 78, .inr (.inl g1)))) s9 (.inl (G.2 0, 13, .inr (.inl s1)))) p9 q9 (by omega) (by omega)) (va_cwS 2 hts gX4_passThrough_X4_cell rfl rfl rfl (by decide +kernel) ⟨Nat.le_of_ble_eq_true rfl, Nat.le_of_ble_eq_true rfl⟩) ⟨KW.blind, fun U9 hU9 hW9 => ⟨rfl, KW.pre hBs hKK hS hP U9 hU9 hW9⟩⟩ rfl rfl hl.1 rfl (lv_room (Nat.le_of_ble_eq_true rfl)) dX4_passThrough_87 ⟨(Nat.le_of_ble_eq_true rfl), (Nat.le_of_ble_eq_true rfl)⟩) hS (fun r87 m87 H locs hq9 hP hz9 hS => ?_)
        obtain ⟨he9, rfl⟩ := hq9
        rw [he9] at hP
        have hix87 := ix_lt (p := p9) (q := q9) (by omega) (by omega)
        refine mw_lald hx hb hK hP 0 ((mu_n ((mp_ne ha hs9 (by simp)))).trans (mu_s _ _ _)) rfl (by omega) (by omega) dX4_passThrough_90 ?_
        refine kc_l (va_runV (As := [.long (g1 (ix i1 (ne p9))), .long (g1 (ix p9 q9))]) (rest := [.int (nI 12), .ref bn]) ⟨hx, hb, hml, hown, hts⟩ (c_X3_sum l G B (mu (mu μ la (.inl (G.2 0, 78, .inr (.inl g1)))) s9 (.inl (G.2 0, 13, .inr (.inl s1)))) nn nf (g1 (ix i1 (ne p9))) (g1 (ix p9 q9)) ((mu_n ne2_4).trans ((mu_n ne2_3).trans (hnn))) (hM.pn (by omega)) (hM.pn (by omega))) (cwV 2 hts gX4_passThrough_X3_sum rfl rfl rfl (by decide +kernel) ⟨Nat.le_of_ble_eq_true rfl, Nat.le_of_ble_eq_true rfl⟩) ⟨KW.blind, hP.recv hK rfl ((mu_n ne2_4).trans ((mu_n ne2_3).trans (hnn))), fun U9 hU9 hW9 => ⟨rfl, KW.pre hBs hKK hS hP U9 hU9 hW9⟩⟩ rfl rfl hl.1 rfl (lv_room (Nat.le_of_ble_eq_true rfl)) dX4_passThrough_91 ⟨(Nat.le_of_ble_eq_true rfl), (Nat.le_of_ble_eq_true rfl)⟩) hS (fun r91 m91 H locs hq9 hP hz9 hS => ?_)
        obtain ⟨he9, hr91⟩ := hq9
        rw [he9] at hP
        refine kc_v (va_runV (As := [.int (nI 12), .long r91]) (rest := []) ⟨hx, hb, hml, hown, hts⟩ (c_X0_note l G B (mu (mu μ la (.inl (G.2 0, 78, .inr (.inl g1)))) s9 (.inl (G.2 0, 13, .inr (.inl s1)))) bn nn s9 lo nf s1 12 r91 ((mu_n ne1_4).trans ((mu_n ne1_3).trans (hbn))) ((mu_n ne2_4).trans ((mu_n ne2_3).trans (hnn))) (mu_s _ _ _) (by omega) (Pn.ng (hs1 _ (by omega))) (by rw [hr91]; exact ((TD.mk0 (by omega) (by omega) (by omega) hM rfl).pn (by omega) (by omega) (by omega)).ng)) (cwV 2 hts gX4_passThrough_X0_note rfl rfl rfl (by decide +kernel) ⟨Nat.le_of_ble_eq_true rfl, Nat.le_of_ble_eq_true rfl⟩) ⟨KW.blind, hP.recv hK rfl ((mu_n ne1_4).trans ((mu_n ne1_3).trans (hbn))), fun U9 hU9 hW9 => ⟨rfl, KW.pre hBs hKK hS hP U9 hU9 hW9⟩⟩ rfl rfl hl.1 rfl (lv_room (Nat.le_of_ble_eq_true rfl)) dX4_passThrough_94 ⟨(Nat.le_of_ble_eq_true rfl), (Nat.le_of_ble_eq_true rfl)⟩) hS (fun m94 H locs hq9 hP hz9 hS => ?_)
        rw [hq9] at hP
        have hP : mw G.1 vwCl B (mu (mu μ la (.inl (G.2 0, 78, .inr (.inl g1)))) s9 (.inl (G.2 0, 13, .inr (.inl (vp_updL s1 12 r91))))) _ := mw_eq (mu_u _ _ _ _) hP
        refine lv_aload_n hx hb dX4_passThrough_97 rfl (lv_at hl 0 rfl) ?_
        refine mw_get (C := RX4) (T := TX4) (N := 4) hx hb hts in_X4_passThrough_X4 hown hK hP ((mu_n ne0_4).trans ((mu_n ne0_3).trans (hh))) rfl 0 (by decide) (hts (.fieldLink RX4 9 "OctagonDesk$Shape" "bench" "LOctagonDesk$Bench;") (by decide +kernel)) (fun _ h9 => h9) rfl dX4_passThrough_98 ?_
        refine mw_get (C := RX0) (T := TX0) (N := 3) hx hb hts in_X4_passThrough_X0 hown hK hP ((mu_n ne1_4).trans ((mu_n ne1_3).trans (hbn))) rfl 1 (by decide) (hts (.fieldLink RX4 76 "OctagonDesk$Bench" "scratch" "[J") (by decide +kernel)) (fun _ h9 => h9) rfl dX4_passThrough_101 ?_
        refine lv_bipush (v := nI 12) hx hb dX4_passThrough_104 (by decide) ?_
        refine mw_lald hx hb hK hP 0 (mu_s _ _ _) rfl (by omega) (by omega) dX4_passThrough_106 ?_
        refine lv_topl (fun v107 ev107 => ?_)
        refine lv_lstore (lv' := [(4, .long v107), (0, .ref h), (1, .int (nI p9)), (2, .int (nI q9)), (3, .int (nI i1))]) hx hb dX4_passThrough_107 hl (by decide) rfl (fun ls hl => ?_)
        refine lv_iconst (v := nI 0) hx hb dX4_passThrough_109 (by decide) ?_
        refine lv_istore (lv' := [(6, .int (nI 0)), (4, .long v107), (0, .ref h), (1, .int (nI p9)), (2, .int (nI q9)), (3, .int (nI i1))]) hx hb dX4_passThrough_110 hl (by decide) rfl (fun ls hl => ?_)
        exact L112 _ 0 g1 (vp_updL s1 12 r91) v107 (Nat.lt_succ_self _) (by omega) (by omega) (hs1.upd (by rw [hr91]; exact (TD.mk0 (by omega) (by omega) (by omega) hM rfl).pn (by omega) (by omega) (by omega))) (TD.mk0 (by omega) (by omega) (by omega) hM (by rw [ev107, pk_uLs, hr91])) _ _ hP hS ls (lv_sub hl [2, 3, 4, 5, 1, 0] rfl)
  have hl := lv_entry ([.ref h, .int (nI p9), .int (nI q9)]) (n := 9) (Nat.le_of_ble_eq_true rfl)
  have he9 : entryFrame m args 9 = entryFrame m ([.ref h, .int (nI p9), .int (nI q9)] : List Value).toArray 9 := by rw [hargs]
  rw [he9, lg_entry_eq]
  generalize (lg_sl ([.ref h, .int (nI p9), .int (nI q9)]) ++ List.replicate (9 - (lg_sl ([.ref h, .int (nI p9), .int (nI q9)])).length) Slot.unset).toArray = ls at hl ⊢
  have hl : lv_has ls 9 [(0, .ref h), (1, .int (nI p9)), (2, .int (nI q9))] := hl
  refine lv_aload_n hx hb dX4_passThrough_0 rfl (lv_at hl 0 rfl) ?_
  refine mw_get (C := RX4) (T := TX4) (N := 4) hx hb hts in_X4_passThrough_X4 hown hK hP ((mu_n ne0_4).trans ((mu_n ne0_3).trans (hh))) rfl 3 (by decide) (hts (.fieldLink RX4 26 "OctagonDesk$Shape" "empty" "Z") (by decide +kernel)) (fun _ h9 => h9) rfl dX4_passThrough_1 ?_
  refine lv_if_ne (tgt := 44) hx hb dX4_passThrough_4 (by decide) (fun hc4 => ?_) (fun hc4 => ?_)
  · exact absurd rfl hc4
  · refine lv_aload_n hx hb dX4_passThrough_7 rfl (lv_at hl 0 rfl) ?_
    refine mw_get (C := RX4) (T := TX4) (N := 4) hx hb hts in_X4_passThrough_X4 hown hK hP ((mu_n ne0_4).trans ((mu_n ne0_3).trans (hh))) rfl 1 (by decide) (hts (.fieldLink RX4 21 "OctagonDesk$Shape" "numbers" "LOctagonDesk$Numbers;") (by decide +kernel)) (fun _ h9 => h9) rfl dX4_passThrough_8 ?_
    refine lv_aload_n hx hb dX4_passThrough_11 rfl (lv_at hl 0 rfl) ?_
    refine mw_get (C := RX4) (T := TX4) (N := 4) hx hb hts in_X4_passThrough_X4 hown hK hP ((mu_n ne0_4).trans ((mu_n ne0_3).trans (hh))) rfl 2 (by decide) (hts (.fieldLink RX4 22 "OctagonDesk$Shape" "cells" "[J") (by decide +kernel)) (fun _ h9 => h9) rfl dX4_passThrough_12 ?_
    refine lv_iload_n hx hb dX4_passThrough_15 rfl (lv_at hl 1 rfl) ?_
    refine lv_iload_n hx hb dX4_passThrough_16 rfl (lv_at hl 2 rfl) ?_
    refine kc_i (va_runS (As := [.int (nI p9), .int (nI q9)]) (rest := [.ref la, .ref nn]) ⟨hx, hb, hml, hown, hts⟩ (c_X4_cell l G B (mu (mu μ la (.inl (G.2 0, 78, .inr (.inl f)))) s9 (.inl (G.2 0, 13, .inr (.inl g)))) p9 q9 (by omega) (by omega)) (va_cwS 2 hts gX4_passThrough_X4_cell rfl rfl rfl (by decide +kernel) ⟨Nat.le_of_ble_eq_true rfl, Nat.le_of_ble_eq_true rfl⟩) ⟨KW.blind, fun U9 hU9 hW9 => ⟨rfl, KW.pre hBs hKK hS hP U9 hU9 hW9⟩⟩ rfl rfl hl.1 rfl (lv_room (Nat.le_of_ble_eq_true rfl)) dX4_passThrough_17 ⟨(Nat.le_of_ble_eq_true rfl), (Nat.le_of_ble_eq_true rfl)⟩) hS (fun r17 m17 H locs hq9 hP hz9 hS => ?_)
    obtain ⟨he9, rfl⟩ := hq9
    rw [he9] at hP
    have hix17 := ix_lt (p := p9) (q := q9) (by omega) (by omega)
    refine mw_lald hx hb hK hP 0 ((mu_n ((mp_ne ha hs9 (by simp)))).trans (mu_s _ _ _)) rfl (by omega) (by omega) dX4_passThrough_20 ?_
    refine lv_aload_n hx hb dX4_passThrough_21 rfl (lv_at hl 0 rfl) ?_
    refine mw_get (C := RX4) (T := TX4) (N := 4) hx hb hts in_X4_passThrough_X4 hown hK hP ((mu_n ne0_4).trans ((mu_n ne0_3).trans (hh))) rfl 2 (by decide) (hts (.fieldLink RX4 22 "OctagonDesk$Shape" "cells" "[J") (by decide +kernel)) (fun _ h9 => h9) rfl dX4_passThrough_22 ?_
    refine lv_iload_n hx hb dX4_passThrough_25 rfl (lv_at hl 2 rfl) ?_
    refine kc_i (va_runSN (As := [.int (nI q9)]) (rest := [.ref la, .long (f (ix p9 q9)), .ref nn]) ⟨hx, hb, hml, hown, hts⟩ (c_X6_negation l G B (mu (mu μ la (.inl (G.2 0, 78, .inr (.inl f)))) s9 (.inl (G.2 0, 13, .inr (.inl g)))) q9 (by omega)) ⟨va_cnB 1 hts gX4_passThrough_X6_negation_n70 rfl rfl rfl hKK.2.1.1 (hts (.initialized RX6) (by decide +kernel)) (by decide +kernel) ⟨Nat.le_of_ble_eq_true rfl, Nat.le_of_ble_eq_true rfl⟩, hts (.static yX6_negation) (by decide +kernel), trivial⟩ ⟨KW.blind, fun U9 hU9 hW9 => ⟨rfl, KW.pre hBs hKK hS hP U9 hU9 hW9⟩⟩ rfl rfl hl.1 rfl (lv_room (Nat.le_of_ble_eq_true rfl)) dX4_passThrough_26 ⟨(Nat.le_of_ble_eq_true rfl), (Nat.le_of_ble_eq_true rfl)⟩) hS (fun r26 m26 H locs hq9 hP hz9 hS => ?_)
    obtain ⟨he9, rfl⟩ := hq9
    rw [he9] at hP
    have hne26 := ne_lt (p := q9) (by omega)
    refine lv_iload_n hx hb dX4_passThrough_29 rfl (lv_at hl 1 rfl) ?_
    refine kc_i (va_runSN (As := [.int (nI p9)]) (rest := [.int (nI (ne q9)), .ref la, .long (f (ix p9 q9)), .ref nn]) ⟨hx, hb, hml, hown, hts⟩ (c_X6_negation l G B (mu (mu μ la (.inl (G.2 0, 78, .inr (.inl f)))) s9 (.inl (G.2 0, 13, .inr (.inl g)))) p9 (by omega)) ⟨va_cnB 1 hts gX4_passThrough_X6_negation_n70 rfl rfl rfl hKK.2.1.1 (hts (.initialized RX6) (by decide +kernel)) (by decide +kernel) ⟨Nat.le_of_ble_eq_true rfl, Nat.le_of_ble_eq_true rfl⟩, hts (.static yX6_negation) (by decide +kernel), trivial⟩ ⟨KW.blind, fun U9 hU9 hW9 => ⟨rfl, KW.pre hBs hKK hS hP U9 hU9 hW9⟩⟩ rfl rfl hl.1 rfl (lv_room (Nat.le_of_ble_eq_true rfl)) dX4_passThrough_30 ⟨(Nat.le_of_ble_eq_true rfl), (Nat.le_of_ble_eq_true rfl)⟩) hS (fun r30 m30 H locs hq9 hP hz9 hS => ?_)
    obtain ⟨he9, rfl⟩ := hq9
    rw [he9] at hP
    have hne30 := ne_lt (p := p9) (by omega)
    refine kc_i (va_runS (As := [.int (nI (ne q9)), .int (nI (ne p9))]) (rest := [.ref la, .long (f (ix p9 q9)), .ref nn]) ⟨hx, hb, hml, hown, hts⟩ (c_X4_cell l G B (mu (mu μ la (.inl (G.2 0, 78, .inr (.inl f)))) s9 (.inl (G.2 0, 13, .inr (.inl g)))) (ne q9) (ne p9) (by omega) (by omega)) (va_cwS 2 hts gX4_passThrough_X4_cell rfl rfl rfl (by decide +kernel) ⟨Nat.le_of_ble_eq_true rfl, Nat.le_of_ble_eq_true rfl⟩) ⟨KW.blind, fun U9 hU9 hW9 => ⟨rfl, KW.pre hBs hKK hS hP U9 hU9 hW9⟩⟩ rfl rfl hl.1 rfl (lv_room (Nat.le_of_ble_eq_true rfl)) dX4_passThrough_33 ⟨(Nat.le_of_ble_eq_true rfl), (Nat.le_of_ble_eq_true rfl)⟩) hS (fun r33 m33 H locs hq9 hP hz9 hS => ?_)
    obtain ⟨he9, rfl⟩ := hq9
    rw [he9] at hP
    have hix33 := ix_lt (p := ne q9) (q := ne p9) (by omega) (by omega)
    refine mw_lald hx hb hK hP 0 ((mu_n ((mp_ne ha hs9 (by simp)))).trans (mu_s _ _ _)) rfl (by omega) (by omega) dX4_passThrough_36 ?_
    refine lv_lconst (v := 0) hx hb dX4_passThrough_37 (by decide) ?_
    refine kc_i (va_runV (As := [.long (f (ix p9 q9)), .long (f (ix (ne q9) (ne p9))), .long 0]) (rest := []) ⟨hx, hb, hml, hown, hts⟩ (c_X3_isSumLess l G B (mu (mu μ la (.inl (G.2 0, 78, .inr (.inl f)))) s9 (.inl (G.2 0, 13, .inr (.inl g)))) nn nf (f (ix p9 q9)) (f (ix (ne q9) (ne p9))) 0 ((mu_n ne2_4).trans ((mu_n ne2_3).trans (hnn))) (hOk.pn (by omega)) (hOk.pn (by omega)) (Pn.ng (Pn.z))) (cwV 3 hts gX4_passThrough_X3_isSumLess rfl rfl rfl (by decide +kernel) ⟨Nat.le_of_ble_eq_true rfl, Nat.le_of_ble_eq_true rfl⟩) ⟨KW.blind, hP.recv hK rfl ((mu_n ne2_4).trans ((mu_n ne2_3).trans (hnn))), fun U9 hU9 hW9 => ⟨rfl, KW.pre hBs hKK hS hP U9 hU9 hW9⟩⟩ rfl rfl hl.1 rfl (lv_room (Nat.le_of_ble_eq_true rfl)) dX4_passThrough_38 ⟨(Nat.le_of_ble_eq_true rfl), (Nat.le_of_ble_eq_true rfl)⟩) hS (fun r38 m38 H locs hq9 hP hz9 hS => ?_)
    obtain ⟨he9, hr38⟩ := hq9
    rw [he9] at hP
    refine lv_if_eq (tgt := 50) hx hb dX4_passThrough_41 (by decide) (fun hc41 => ?_) (fun hc41 => ?_)
    · refine lv_iconst (v := nI 0) hx hb dX4_passThrough_50 (by decide) ?_
      refine lv_istore_n (lv' := [(3, .int (nI 0)), (0, .ref h), (1, .int (nI p9)), (2, .int (nI q9))]) hx hb dX4_passThrough_51 rfl hl (by decide) rfl (fun ls hl => ?_)
      exact L52 _ 0 f g (Nat.lt_succ_self _) (by omega) (hSn) (MD.rf hOk) _ _ hP hS ls (lv_sub hl [1, 2, 3, 0] rfl)
    · exact absurd (b1_1 hr38 hc41) (hOk.pp (by omega) (by omega))

abbrev rm_X4_close : Room := { frames := 4, cells := 0, slots := 0, locals := 91 }
set_option maxHeartbeats 4000000 in
set_option maxRecDepth 100000 in
theorem c_X4_close (l : Launch) (G : GG) (B : Nat) (μ : mp) (h bn nn la s9 lo : Nat) (nf : List Value) (f g : Nat → Int64) (w9 : Nat → Int32) (hh : μ h = some (.inr (4, [.ref bn, .ref nn, .ref la, .int (nI 0)]))) (hbn : μ bn = some (.inr (0, [.ref nn, .ref s9, .ref lo]))) (hnn : μ nn = some (.inr (3, nf))) (ha : μ la = some (.inl (G.2 0, 78, .inr (.inl f)))) (hs9 : μ s9 = some (.inl (G.2 0, 13, .inr (.inl g)))) (hlo : μ lo = some (.inl (G.2 2, 78, .inl w9))) (hOk : Ok f) (hSn : Sn g) : Met l yX4_close wsX4_close rm_X4_close (va_Pc [.ref h] (KW G B μ)) (va_Qv (fun μ2 => ∃ f9 g9 : Nat → Int64, μ2 = mu (mu μ la (.inl (G.2 0, 78, .inr (.inl f9)))) s9 (.inl (G.2 0, 13, .inr (.inl g9))) ∧ MD f f9 ∧ Sn g9) (BB G B) (fun q => B ≤ q)) 0 0 (fun q => B ≤ q) := by
  refine Met.ofW (cc := cX4_close) (maxL := 9) (ret := none) (by decide) rfl ?_
  intro p e s m args below meth c s₁ B9 hml hv
  obtain ⟨hargs, hBs, hP, hKK⟩ := hv
  have hx := B9.exec
  have hb := B9.bytes
  have hr := B9.returns
  have hts := atoms_spec (ws := wsX4_close) B9.pre
  have hown : s.vm.findClass RX4 = some m.cls := findClass_of_methodNamed B9.named
  have hlocks := B9.notSynchronized
  have hK := hKK.k
  have hS : va_S (fun q => B ≤ q) s.heap s.heap [] := va_S.rf
  obtain ⟨Q, hQ⟩ : ∃ Q, Q = MQ below (va_Qv (fun μ2 => ∃ f9 g9 : Nat → Int64, μ2 = mu (mu μ la (.inl (G.2 0, 78, .inr (.inl f9)))) s9 (.inl (G.2 0, 13, .inr (.inl g9))) ∧ MD f f9 ∧ Sn g9) (BB G B) (fun q => B ≤ q)) args s 0 0 (fun q => B ≤ q) := ⟨_, rfl⟩
  rw [← hQ]
  have ne0_1 : h ≠ bn := mp_ne hh hbn (by simp)
  have ne0_2 : h ≠ nn := mp_ne hh hnn (by simp)
  have ne0_3 : h ≠ la := mp_ne hh ha (by simp)
  have ne0_4 : h ≠ s9 := mp_ne hh hs9 (by simp)
  have ne0_5 : h ≠ lo := mp_ne hh hlo (by simp)
  have ne1_2 : bn ≠ nn := mp_ne hbn hnn (by simp)
  have ne1_3 : bn ≠ la := mp_ne hbn ha (by simp)
  have ne1_4 : bn ≠ s9 := mp_ne hbn hs9 (by simp)
  have ne1_5 : bn ≠ lo := mp_ne hbn hlo (by simp)
  have ne2_3 : nn ≠ la := mp_ne hnn ha (by simp)
  have ne2_4 : nn ≠ s9 := mp_ne hnn hs9 (by simp)
  have ne2_5 : nn ≠ lo := mp_ne hnn hlo (by simp)
  have in_X4_close_X0 : ∀ w ∈ wsX00, w ∈ wsX4_close := by decide +kernel
  have in_X4_close_X4 : ∀ w ∈ wsX40, w ∈ wsX4_close := by decide +kernel
  have hP : mw G.1 vwCl B (mu (mu μ la (.inl (G.2 0, 78, .inr (.inl f)))) s9 (.inl (G.2 0, 13, .inr (.inl g)))) s.heap := mw_eq ((congrArg (fun z => mu z s9 (.inl (G.2 0, 13, .inr (.inl g)))) (mu_i ha)).trans (mu_i hs9)).symm hP
  have L2 : ∀ (N2 : Nat) (r1 : Nat) (g1 : Nat → Int64) (hN2 : 12 - r1 < N2) (hrr : r1 ≤ 12) (hM : MD f g1), ∀ (H : Heap) (locs : List Loc), mw G.1 vwCl B (mu (mu μ la (.inl (G.2 0, 78, .inr (.inl g1)))) s9 (.inl (G.2 0, 13, .inr (.inl g)))) H → va_S (fun q => B ≤ q) s.heap H locs → ∀ ls : Array Slot, lv_has ls 9 [(0, .ref h), (1, .int (nI r1))] → W p l e rm_X4_close s m args below meth c H locs 0 0 Q (F0 m 2 ls []) := by
    intro N2
    induction N2 with
    | zero => intro r1 g1 hN2; exact absurd hN2 (Nat.not_lt_zero _)
    | succ N2 ih2 =>
      intro r1 g1 hN2 hrr hM H locs hP hS ls hl
      have L17 : ∀ (N17 : Nat) (p1 : Nat) (g1 : Nat → Int64) (hN17 : 12 - p1 < N17) (hpo : r1 < 12) (hp : p1 ≤ 12) (hM : MD f g1), ∀ (H : Heap) (locs : List Loc), mw G.1 vwCl B (mu (mu μ la (.inl (G.2 0, 78, .inr (.inl g1)))) s9 (.inl (G.2 0, 13, .inr (.inl g)))) H → va_S (fun q => B ≤ q) s.heap H locs → ∀ ls : Array Slot, lv_has ls 9 [(0, .ref h), (1, .int (nI r1)), (2, .int (nI p1))] → W p l e rm_X4_close s m args below meth c H locs 0 0 Q (F0 m 17 ls []) := by
        intro N17
        induction N17 with
        | zero => intro p1 g1 hN17; exact absurd hN17 (Nat.not_lt_zero _)
        | succ N17 ih17 =>
          intro p1 g1 hN17 hpo hp hM H locs hP hS ls hl
          have L25 : ∀ (N25 : Nat) (q1 : Nat) (g1 : Nat → Int64) (hN25 : 12 - q1 < N25) (hpo : p1 < 12 ∧ r1 < 12) (hq : q1 ≤ 12) (hM : MD f g1), ∀ (H : Heap) (locs : List Loc), mw G.1 vwCl B (mu (mu μ la (.inl (G.2 0, 78, .inr (.inl g1)))) s9 (.inl (G.2 0, 13, .inr (.inl g)))) H → va_S (fun q => B ≤ q) s.heap H locs → ∀ ls : Array Slot, lv_has ls 9 [(0, .ref h), (1, .int (nI r1)), (2, .int (nI p1)), (3, .int (nI q1))] → W p l e rm_X4_close s m args below meth c H locs 0 0 Q (F0 m 25 ls []) := by
            intro N25
            induction N25 with
            | zero => intro q1 g1 hN25; exact absurd hN25 (Nat.not_lt_zero _)
            | succ N25 ih25 =>
              intro q1 g1 hN25 hpo hq hM H locs hP hS ls hl
              refine lv_iload_n hx hb dX4_close_25 rfl (lv_at hl 3 rfl) ?_
              refine lv_bipush (v := nI 12) hx hb dX4_close_26 (by decide) ?_
              refine nv_icmp_ge (tgt := 139) hx hb (by omega) (by omega) dX4_close_28 (by decide) (fun hc28 => ?_) (fun hc28 => ?_)
              · refine lv_iinc (v := nI (p1 + 1)) (lv' := [(2, .int (nI (p1 + 1))), (0, .ref h), (1, .int (nI r1)), (3, .int (nI q1))]) hx hb dX4_close_139 hl (k := 2) rfl (nI_add _ _) (by decide) rfl (fun ls hl => ?_)
                refine lv_goto (tgt := 17) hx hb dX4_close_142 (by decide) ?_
                exact ih17 (p1 + 1) g1 (by omega) (by omega) (by omega) (hM) _ _ hP hS ls (lv_sub hl [1, 2, 0] rfl)
              · refine lv_aload_n hx hb dX4_close_31 rfl (lv_at hl 0 rfl) ?_
                refine mw_get (C := RX4) (T := TX4) (N := 4) hx hb hts in_X4_close_X4 hown hK hP ((mu_n ne0_4).trans ((mu_n ne0_3).trans (hh))) rfl 2 (by decide) (hts (.fieldLink RX4 22 "OctagonDesk$Shape" "cells" "[J") (by decide +kernel)) (fun _ h9 => h9) rfl dX4_close_32 ?_
                refine lv_iload_n hx hb dX4_close_35 rfl (lv_at hl 2 rfl) ?_
                refine lv_iload_n hx hb dX4_close_36 rfl (lv_at hl 1 rfl) ?_
                refine kc_i (va_runS (As := [.int (nI p1), .int (nI r1)]) (rest := [.ref la]) ⟨hx, hb, hml, hown, hts⟩ (c_X4_cell l G B (mu (mu μ la (.inl (G.2 0, 78, .inr (.inl g1)))) s9 (.inl (G.2 0, 13, .inr (.inl g)))) p1 r1 (by omega) (by omega)) (va_cwS 2 hts gX4_close_X4_cell rfl rfl rfl (by decide +kernel) ⟨Nat.le_of_ble_eq_true rfl, Nat.le_of_ble_eq_true rfl⟩) ⟨KW.blind, fun U9 hU9 hW9 => ⟨rfl, KW.pre hBs hKK hS hP U9 hU9 hW9⟩⟩ rfl rfl hl.1 rfl (lv_room (Nat.le_of_ble_eq_true rfl)) dX4_close_37 ⟨(Nat.le_of_ble_eq_true rfl), (Nat.le_of_ble_eq_true rfl)⟩) hS (fun r37 m37 H locs hq9 hP hz9 hS => ?_)
                obtain ⟨he9, rfl⟩ := hq9
                rw [he9] at hP
                have hix37 := ix_lt (p := p1) (q := r1) (by omega) (by omega)
                refine mw_lald hx hb hK hP 0 ((mu_n ((mp_ne ha hs9 (by simp)))).trans (mu_s _ _ _)) rfl (by omega) (by omega) dX4_close_40 ?_
                refine lv_ldc2 (v := (9223372036854775807)) hx hb hown (hts (.constantLong RX4 74 (9223372036854775807)) (by decide +kernel)) dX4_close_41 ?_
                refine nl_if_eq (tgt := 139) hx hb dX4_close_44 dX4_close_45 (by decide) (fun hc44 => ?_) (fun hc44 => ?_)
                · refine lv_iinc (v := nI (p1 + 1)) (lv' := [(2, .int (nI (p1 + 1))), (0, .ref h), (1, .int (nI r1)), (3, .int (nI q1))]) hx hb dX4_close_139 hl (k := 2) rfl (nI_add _ _) (by decide) rfl (fun ls hl => ?_)
                  refine lv_goto (tgt := 17) hx hb dX4_close_142 (by decide) ?_
                  exact ih17 (p1 + 1) g1 (by omega) (by omega) (by omega) (hM) _ _ hP hS ls (lv_sub hl [1, 2, 0] rfl)
                · refine lv_iload_n hx hb dX4_close_48 rfl (lv_at hl 2 rfl) ?_
                  refine lv_iload_n hx hb dX4_close_49 rfl (lv_at hl 3 rfl) ?_
                  refine kc_i (va_runS (As := [.int (nI p1), .int (nI q1)]) (rest := []) ⟨hx, hb, hml, hown, hts⟩ (c_X4_cell l G B (mu (mu μ la (.inl (G.2 0, 78, .inr (.inl g1)))) s9 (.inl (G.2 0, 13, .inr (.inl g)))) p1 q1 (by omega) (by omega)) (va_cwS 2 hts gX4_close_X4_cell rfl rfl rfl (by decide +kernel) ⟨Nat.le_of_ble_eq_true rfl, Nat.le_of_ble_eq_true rfl⟩) ⟨KW.blind, fun U9 hU9 hW9 => ⟨rfl, KW.pre hBs hKK hS hP U9 hU9 hW9⟩⟩ rfl rfl hl.1 rfl (lv_room (Nat.le_of_ble_eq_true rfl)) dX4_close_50 ⟨(Nat.le_of_ble_eq_true rfl), (Nat.le_of_ble_eq_true rfl)⟩) hS (fun r50 m50 H locs hq9 hP hz9 hS => ?_)
                  obtain ⟨he9, rfl⟩ := hq9
                  rw [he9] at hP
                  have hix50 := ix_lt (p := p1) (q := q1) (by omega) (by omega)
                  refine lv_istore (lv' := [(4, .int (nI (ix p1 q1))), (0, .ref h), (1, .int (nI r1)), (2, .int (nI p1)), (3, .int (nI q1))]) hx hb dX4_close_53 hl (by decide) rfl (fun ls hl => ?_)
                  refine lv_aload_n hx hb dX4_close_55 rfl (lv_at hl 1 rfl) ?_
                  refine mw_get (C := RX4) (T := TX4) (N := 4) hx hb hts in_X4_close_X4 hown hK hP ((mu_n ne0_4).trans ((mu_n ne0_3).trans (hh))) rfl 2 (by decide) (hts (.fieldLink RX4 22 "OctagonDesk$Shape" "cells" "[J") (by decide +kernel)) (fun _ h9 => h9) rfl dX4_close_56 ?_
                  refine lv_iload_n hx hb dX4_close_59 rfl (lv_at hl 3 rfl) ?_
                  refine lv_iload_n hx hb dX4_close_60 rfl (lv_at hl 2 rfl) ?_
                  refine kc_i (va_runS (As := [.int (nI p1), .int (nI r1)]) (rest := [.ref la]) ⟨hx, hb, hml, hown, hts⟩ (c_X4_cell l G B (mu (mu μ la (.inl (G.2 0, 78, .inr (.inl g1)))) s9 (.inl (G.2 0, 13, .inr (.inl g)))) p1 r1 (by omega) (by omega)) (va_cwS 2 hts gX4_close_X4_cell rfl rfl rfl (by decide +kernel) ⟨Nat.le_of_ble_eq_true rfl, Nat.le_of_ble_eq_true rfl⟩) ⟨KW.blind, fun U9 hU9 hW9 => ⟨rfl, KW.pre hBs hKK hS hP U9 hU9 hW9⟩⟩ rfl rfl hl.1 rfl (lv_room (Nat.le_of_ble_eq_true rfl)) dX4_close_61 ⟨(Nat.le_of_ble_eq_true rfl), (Nat.le_of_ble_eq_true rfl)⟩) hS (fun r61 m61 H locs hq9 hP hz9 hS => ?_)
                  obtain ⟨he9, rfl⟩ := hq9
                  rw [he9] at hP
                  have hix61 := ix_lt (p := p1) (q := r1) (by omega) (by omega)
                  refine mw_lald hx hb hK hP 0 ((mu_n ((mp_ne ha hs9 (by simp)))).trans (mu_s _ _ _)) rfl (by omega) (by omega) dX4_close_64 ?_
                  refine lv_topl (fun v65 ev65 => ?_)
                  refine lv_lstore (lv' := [(5, .long v65), (4, .int (nI (ix p1 q1))), (0, .ref h), (1, .int (nI r1)), (2, .int (nI p1)), (3, .int (nI q1))]) hx hb dX4_close_65 hl (by decide) rfl (fun ls hl => ?_)
                  refine lv_aload_n hx hb dX4_close_67 rfl (lv_at hl 2 rfl) ?_
                  refine mw_get (C := RX4) (T := TX4) (N := 4) hx hb hts in_X4_close_X4 hown hK hP ((mu_n ne0_4).trans ((mu_n ne0_3).trans (hh))) rfl 2 (by decide) (hts (.fieldLink RX4 22 "OctagonDesk$Shape" "cells" "[J") (by decide +kernel)) (fun _ h9 => h9) rfl dX4_close_68 ?_
                  refine lv_iload_n hx hb dX4_close_71 rfl (lv_at hl 3 rfl) ?_
                  refine kc_i (va_runSN (As := [.int (nI r1)]) (rest := [.ref la]) ⟨hx, hb, hml, hown, hts⟩ (c_X6_negation l G B (mu (mu μ la (.inl (G.2 0, 78, .inr (.inl g1)))) s9 (.inl (G.2 0, 13, .inr (.inl g)))) r1 (by omega)) ⟨va_cnB 1 hts gX4_close_X6_negation_n70 rfl rfl rfl hKK.2.1.1 (hts (.initialized RX6) (by decide +kernel)) (by decide +kernel) ⟨Nat.le_of_ble_eq_true rfl, Nat.le_of_ble_eq_true rfl⟩, hts (.static yX6_negation) (by decide +kernel), trivial⟩ ⟨KW.blind, fun U9 hU9 hW9 => ⟨rfl, KW.pre hBs hKK hS hP U9 hU9 hW9⟩⟩ rfl rfl hl.1 rfl (lv_room (Nat.le_of_ble_eq_true rfl)) dX4_close_72 ⟨(Nat.le_of_ble_eq_true rfl), (Nat.le_of_ble_eq_true rfl)⟩) hS (fun r72 m72 H locs hq9 hP hz9 hS => ?_)
                  obtain ⟨he9, rfl⟩ := hq9
                  rw [he9] at hP
                  have hne72 := ne_lt (p := r1) (by omega)
                  refine lv_iload_n hx hb dX4_close_75 rfl (lv_at hl 5 rfl) ?_
                  refine kc_i (va_runS (As := [.int (nI (ne r1)), .int (nI q1)]) (rest := [.ref la]) ⟨hx, hb, hml, hown, hts⟩ (c_X4_cell l G B (mu (mu μ la (.inl (G.2 0, 78, .inr (.inl g1)))) s9 (.inl (G.2 0, 13, .inr (.inl g)))) (ne r1) q1 (by omega) (by omega)) (va_cwS 2 hts gX4_close_X4_cell rfl rfl rfl (by decide +kernel) ⟨Nat.le_of_ble_eq_true rfl, Nat.le_of_ble_eq_true rfl⟩) ⟨KW.blind, fun U9 hU9 hW9 => ⟨rfl, KW.pre hBs hKK hS hP U9 hU9 hW9⟩⟩ rfl rfl hl.1 rfl (lv_room (Nat.le_of_ble_eq_true rfl)) dX4_close_76 ⟨(Nat.le_of_ble_eq_true rfl), (Nat.le_of_ble_eq_true rfl)⟩) hS (fun r76 m76 H locs hq9 hP hz9 hS => ?_)
                  obtain ⟨he9, rfl⟩ := hq9
                  rw [he9] at hP
                  have hix76 := ix_lt (p := ne r1) (q := q1) (by omega) (by omega)
                  refine mw_lald hx hb hK hP 0 ((mu_n ((mp_ne ha hs9 (by simp)))).trans (mu_s _ _ _)) rfl (by omega) (by omega) dX4_close_79 ?_
                  refine lv_topl (fun v80 ev80 => ?_)
                  refine lv_lstore (lv' := [(7, .long v80), (5, .long v65), (4, .int (nI (ix p1 q1))), (0, .ref h), (1, .int (nI r1)), (2, .int (nI p1)), (3, .int (nI q1))]) hx hb dX4_close_80 hl (by decide) rfl (fun ls hl => ?_)
                  refine lv_aload_n hx hb dX4_close_82 rfl (lv_at hl 3 rfl) ?_
                  refine mw_get (C := RX4) (T := TX4) (N := 4) hx hb hts in_X4_close_X4 hown hK hP ((mu_n ne0_4).trans ((mu_n ne0_3).trans (hh))) rfl 0 (by decide) (hts (.fieldLink RX4 9 "OctagonDesk$Shape" "bench" "LOctagonDesk$Bench;") (by decide +kernel)) (fun _ h9 => h9) rfl dX4_close_83 ?_
                  refine mw_get (C := RX0) (T := TX0) (N := 3) hx hb hts in_X4_close_X0 hown hK hP ((mu_n ne1_4).trans ((mu_n ne1_3).trans (hbn))) rfl 2 (by decide) (hts (.fieldLink RX4 103 "OctagonDesk$Bench" "loose" "[Z") (by decide +kernel)) (fun _ h9 => h9) rfl dX4_close_86 ?_
                  refine lv_iload hx hb dX4_close_89 (lv_at hl 2 rfl) ?_
                  refine mw_zald hx hb hK hP 2 ((mu_n ((mp_ne hlo hs9 (by simp)))).trans ((mu_n ((mp_ne hlo ha (by simp)))).trans (hlo))) rfl (by omega) (by omega) dX4_close_91 ?_
                  refine lv_if_eq (tgt := 133) hx hb dX4_close_92 (by decide) (fun hc92 => ?_) (fun hc92 => ?_)
                  · refine lv_iinc (v := nI (q1 + 1)) (lv' := [(3, .int (nI (q1 + 1))), (7, .long v80), (5, .long v65), (4, .int (nI (ix p1 q1))), (0, .ref h), (1, .int (nI r1)), (2, .int (nI p1))]) hx hb dX4_close_133 hl (k := 6) rfl (nI_add _ _) (by decide) rfl (fun ls hl => ?_)
                    refine lv_goto (tgt := 25) hx hb dX4_close_136 (by decide) ?_
                    exact ih25 (q1 + 1) g1 (by omega) (by omega) (by omega) (hM) _ _ hP hS ls (lv_sub hl [4, 5, 6, 0] rfl)
                  · refine lv_aload_n hx hb dX4_close_95 rfl (lv_at hl 3 rfl) ?_
                    refine mw_get (C := RX4) (T := TX4) (N := 4) hx hb hts in_X4_close_X4 hown hK hP ((mu_n ne0_4).trans ((mu_n ne0_3).trans (hh))) rfl 1 (by decide) (hts (.fieldLink RX4 21 "OctagonDesk$Shape" "numbers" "LOctagonDesk$Numbers;") (by decide +kernel)) (fun _ h9 => h9) rfl dX4_close_96 ?_
                    refine lv_lload hx hb dX4_close_99 (lv_at hl 1 rfl) ?_
                    refine lv_lload hx hb dX4_close_101 (lv_at hl 0 rfl) ?_
                    refine lv_aload_n hx hb dX4_close_103 rfl (lv_at hl 3 rfl) ?_
                    refine mw_get (C := RX4) (T := TX4) (N := 4) hx hb hts in_X4_close_X4 hown hK hP ((mu_n ne0_4).trans ((mu_n ne0_3).trans (hh))) rfl 2 (by decide) (hts (.fieldLink RX4 22 "OctagonDesk$Shape" "cells" "[J") (by decide +kernel)) (fun _ h9 => h9) rfl dX4_close_104 ?_
                    refine lv_iload hx hb dX4_close_107 (lv_at hl 2 rfl) ?_
                    refine mw_lald hx hb hK hP 0 ((mu_n ((mp_ne ha hs9 (by simp)))).trans (mu_s _ _ _)) rfl (by omega) (by omega) dX4_close_109 ?_
                    refine kc_i (va_runV (As := [.long v65, .long v80, .long (g1 (ix p1 q1))]) (rest := []) ⟨hx, hb, hml, hown, hts⟩ (c_X3_isSumLess l G B (mu (mu μ la (.inl (G.2 0, 78, .inr (.inl g1)))) s9 (.inl (G.2 0, 13, .inr (.inl g)))) nn nf v65 v80 (g1 (ix p1 q1)) ((mu_n ne2_4).trans ((mu_n ne2_3).trans (hnn))) (by rw [ev65]; exact hM.pn (by omega)) (by rw [ev80]; exact hM.pn (by omega)) (Pn.ng (hM.pn (by omega)))) (cwV 3 hts gX4_close_X3_isSumLess rfl rfl rfl (by decide +kernel) ⟨Nat.le_of_ble_eq_true rfl, Nat.le_of_ble_eq_true rfl⟩) ⟨KW.blind, hP.recv hK rfl ((mu_n ne2_4).trans ((mu_n ne2_3).trans (hnn))), fun U9 hU9 hW9 => ⟨rfl, KW.pre hBs hKK hS hP U9 hU9 hW9⟩⟩ rfl rfl hl.1 rfl (lv_room (Nat.le_of_ble_eq_true rfl)) dX4_close_110 ⟨(Nat.le_of_ble_eq_true rfl), (Nat.le_of_ble_eq_true rfl)⟩) hS (fun r110 m110 H locs hq9 hP hz9 hS => ?_)
                    obtain ⟨he9, hr110⟩ := hq9
                    rw [he9] at hP
                    refine lv_if_eq (tgt := 133) hx hb dX4_close_113 (by decide) (fun hc113 => ?_) (fun hc113 => ?_)
                    · refine lv_iinc (v := nI (q1 + 1)) (lv' := [(3, .int (nI (q1 + 1))), (7, .long v80), (5, .long v65), (4, .int (nI (ix p1 q1))), (0, .ref h), (1, .int (nI r1)), (2, .int (nI p1))]) hx hb dX4_close_133 hl (k := 6) rfl (nI_add _ _) (by decide) rfl (fun ls hl => ?_)
                      refine lv_goto (tgt := 25) hx hb dX4_close_136 (by decide) ?_
                      exact ih25 (q1 + 1) g1 (by omega) (by omega) (by omega) (hM) _ _ hP hS ls (lv_sub hl [4, 5, 6, 0] rfl)
                    · refine lv_aload_n hx hb dX4_close_116 rfl (lv_at hl 3 rfl) ?_
                      refine lv_iload hx hb dX4_close_117 (lv_at hl 2 rfl) ?_
                      refine lv_aload_n hx hb dX4_close_119 rfl (lv_at hl 3 rfl) ?_
                      refine mw_get (C := RX4) (T := TX4) (N := 4) hx hb hts in_X4_close_X4 hown hK hP ((mu_n ne0_4).trans ((mu_n ne0_3).trans (hh))) rfl 1 (by decide) (hts (.fieldLink RX4 21 "OctagonDesk$Shape" "numbers" "LOctagonDesk$Numbers;") (by decide +kernel)) (fun _ h9 => h9) rfl dX4_close_120 ?_
                      refine lv_lload hx hb dX4_close_123 (lv_at hl 1 rfl) ?_
                      refine lv_lload hx hb dX4_close_125 (lv_at hl 0 rfl) ?_
                      refine kc_l (va_runV (As := [.long v65, .long v80]) (rest := [.int (nI (ix p1 q1)), .ref h]) ⟨hx, hb, hml, hown, hts⟩ (c_X3_sum l G B (mu (mu μ la (.inl (G.2 0, 78, .inr (.inl g1)))) s9 (.inl (G.2 0, 13, .inr (.inl g)))) nn nf v65 v80 ((mu_n ne2_4).trans ((mu_n ne2_3).trans (hnn))) (by rw [ev65]; exact hM.pn (by omega)) (by rw [ev80]; exact hM.pn (by omega))) (cwV 2 hts gX4_close_X3_sum rfl rfl rfl (by decide +kernel) ⟨Nat.le_of_ble_eq_true rfl, Nat.le_of_ble_eq_true rfl⟩) ⟨KW.blind, hP.recv hK rfl ((mu_n ne2_4).trans ((mu_n ne2_3).trans (hnn))), fun U9 hU9 hW9 => ⟨rfl, KW.pre hBs hKK hS hP U9 hU9 hW9⟩⟩ rfl rfl hl.1 rfl (lv_room (Nat.le_of_ble_eq_true rfl)) dX4_close_127 ⟨(Nat.le_of_ble_eq_true rfl), (Nat.le_of_ble_eq_true rfl)⟩) hS (fun r127 m127 H locs hq9 hP hz9 hS => ?_)
                      obtain ⟨he9, hr127⟩ := hq9
                      rw [he9] at hP
                      refine kc_v (va_runV (As := [.int (nI (ix p1 q1)), .long r127]) (rest := []) ⟨hx, hb, hml, hown, hts⟩ (c_X4_put l G B (mu (mu μ la (.inl (G.2 0, 78, .inr (.inl g1)))) s9 (.inl (G.2 0, 13, .inr (.inl g)))) h bn nn la s9 lo 0 nf g1 g w9 (ix p1 q1) r127 ((mu_n ne0_4).trans ((mu_n ne0_3).trans (hh))) ((mu_n ne1_4).trans ((mu_n ne1_3).trans (hbn))) ((mu_n ne2_4).trans ((mu_n ne2_3).trans (hnn))) ((mu_n ((mp_ne ha hs9 (by simp)))).trans (mu_s _ _ _)) (mu_s _ _ _) ((mu_n ((mp_ne hlo hs9 (by simp)))).trans ((mu_n ((mp_ne hlo ha (by simp)))).trans (hlo))) (by omega) (Pn.ng (hM.pn (by omega))) (by rw [hr127]; exact sm_ng (by rw [ev65]; exact hM.pn (by omega)) (by rw [ev80]; exact hM.pn (by omega)))) (cwV 2 hts gX4_close_X4_put rfl rfl rfl (by decide +kernel) ⟨Nat.le_of_ble_eq_true rfl, Nat.le_of_ble_eq_true rfl⟩) ⟨KW.blind, hP.recv hK rfl ((mu_n ne0_4).trans ((mu_n ne0_3).trans (hh))), fun U9 hU9 hW9 => ⟨rfl, KW.pre hBs hKK hS hP U9 hU9 hW9⟩⟩ rfl rfl hl.1 rfl (lv_room (Nat.le_of_ble_eq_true rfl)) dX4_close_130 ⟨(Nat.le_of_ble_eq_true rfl), (Nat.le_of_ble_eq_true rfl)⟩) hS (fun m130 H locs hq9 hP hz9 hS => ?_)
                      rw [hq9] at hP
                      have hP : mw G.1 vwCl B (mu (mu μ la (.inl (G.2 0, 78, .inr (.inl (vp_updL g1 (ix p1 q1) r127))))) s9 (.inl (G.2 0, 13, .inr (.inl g)))) _ := mw_eq ((mu_c _ _ ((mp_ne hs9 ha (by simp)))).trans (congrArg (fun z => mu z s9 (.inl (G.2 0, 13, .inr (.inl g)))) (mu_u _ _ _ _))) hP
                      refine lv_iinc (v := nI (q1 + 1)) (lv' := [(3, .int (nI (q1 + 1))), (7, .long v80), (5, .long v65), (4, .int (nI (ix p1 q1))), (0, .ref h), (1, .int (nI r1)), (2, .int (nI p1))]) hx hb dX4_close_133 hl (k := 6) rfl (nI_add _ _) (by decide) rfl (fun ls hl => ?_)
                      refine lv_goto (tgt := 25) hx hb dX4_close_136 (by decide) ?_
                      exact ih25 (q1 + 1) (vp_updL g1 (ix p1 q1) r127) (by omega) (by omega) (by omega) (cl_1 (by omega) (by omega) (by omega) hM ev65 ev80 hr110 hc113 hr127) _ _ hP hS ls (lv_sub hl [4, 5, 6, 0] rfl)
          refine lv_iload_n hx hb dX4_close_17 rfl (lv_at hl 2 rfl) ?_
          refine lv_bipush (v := nI 12) hx hb dX4_close_18 (by decide) ?_
          refine nv_icmp_ge (tgt := 145) hx hb (by omega) (by omega) dX4_close_20 (by decide) (fun hc20 => ?_) (fun hc20 => ?_)
          · refine lv_aload_n hx hb dX4_close_145 rfl (lv_at hl 0 rfl) ?_
            refine kc_v (va_runV (As := []) (rest := []) ⟨hx, hb, hml, hown, hts⟩ (c_X4_findContradiction l G B (mu (mu μ la (.inl (G.2 0, 78, .inr (.inl g1)))) s9 (.inl (G.2 0, 13, .inr (.inl g)))) h bn nn la s9 lo nf g1 g w9  ((mu_n ne0_4).trans ((mu_n ne0_3).trans (hh))) ((mu_n ne1_4).trans ((mu_n ne1_3).trans (hbn))) ((mu_n ne2_4).trans ((mu_n ne2_3).trans (hnn))) ((mu_n ((mp_ne ha hs9 (by simp)))).trans (mu_s _ _ _)) (mu_s _ _ _) ((mu_n ((mp_ne hlo hs9 (by simp)))).trans ((mu_n ((mp_ne hlo ha (by simp)))).trans (hlo))) (hM.ok)) (cwV 0 hts gX4_close_X4_findContradiction rfl rfl rfl (by decide +kernel) ⟨Nat.le_of_ble_eq_true rfl, Nat.le_of_ble_eq_true rfl⟩) ⟨KW.blind, hP.recv hK rfl ((mu_n ne0_4).trans ((mu_n ne0_3).trans (hh))), fun U9 hU9 hW9 => ⟨rfl, KW.pre hBs hKK hS hP U9 hU9 hW9⟩⟩ rfl rfl hl.1 rfl (lv_room (Nat.le_of_ble_eq_true rfl)) dX4_close_146 ⟨(Nat.le_of_ble_eq_true rfl), (Nat.le_of_ble_eq_true rfl)⟩) hS (fun m146 H locs hq9 hP hz9 hS => ?_)
            rw [hq9] at hP
            refine lv_iinc (v := nI (r1 + 1)) (lv' := [(1, .int (nI (r1 + 1))), (0, .ref h), (2, .int (nI p1))]) hx hb dX4_close_149 hl (k := 1) rfl (nI_add _ _) (by decide) rfl (fun ls hl => ?_)
            refine lv_goto (tgt := 2) hx hb dX4_close_152 (by decide) ?_
            exact ih2 (r1 + 1) g1 (by omega) (by omega) (hM) _ _ hP hS ls (lv_sub hl [1, 0] rfl)
          · refine lv_iconst (v := nI 0) hx hb dX4_close_23 (by decide) ?_
            refine lv_istore_n (lv' := [(3, .int (nI 0)), (0, .ref h), (1, .int (nI r1)), (2, .int (nI p1))]) hx hb dX4_close_24 rfl hl (by decide) rfl (fun ls hl => ?_)
            exact L25 _ 0 g1 (Nat.lt_succ_self _) (by omega) (by omega) (hM) _ _ hP hS ls (lv_sub hl [1, 2, 3, 0] rfl)
      refine lv_iload_n hx hb dX4_close_2 rfl (lv_at hl 1 rfl) ?_
      refine lv_bipush (v := nI 12) hx hb dX4_close_3 (by decide) ?_
      refine nv_icmp_ge (tgt := 155) hx hb (by omega) (by omega) dX4_close_5 (by decide) (fun hc5 => ?_) (fun hc5 => ?_)
      · refine lv_aload_n hx hb dX4_close_155 rfl (lv_at hl 0 rfl) ?_
        refine kc_v (va_runV (As := []) (rest := []) ⟨hx, hb, hml, hown, hts⟩ (c_X4_combineSingles l G B (mu (mu μ la (.inl (G.2 0, 78, .inr (.inl g1)))) s9 (.inl (G.2 0, 13, .inr (.inl g)))) h bn nn la s9 lo nf g1 g w9  ((mu_n ne0_4).trans ((mu_n ne0_3).trans (hh))) ((mu_n ne1_4).trans ((mu_n ne1_3).trans (hbn))) ((mu_n ne2_4).trans ((mu_n ne2_3).trans (hnn))) ((mu_n ((mp_ne ha hs9 (by simp)))).trans (mu_s _ _ _)) (mu_s _ _ _) ((mu_n ((mp_ne hlo hs9 (by simp)))).trans ((mu_n ((mp_ne hlo ha (by simp)))).trans (hlo))) (hM.ok) (hSn)) (cwV 0 hts gX4_close_X4_combineSingles rfl rfl rfl (by decide +kernel) ⟨Nat.le_of_ble_eq_true rfl, Nat.le_of_ble_eq_true rfl⟩) ⟨KW.blind, hP.recv hK rfl ((mu_n ne0_4).trans ((mu_n ne0_3).trans (hh))), fun U9 hU9 hW9 => ⟨rfl, KW.pre hBs hKK hS hP U9 hU9 hW9⟩⟩ rfl rfl hl.1 rfl (lv_room (Nat.le_of_ble_eq_true rfl)) dX4_close_156 ⟨(Nat.le_of_ble_eq_true rfl), (Nat.le_of_ble_eq_true rfl)⟩) hS (fun m156 H locs hq9 hP hz9 hS => ?_)
        obtain ⟨f156, g156, rfl, hM156, hN156⟩ := hq9
        have hP : mw G.1 vwCl B (mu (mu μ la (.inl (G.2 0, 78, .inr (.inl f156)))) s9 (.inl (G.2 0, 13, .inr (.inl g156)))) _ := mw_eq ((congrArg (fun z => mu z s9 (.inl (G.2 0, 13, .inr (.inl g156)))) ((mu_c _ _ ((mp_ne hs9 ha (by simp)))).trans (congrArg (fun z => mu z s9 (.inl (G.2 0, 13, .inr (.inl g)))) (mu_u _ _ _ _)))).trans (mu_u _ _ _ _)) hP
        rw [hQ]
        exact W.vret hx hb hr (fun t99 ht99 hW99 => ⟨⟨mu (mu μ la (.inl (G.2 0, 78, .inr (.inl f156)))) s9 (.inl (G.2 0, 13, .inr (.inl g156))), rfl, (⟨_, _, rfl, hM.tr hM156, hN156⟩), by show mw _ _ _ _ t99.heap; rw [ht99]; exact hP⟩, hS.F ht99⟩) hS.2.2 dX4_close_159
      · refine lv_aload_n hx hb dX4_close_8 rfl (lv_at hl 0 rfl) ?_
        refine mw_get (C := RX4) (T := TX4) (N := 4) hx hb hts in_X4_close_X4 hown hK hP ((mu_n ne0_4).trans ((mu_n ne0_3).trans (hh))) rfl 3 (by decide) (hts (.fieldLink RX4 26 "OctagonDesk$Shape" "empty" "Z") (by decide +kernel)) (fun _ h9 => h9) rfl dX4_close_9 ?_
        refine lv_if_ne (tgt := 155) hx hb dX4_close_12 (by decide) (fun hc12 => ?_) (fun hc12 => ?_)
        · exact absurd rfl hc12
        · refine lv_iconst (v := nI 0) hx hb dX4_close_15 (by decide) ?_
          refine lv_istore_n (lv' := [(2, .int (nI 0)), (0, .ref h), (1, .int (nI r1))]) hx hb dX4_close_16 rfl hl (by decide) rfl (fun ls hl => ?_)
          exact L17 _ 0 g1 (Nat.lt_succ_self _) (by omega) (by omega) (hM) _ _ hP hS ls (lv_sub hl [1, 2, 0] rfl)
  have hl := lv_entry ([.ref h]) (n := 9) (Nat.le_of_ble_eq_true rfl)
  have he9 : entryFrame m args 9 = entryFrame m ([.ref h] : List Value).toArray 9 := by rw [hargs]
  rw [he9, lg_entry_eq]
  generalize (lg_sl ([.ref h]) ++ List.replicate (9 - (lg_sl ([.ref h])).length) Slot.unset).toArray = ls at hl ⊢
  have hl : lv_has ls 9 [(0, .ref h)] := hl
  refine lv_iconst (v := nI 0) hx hb dX4_close_0 (by decide) ?_
  refine lv_istore_n (lv' := [(1, .int (nI 0)), (0, .ref h)]) hx hb dX4_close_1 rfl hl (by decide) rfl (fun ls hl => ?_)
  exact L2 _ 0 f (Nat.lt_succ_self _) (by omega) (MD.rf hOk) _ _ hP hS ls (lv_sub hl [1, 0] rfl)

abbrev rm_X4_holdToSpare : Room := { frames := 4, cells := 0, slots := 0, locals := 97 }
set_option maxHeartbeats 4000000 in
set_option maxRecDepth 100000 in
theorem c_X4_holdToSpare (l : Launch) (G : GG) (B : Nat) (μ : mp) (h bn nn la s9 lo : Nat) (nf : List Value) (f g : Nat → Int64) (w9 : Nat → Int32) (p9 q9 : Nat) (hh : μ h = some (.inr (4, [.ref bn, .ref nn, .ref la, .int (nI 0)]))) (hbn : μ bn = some (.inr (0, [.ref nn, .ref s9, .ref lo]))) (hnn : μ nn = some (.inr (3, nf))) (ha : μ la = some (.inl (G.2 0, 78, .inr (.inl f)))) (hs9 : μ s9 = some (.inl (G.2 0, 13, .inr (.inl g)))) (hlo : μ lo = some (.inl (G.2 2, 78, .inl w9))) (hp9 : p9 < 12) (hq9a : q9 < 12) (hOk : Ok f) (hSn : Sn g) (hU : g 12 < f (ix p9 q9) → Ok (vp_updL f (ix p9 q9) (g 12))) : Met l yX4_holdToSpare wsX4_holdToSpare rm_X4_holdToSpare (va_Pc [.ref h, .int (nI p9), .int (nI q9)] (KW G B μ)) (va_Qv (fun μ2 => ∃ f9 g9 : Nat → Int64, μ2 = mu (mu μ la (.inl (G.2 0, 78, .inr (.inl f9)))) s9 (.inl (G.2 0, 13, .inr (.inl g9))) ∧ HP f g f9 p9 q9 ∧ Sn g9) (BB G B) (fun q => B ≤ q)) 0 0 (fun q => B ≤ q) := by
  refine Met.ofW (cc := cX4_holdToSpare) (maxL := 3) (ret := none) (by decide) rfl ?_
  intro p e s m args below meth c s₁ B9 hml hv
  obtain ⟨hargs, hBs, hP, hKK⟩ := hv
  have hx := B9.exec
  have hb := B9.bytes
  have hr := B9.returns
  have hts := atoms_spec (ws := wsX4_holdToSpare) B9.pre
  have hown : s.vm.findClass RX4 = some m.cls := findClass_of_methodNamed B9.named
  have hlocks := B9.notSynchronized
  have hK := hKK.k
  have hS : va_S (fun q => B ≤ q) s.heap s.heap [] := va_S.rf
  obtain ⟨Q, hQ⟩ : ∃ Q, Q = MQ below (va_Qv (fun μ2 => ∃ f9 g9 : Nat → Int64, μ2 = mu (mu μ la (.inl (G.2 0, 78, .inr (.inl f9)))) s9 (.inl (G.2 0, 13, .inr (.inl g9))) ∧ HP f g f9 p9 q9 ∧ Sn g9) (BB G B) (fun q => B ≤ q)) args s 0 0 (fun q => B ≤ q) := ⟨_, rfl⟩
  rw [← hQ]
  have ne0_1 : h ≠ bn := mp_ne hh hbn (by simp)
  have ne0_2 : h ≠ nn := mp_ne hh hnn (by simp)
  have ne0_3 : h ≠ la := mp_ne hh ha (by simp)
  have ne0_4 : h ≠ s9 := mp_ne hh hs9 (by simp)
  have ne0_5 : h ≠ lo := mp_ne hh hlo (by simp)
  have ne1_2 : bn ≠ nn := mp_ne hbn hnn (by simp)
  have ne1_3 : bn ≠ la := mp_ne hbn ha (by simp)
  have ne1_4 : bn ≠ s9 := mp_ne hbn hs9 (by simp)
  have ne1_5 : bn ≠ lo := mp_ne hbn hlo (by simp)
  have ne2_3 : nn ≠ la := mp_ne hnn ha (by simp)
  have ne2_4 : nn ≠ s9 := mp_ne hnn hs9 (by simp)
  have ne2_5 : nn ≠ lo := mp_ne hnn hlo (by simp)
  have in_X4_holdToSpare_X0 : ∀ w ∈ wsX00, w ∈ wsX4_holdToSpare := by decide +kernel
  have in_X4_holdToSpare_X4 : ∀ w ∈ wsX40, w ∈ wsX4_holdToSpare := by decide +kernel
  have hP : mw G.1 vwCl B (mu (mu μ la (.inl (G.2 0, 78, .inr (.inl f)))) s9 (.inl (G.2 0, 13, .inr (.inl g)))) s.heap := mw_eq ((congrArg (fun z => mu z s9 (.inl (G.2 0, 13, .inr (.inl g)))) (mu_i ha)).trans (mu_i hs9)).symm hP
  have hl := lv_entry ([.ref h, .int (nI p9), .int (nI q9)]) (n := 3) (Nat.le_of_ble_eq_true rfl)
  have he9 : entryFrame m args 3 = entryFrame m ([.ref h, .int (nI p9), .int (nI q9)] : List Value).toArray 3 := by rw [hargs]
  rw [he9, lg_entry_eq]
  generalize (lg_sl ([.ref h, .int (nI p9), .int (nI q9)]) ++ List.replicate (3 - (lg_sl ([.ref h, .int (nI p9), .int (nI q9)])).length) Slot.unset).toArray = ls at hl ⊢
  have hl : lv_has ls 3 [(0, .ref h), (1, .int (nI p9)), (2, .int (nI q9))] := hl
  refine lv_aload_n hx hb dX4_holdToSpare_0 rfl (lv_at hl 0 rfl) ?_
  refine mw_get (C := RX4) (T := TX4) (N := 4) hx hb hts in_X4_holdToSpare_X4 hown hK hP ((mu_n ne0_4).trans ((mu_n ne0_3).trans (hh))) rfl 1 (by decide) (hts (.fieldLink RX4 21 "OctagonDesk$Shape" "numbers" "LOctagonDesk$Numbers;") (by decide +kernel)) (fun _ h9 => h9) rfl dX4_holdToSpare_1 ?_
  refine lv_aload_n hx hb dX4_holdToSpare_4 rfl (lv_at hl 0 rfl) ?_
  refine mw_get (C := RX4) (T := TX4) (N := 4) hx hb hts in_X4_holdToSpare_X4 hown hK hP ((mu_n ne0_4).trans ((mu_n ne0_3).trans (hh))) rfl 0 (by decide) (hts (.fieldLink RX4 9 "OctagonDesk$Shape" "bench" "LOctagonDesk$Bench;") (by decide +kernel)) (fun _ h9 => h9) rfl dX4_holdToSpare_5 ?_
  refine mw_get (C := RX0) (T := TX0) (N := 3) hx hb hts in_X4_holdToSpare_X0 hown hK hP ((mu_n ne1_4).trans ((mu_n ne1_3).trans (hbn))) rfl 1 (by decide) (hts (.fieldLink RX4 76 "OctagonDesk$Bench" "scratch" "[J") (by decide +kernel)) (fun _ h9 => h9) rfl dX4_holdToSpare_8 ?_
  refine lv_bipush (v := nI 12) hx hb dX4_holdToSpare_11 (by decide) ?_
  refine mw_lald hx hb hK hP 0 (mu_s _ _ _) rfl (by omega) (by omega) dX4_holdToSpare_13 ?_
  refine lv_aload_n hx hb dX4_holdToSpare_14 rfl (lv_at hl 0 rfl) ?_
  refine mw_get (C := RX4) (T := TX4) (N := 4) hx hb hts in_X4_holdToSpare_X4 hown hK hP ((mu_n ne0_4).trans ((mu_n ne0_3).trans (hh))) rfl 2 (by decide) (hts (.fieldLink RX4 22 "OctagonDesk$Shape" "cells" "[J") (by decide +kernel)) (fun _ h9 => h9) rfl dX4_holdToSpare_15 ?_
  refine lv_iload_n hx hb dX4_holdToSpare_18 rfl (lv_at hl 1 rfl) ?_
  refine lv_iload_n hx hb dX4_holdToSpare_19 rfl (lv_at hl 2 rfl) ?_
  refine kc_i (va_runS (As := [.int (nI p9), .int (nI q9)]) (rest := [.ref la, .long (g 12), .ref nn]) ⟨hx, hb, hml, hown, hts⟩ (c_X4_cell l G B (mu (mu μ la (.inl (G.2 0, 78, .inr (.inl f)))) s9 (.inl (G.2 0, 13, .inr (.inl g)))) p9 q9 (by omega) (by omega)) (va_cwS 2 hts gX4_holdToSpare_X4_cell rfl rfl rfl (by decide +kernel) ⟨Nat.le_of_ble_eq_true rfl, Nat.le_of_ble_eq_true rfl⟩) ⟨KW.blind, fun U9 hU9 hW9 => ⟨rfl, KW.pre hBs hKK hS hP U9 hU9 hW9⟩⟩ rfl rfl hl.1 rfl (lv_room (Nat.le_of_ble_eq_true rfl)) dX4_holdToSpare_20 ⟨(Nat.le_of_ble_eq_true rfl), (Nat.le_of_ble_eq_true rfl)⟩) hS (fun r20 m20 H locs hq9 hP hz9 hS => ?_)
  obtain ⟨he9, rfl⟩ := hq9
  rw [he9] at hP
  have hix20 := ix_lt (p := p9) (q := q9) (by omega) (by omega)
  refine mw_lald hx hb hK hP 0 ((mu_n ((mp_ne ha hs9 (by simp)))).trans (mu_s _ _ _)) rfl (by omega) (by omega) dX4_holdToSpare_23 ?_
  refine kc_i (va_runV (As := [.long (g 12), .long (f (ix p9 q9))]) (rest := []) ⟨hx, hb, hml, hown, hts⟩ (c_X3_isLess l G B (mu (mu μ la (.inl (G.2 0, 78, .inr (.inl f)))) s9 (.inl (G.2 0, 13, .inr (.inl g)))) nn nf (g 12) (f (ix p9 q9)) ((mu_n ne2_4).trans ((mu_n ne2_3).trans (hnn))) (hSn _ (by omega)) (Pn.ng (hOk.pn (by omega)))) (cwV 2 hts gX4_holdToSpare_X3_isLess rfl rfl rfl (by decide +kernel) ⟨Nat.le_of_ble_eq_true rfl, Nat.le_of_ble_eq_true rfl⟩) ⟨KW.blind, hP.recv hK rfl ((mu_n ne2_4).trans ((mu_n ne2_3).trans (hnn))), fun U9 hU9 hW9 => ⟨rfl, KW.pre hBs hKK hS hP U9 hU9 hW9⟩⟩ rfl rfl hl.1 rfl (lv_room (Nat.le_of_ble_eq_true rfl)) dX4_holdToSpare_24 ⟨(Nat.le_of_ble_eq_true rfl), (Nat.le_of_ble_eq_true rfl)⟩) hS (fun r24 m24 H locs hq9 hP hz9 hS => ?_)
  obtain ⟨he9, hr24⟩ := hq9
  rw [he9] at hP
  refine lv_if_ne (tgt := 31) hx hb dX4_holdToSpare_27 (by decide) (fun hc27 => ?_) (fun hc27 => ?_)
  · refine lv_aload_n hx hb dX4_holdToSpare_31 rfl (lv_at hl 0 rfl) ?_
    refine lv_iload_n hx hb dX4_holdToSpare_32 rfl (lv_at hl 1 rfl) ?_
    refine lv_iload_n hx hb dX4_holdToSpare_33 rfl (lv_at hl 2 rfl) ?_
    refine kc_i (va_runS (As := [.int (nI p9), .int (nI q9)]) (rest := [.ref h]) ⟨hx, hb, hml, hown, hts⟩ (c_X4_cell l G B (mu (mu μ la (.inl (G.2 0, 78, .inr (.inl f)))) s9 (.inl (G.2 0, 13, .inr (.inl g)))) p9 q9 (by omega) (by omega)) (va_cwS 2 hts gX4_holdToSpare_X4_cell rfl rfl rfl (by decide +kernel) ⟨Nat.le_of_ble_eq_true rfl, Nat.le_of_ble_eq_true rfl⟩) ⟨KW.blind, fun U9 hU9 hW9 => ⟨rfl, KW.pre hBs hKK hS hP U9 hU9 hW9⟩⟩ rfl rfl hl.1 rfl (lv_room (Nat.le_of_ble_eq_true rfl)) dX4_holdToSpare_34 ⟨(Nat.le_of_ble_eq_true rfl), (Nat.le_of_ble_eq_true rfl)⟩) hS (fun r34 m34 H locs hq9 hP hz9 hS => ?_)
    obtain ⟨he9, rfl⟩ := hq9
    rw [he9] at hP
    have hix34 := ix_lt (p := p9) (q := q9) (by omega) (by omega)
    refine lv_aload_n hx hb dX4_holdToSpare_37 rfl (lv_at hl 0 rfl) ?_
    refine mw_get (C := RX4) (T := TX4) (N := 4) hx hb hts in_X4_holdToSpare_X4 hown hK hP ((mu_n ne0_4).trans ((mu_n ne0_3).trans (hh))) rfl 0 (by decide) (hts (.fieldLink RX4 9 "OctagonDesk$Shape" "bench" "LOctagonDesk$Bench;") (by decide +kernel)) (fun _ h9 => h9) rfl dX4_holdToSpare_38 ?_
    refine mw_get (C := RX0) (T := TX0) (N := 3) hx hb hts in_X4_holdToSpare_X0 hown hK hP ((mu_n ne1_4).trans ((mu_n ne1_3).trans (hbn))) rfl 1 (by decide) (hts (.fieldLink RX4 76 "OctagonDesk$Bench" "scratch" "[J") (by decide +kernel)) (fun _ h9 => h9) rfl dX4_holdToSpare_41 ?_
    refine lv_bipush (v := nI 12) hx hb dX4_holdToSpare_44 (by decide) ?_
    refine mw_lald hx hb hK hP 0 (mu_s _ _ _) rfl (by omega) (by omega) dX4_holdToSpare_46 ?_
    refine kc_v (va_runV (As := [.int (nI (ix p9 q9)), .long (g 12)]) (rest := []) ⟨hx, hb, hml, hown, hts⟩ (c_X4_put l G B (mu (mu μ la (.inl (G.2 0, 78, .inr (.inl f)))) s9 (.inl (G.2 0, 13, .inr (.inl g)))) h bn nn la s9 lo 0 nf f g w9 (ix p9 q9) (g 12) ((mu_n ne0_4).trans ((mu_n ne0_3).trans (hh))) ((mu_n ne1_4).trans ((mu_n ne1_3).trans (hbn))) ((mu_n ne2_4).trans ((mu_n ne2_3).trans (hnn))) ((mu_n ((mp_ne ha hs9 (by simp)))).trans (mu_s _ _ _)) (mu_s _ _ _) ((mu_n ((mp_ne hlo hs9 (by simp)))).trans ((mu_n ((mp_ne hlo ha (by simp)))).trans (hlo))) (by omega) (Pn.ng (hOk.pn (by omega))) (Pn.ng (hSn _ (by omega)))) (cwV 2 hts gX4_holdToSpare_X4_put rfl rfl rfl (by decide +kernel) ⟨Nat.le_of_ble_eq_true rfl, Nat.le_of_ble_eq_true rfl⟩) ⟨KW.blind, hP.recv hK rfl ((mu_n ne0_4).trans ((mu_n ne0_3).trans (hh))), fun U9 hU9 hW9 => ⟨rfl, KW.pre hBs hKK hS hP U9 hU9 hW9⟩⟩ rfl rfl hl.1 rfl (lv_room (Nat.le_of_ble_eq_true rfl)) dX4_holdToSpare_47 ⟨(Nat.le_of_ble_eq_true rfl), (Nat.le_of_ble_eq_true rfl)⟩) hS (fun m47 H locs hq9 hP hz9 hS => ?_)
    rw [hq9] at hP
    have hP : mw G.1 vwCl B (mu (mu μ la (.inl (G.2 0, 78, .inr (.inl (vp_updL f (ix p9 q9) (g 12)))))) s9 (.inl (G.2 0, 13, .inr (.inl g)))) _ := mw_eq ((mu_c _ _ ((mp_ne hs9 ha (by simp)))).trans (congrArg (fun z => mu z s9 (.inl (G.2 0, 13, .inr (.inl g)))) (mu_u _ _ _ _))) hP
    have hU1 := hU (b1_1 hr24 hc27)
    refine lv_aload_n hx hb dX4_holdToSpare_50 rfl (lv_at hl 0 rfl) ?_
    refine lv_iload_n hx hb dX4_holdToSpare_51 rfl (lv_at hl 1 rfl) ?_
    refine lv_iload_n hx hb dX4_holdToSpare_52 rfl (lv_at hl 2 rfl) ?_
    refine kc_v (va_runV (As := [.int (nI p9), .int (nI q9)]) (rest := []) ⟨hx, hb, hml, hown, hts⟩ (c_X4_passThrough l G B (mu (mu μ la (.inl (G.2 0, 78, .inr (.inl (vp_updL f (ix p9 q9) (g 12)))))) s9 (.inl (G.2 0, 13, .inr (.inl g)))) h bn nn la s9 lo nf (vp_updL f (ix p9 q9) (g 12)) g w9 p9 q9 ((mu_n ne0_4).trans ((mu_n ne0_3).trans (hh))) ((mu_n ne1_4).trans ((mu_n ne1_3).trans (hbn))) ((mu_n ne2_4).trans ((mu_n ne2_3).trans (hnn))) ((mu_n ((mp_ne ha hs9 (by simp)))).trans (mu_s _ _ _)) (mu_s _ _ _) ((mu_n ((mp_ne hlo hs9 (by simp)))).trans ((mu_n ((mp_ne hlo ha (by simp)))).trans (hlo))) (by omega) (by omega) (hU1) (hSn)) (cwV 2 hts gX4_holdToSpare_X4_passThrough rfl rfl rfl (by decide +kernel) ⟨Nat.le_of_ble_eq_true rfl, Nat.le_of_ble_eq_true rfl⟩) ⟨KW.blind, hP.recv hK rfl ((mu_n ne0_4).trans ((mu_n ne0_3).trans (hh))), fun U9 hU9 hW9 => ⟨rfl, KW.pre hBs hKK hS hP U9 hU9 hW9⟩⟩ rfl rfl hl.1 rfl (lv_room (Nat.le_of_ble_eq_true rfl)) dX4_holdToSpare_53 ⟨(Nat.le_of_ble_eq_true rfl), (Nat.le_of_ble_eq_true rfl)⟩) hS (fun m53 H locs hq9 hP hz9 hS => ?_)
    obtain ⟨f53, g53, rfl, hM53, hN53⟩ := hq9
    have hP : mw G.1 vwCl B (mu (mu μ la (.inl (G.2 0, 78, .inr (.inl f53)))) s9 (.inl (G.2 0, 13, .inr (.inl g53)))) _ := mw_eq ((congrArg (fun z => mu z s9 (.inl (G.2 0, 13, .inr (.inl g53)))) ((mu_c _ _ ((mp_ne hs9 ha (by simp)))).trans (congrArg (fun z => mu z s9 (.inl (G.2 0, 13, .inr (.inl g)))) (mu_u _ _ _ _)))).trans (mu_u _ _ _ _)) hP
    refine lv_iload_n hx hb dX4_holdToSpare_56 rfl (lv_at hl 1 rfl) ?_
    refine lv_iload_n hx hb dX4_holdToSpare_57 rfl (lv_at hl 2 rfl) ?_
    refine nv_icmp_eq (tgt := 67) hx hb (by omega) (by omega) dX4_holdToSpare_58 (by decide) (fun hc58 => ?_) (fun hc58 => ?_)
    · refine lv_aload_n hx hb dX4_holdToSpare_67 rfl (lv_at hl 0 rfl) ?_
      refine kc_v (va_runV (As := []) (rest := []) ⟨hx, hb, hml, hown, hts⟩ (c_X4_combineSingles l G B (mu (mu μ la (.inl (G.2 0, 78, .inr (.inl f53)))) s9 (.inl (G.2 0, 13, .inr (.inl g53)))) h bn nn la s9 lo nf f53 g53 w9  ((mu_n ne0_4).trans ((mu_n ne0_3).trans (hh))) ((mu_n ne1_4).trans ((mu_n ne1_3).trans (hbn))) ((mu_n ne2_4).trans ((mu_n ne2_3).trans (hnn))) ((mu_n ((mp_ne ha hs9 (by simp)))).trans (mu_s _ _ _)) (mu_s _ _ _) ((mu_n ((mp_ne hlo hs9 (by simp)))).trans ((mu_n ((mp_ne hlo ha (by simp)))).trans (hlo))) (hM53.ok) (hN53)) (cwV 0 hts gX4_holdToSpare_X4_combineSingles rfl rfl rfl (by decide +kernel) ⟨Nat.le_of_ble_eq_true rfl, Nat.le_of_ble_eq_true rfl⟩) ⟨KW.blind, hP.recv hK rfl ((mu_n ne0_4).trans ((mu_n ne0_3).trans (hh))), fun U9 hU9 hW9 => ⟨rfl, KW.pre hBs hKK hS hP U9 hU9 hW9⟩⟩ rfl rfl hl.1 rfl (lv_room (Nat.le_of_ble_eq_true rfl)) dX4_holdToSpare_68 ⟨(Nat.le_of_ble_eq_true rfl), (Nat.le_of_ble_eq_true rfl)⟩) hS (fun m68 H locs hq9 hP hz9 hS => ?_)
      obtain ⟨f68, g68, rfl, hM68, hN68⟩ := hq9
      have hP : mw G.1 vwCl B (mu (mu μ la (.inl (G.2 0, 78, .inr (.inl f68)))) s9 (.inl (G.2 0, 13, .inr (.inl g68)))) _ := mw_eq ((congrArg (fun z => mu z s9 (.inl (G.2 0, 13, .inr (.inl g68)))) ((mu_c _ _ ((mp_ne hs9 ha (by simp)))).trans (congrArg (fun z => mu z s9 (.inl (G.2 0, 13, .inr (.inl g53)))) (mu_u _ _ _ _)))).trans (mu_u _ _ _ _)) hP
      refine lv_aload_n hx hb dX4_holdToSpare_71 rfl (lv_at hl 0 rfl) ?_
      refine mw_get (C := RX4) (T := TX4) (N := 4) hx hb hts in_X4_holdToSpare_X4 hown hK hP ((mu_n ne0_4).trans ((mu_n ne0_3).trans (hh))) rfl 3 (by decide) (hts (.fieldLink RX4 26 "OctagonDesk$Shape" "empty" "Z") (by decide +kernel)) (fun _ h9 => h9) rfl dX4_holdToSpare_72 ?_
      refine lv_if_eq (tgt := 82) hx hb dX4_holdToSpare_75 (by decide) (fun hc75 => ?_) (fun hc75 => ?_)
      · rw [hQ]
        exact W.vret hx hb hr (fun t99 ht99 hW99 => ⟨⟨mu (mu μ la (.inl (G.2 0, 78, .inr (.inl f68)))) s9 (.inl (G.2 0, 13, .inr (.inl g68))), rfl, (⟨_, _, rfl, Or.inr ⟨b1_1 hr24 hc27, (hM53).tr hM68⟩, hN68⟩), by show mw _ _ _ _ t99.heap; rw [ht99]; exact hP⟩, hS.F ht99⟩) hS.2.2 dX4_holdToSpare_82
      · exact absurd rfl hc75
    · refine lv_aload_n hx hb dX4_holdToSpare_61 rfl (lv_at hl 0 rfl) ?_
      refine lv_iload_n hx hb dX4_holdToSpare_62 rfl (lv_at hl 2 rfl) ?_
      refine lv_iload_n hx hb dX4_holdToSpare_63 rfl (lv_at hl 1 rfl) ?_
      refine kc_v (va_runV (As := [.int (nI q9), .int (nI p9)]) (rest := []) ⟨hx, hb, hml, hown, hts⟩ (c_X4_passThrough l G B (mu (mu μ la (.inl (G.2 0, 78, .inr (.inl f53)))) s9 (.inl (G.2 0, 13, .inr (.inl g53)))) h bn nn la s9 lo nf f53 g53 w9 q9 p9 ((mu_n ne0_4).trans ((mu_n ne0_3).trans (hh))) ((mu_n ne1_4).trans ((mu_n ne1_3).trans (hbn))) ((mu_n ne2_4).trans ((mu_n ne2_3).trans (hnn))) ((mu_n ((mp_ne ha hs9 (by simp)))).trans (mu_s _ _ _)) (mu_s _ _ _) ((mu_n ((mp_ne hlo hs9 (by simp)))).trans ((mu_n ((mp_ne hlo ha (by simp)))).trans (hlo))) (by omega) (by omega) (hM53.ok) (hN53)) (cwV 2 hts gX4_holdToSpare_X4_passThrough rfl rfl rfl (by decide +kernel) ⟨Nat.le_of_ble_eq_true rfl, Nat.le_of_ble_eq_true rfl⟩) ⟨KW.blind, hP.recv hK rfl ((mu_n ne0_4).trans ((mu_n ne0_3).trans (hh))), fun U9 hU9 hW9 => ⟨rfl, KW.pre hBs hKK hS hP U9 hU9 hW9⟩⟩ rfl rfl hl.1 rfl (lv_room (Nat.le_of_ble_eq_true rfl)) dX4_holdToSpare_64 ⟨(Nat.le_of_ble_eq_true rfl), (Nat.le_of_ble_eq_true rfl)⟩) hS (fun m64 H locs hq9 hP hz9 hS => ?_)
      obtain ⟨f64, g64, rfl, hM64, hN64⟩ := hq9
      have hP : mw G.1 vwCl B (mu (mu μ la (.inl (G.2 0, 78, .inr (.inl f64)))) s9 (.inl (G.2 0, 13, .inr (.inl g64)))) _ := mw_eq ((congrArg (fun z => mu z s9 (.inl (G.2 0, 13, .inr (.inl g64)))) ((mu_c _ _ ((mp_ne hs9 ha (by simp)))).trans (congrArg (fun z => mu z s9 (.inl (G.2 0, 13, .inr (.inl g53)))) (mu_u _ _ _ _)))).trans (mu_u _ _ _ _)) hP
      refine lv_aload_n hx hb dX4_holdToSpare_67 rfl (lv_at hl 0 rfl) ?_
      refine kc_v (va_runV (As := []) (rest := []) ⟨hx, hb, hml, hown, hts⟩ (c_X4_combineSingles l G B (mu (mu μ la (.inl (G.2 0, 78, .inr (.inl f64)))) s9 (.inl (G.2 0, 13, .inr (.inl g64)))) h bn nn la s9 lo nf f64 g64 w9  ((mu_n ne0_4).trans ((mu_n ne0_3).trans (hh))) ((mu_n ne1_4).trans ((mu_n ne1_3).trans (hbn))) ((mu_n ne2_4).trans ((mu_n ne2_3).trans (hnn))) ((mu_n ((mp_ne ha hs9 (by simp)))).trans (mu_s _ _ _)) (mu_s _ _ _) ((mu_n ((mp_ne hlo hs9 (by simp)))).trans ((mu_n ((mp_ne hlo ha (by simp)))).trans (hlo))) (hM64.ok) (hN64)) (cwV 0 hts gX4_holdToSpare_X4_combineSingles rfl rfl rfl (by decide +kernel) ⟨Nat.le_of_ble_eq_true rfl, Nat.le_of_ble_eq_true rfl⟩) ⟨KW.blind, hP.recv hK rfl ((mu_n ne0_4).trans ((mu_n ne0_3).trans (hh))), fun U9 hU9 hW9 => ⟨rfl, KW.pre hBs hKK hS hP U9 hU9 hW9⟩⟩ rfl rfl hl.1 rfl (lv_room (Nat.le_of_ble_eq_true rfl)) dX4_holdToSpare_68 ⟨(Nat.le_of_ble_eq_true rfl), (Nat.le_of_ble_eq_true rfl)⟩) hS (fun m68 H locs hq9 hP hz9 hS => ?_)
      obtain ⟨f68, g68, rfl, hM68, hN68⟩ := hq9
      have hP : mw G.1 vwCl B (mu (mu μ la (.inl (G.2 0, 78, .inr (.inl f68)))) s9 (.inl (G.2 0, 13, .inr (.inl g68)))) _ := mw_eq ((congrArg (fun z => mu z s9 (.inl (G.2 0, 13, .inr (.inl g68)))) ((mu_c _ _ ((mp_ne hs9 ha (by simp)))).trans (congrArg (fun z => mu z s9 (.inl (G.2 0, 13, .inr (.inl g64)))) (mu_u _ _ _ _)))).trans (mu_u _ _ _ _)) hP
      refine lv_aload_n hx hb dX4_holdToSpare_71 rfl (lv_at hl 0 rfl) ?_
      refine mw_get (C := RX4) (T := TX4) (N := 4) hx hb hts in_X4_holdToSpare_X4 hown hK hP ((mu_n ne0_4).trans ((mu_n ne0_3).trans (hh))) rfl 3 (by decide) (hts (.fieldLink RX4 26 "OctagonDesk$Shape" "empty" "Z") (by decide +kernel)) (fun _ h9 => h9) rfl dX4_holdToSpare_72 ?_
      refine lv_if_eq (tgt := 82) hx hb dX4_holdToSpare_75 (by decide) (fun hc75 => ?_) (fun hc75 => ?_)
      · rw [hQ]
        exact W.vret hx hb hr (fun t99 ht99 hW99 => ⟨⟨mu (mu μ la (.inl (G.2 0, 78, .inr (.inl f68)))) s9 (.inl (G.2 0, 13, .inr (.inl g68))), rfl, (⟨_, _, rfl, Or.inr ⟨b1_1 hr24 hc27, ((hM53).tr hM64).tr hM68⟩, hN68⟩), by show mw _ _ _ _ t99.heap; rw [ht99]; exact hP⟩, hS.F ht99⟩) hS.2.2 dX4_holdToSpare_82
      · exact absurd rfl hc75
  · rw [hQ]
    exact W.vret hx hb hr (fun t99 ht99 hW99 => ⟨⟨mu (mu μ la (.inl (G.2 0, 78, .inr (.inl f)))) s9 (.inl (G.2 0, 13, .inr (.inl g))), rfl, (⟨_, _, rfl, Or.inl ⟨b1_0 hr24 hc27, fun _ _ => rfl⟩, hSn⟩), by show mw _ _ _ _ t99.heap; rw [ht99]; exact hP⟩, hS.F ht99⟩) hS.2.2 dX4_holdToSpare_30

abbrev rm_X4_scatter : Room := { frames := 4, cells := 0, slots := 0, locals := 92 }
set_option maxHeartbeats 4000000 in
set_option maxRecDepth 100000 in
theorem c_X4_scatter (l : Launch) (G : GG) (B : Nat) (μ : mp) (h bn nn la s9 lo : Nat) (nf : List Value) (f g : Nat → Int64) (w9 : Nat → Int32) (i : Nat) (l9 u9 : Int64) (hh : μ h = some (.inr (4, [.ref bn, .ref nn, .ref la, .int (nI 0)]))) (hbn : μ bn = some (.inr (0, [.ref nn, .ref s9, .ref lo]))) (hnn : μ nn = some (.inr (3, nf))) (ha : μ la = some (.inl (G.2 0, 78, .inr (.inl f)))) (hs9 : μ s9 = some (.inl (G.2 0, 13, .inr (.inl g)))) (hlo : μ lo = some (.inl (G.2 2, 78, .inl w9))) (hi6 : i < 6) (hPs : Ps f) (hSn : Sn g) (hl9 : NG (-2 * l9)) (hu9 : NG (2 * u9)) (hU : ∀ f1 : Nat → Int64, (∀ x y, x < 12 → y < 12 → f1 (ix x y) = sc f i l9 u9 x y) → Ok f1) : Met l yX4_scatter wsX4_scatter rm_X4_scatter (va_Pc [.ref h, .int (nI i), .long l9, .long u9] (KW G B μ)) (va_Qv (fun μ2 => ∃ f9 g9 : Nat → Int64, μ2 = mu (mu μ la (.inl (G.2 0, 78, .inr (.inl f9)))) s9 (.inl (G.2 0, 13, .inr (.inl g9))) ∧ Ok f9 ∧ Sn g9) (BB G B) (fun q => B ≤ q)) 0 0 (fun q => B ≤ q) := by
  refine Met.ofW (cc := cX4_scatter) (maxL := 6) (ret := none) (by decide) rfl ?_
  intro p e s m args below meth c s₁ B9 hml hv
  obtain ⟨hargs, hBs, hP, hKK⟩ := hv
  have hx := B9.exec
  have hb := B9.bytes
  have hr := B9.returns
  have hts := atoms_spec (ws := wsX4_scatter) B9.pre
  have hown : s.vm.findClass RX4 = some m.cls := findClass_of_methodNamed B9.named
  have hlocks := B9.notSynchronized
  have hK := hKK.k
  have hS : va_S (fun q => B ≤ q) s.heap s.heap [] := va_S.rf
  obtain ⟨Q, hQ⟩ : ∃ Q, Q = MQ below (va_Qv (fun μ2 => ∃ f9 g9 : Nat → Int64, μ2 = mu (mu μ la (.inl (G.2 0, 78, .inr (.inl f9)))) s9 (.inl (G.2 0, 13, .inr (.inl g9))) ∧ Ok f9 ∧ Sn g9) (BB G B) (fun q => B ≤ q)) args s 0 0 (fun q => B ≤ q) := ⟨_, rfl⟩
  rw [← hQ]
  have ne0_1 : h ≠ bn := mp_ne hh hbn (by simp)
  have ne0_2 : h ≠ nn := mp_ne hh hnn (by simp)
  have ne0_3 : h ≠ la := mp_ne hh ha (by simp)
  have ne0_4 : h ≠ s9 := mp_ne hh hs9 (by simp)
  have ne0_5 : h ≠ lo := mp_ne hh hlo (by simp)
  have ne1_2 : bn ≠ nn := mp_ne hbn hnn (by simp)
  have ne1_3 : bn ≠ la := mp_ne hbn ha (by simp)
  have ne1_4 : bn ≠ s9 := mp_ne hbn hs9 (by simp)
  have ne1_5 : bn ≠ lo := mp_ne hbn hlo (by simp)
  have ne2_3 : nn ≠ la := mp_ne hnn ha (by simp)
  have ne2_4 : nn ≠ s9 := mp_ne hnn hs9 (by simp)
  have ne2_5 : nn ≠ lo := mp_ne hnn hlo (by simp)
  have hP : mw G.1 vwCl B (mu (mu μ la (.inl (G.2 0, 78, .inr (.inl f)))) s9 (.inl (G.2 0, 13, .inr (.inl g)))) s.heap := mw_eq ((congrArg (fun z => mu z s9 (.inl (G.2 0, 13, .inr (.inl g)))) (mu_i ha)).trans (mu_i hs9)).symm hP
  have hl := lv_entry ([.ref h, .int (nI i), .long l9, .long u9]) (n := 6) (Nat.le_of_ble_eq_true rfl)
  have he9 : entryFrame m args 6 = entryFrame m ([.ref h, .int (nI i), .long l9, .long u9] : List Value).toArray 6 := by rw [hargs]
  rw [he9, lg_entry_eq]
  generalize (lg_sl ([.ref h, .int (nI i), .long l9, .long u9]) ++ List.replicate (6 - (lg_sl ([.ref h, .int (nI i), .long l9, .long u9])).length) Slot.unset).toArray = ls at hl ⊢
  have hl : lv_has ls 6 [(0, .ref h), (1, .int (nI i)), (2, .long l9), (4, .long u9)] := hl
  refine lv_aload_n hx hb dX4_scatter_0 rfl (lv_at hl 0 rfl) ?_
  refine lv_iload_n hx hb dX4_scatter_1 rfl (lv_at hl 1 rfl) ?_
  refine kc_v (va_runV (As := [.int (nI i)]) (rest := []) ⟨hx, hb, hml, hown, hts⟩ (c_X4_release l G B (mu (mu μ la (.inl (G.2 0, 78, .inr (.inl f)))) s9 (.inl (G.2 0, 13, .inr (.inl g)))) h bn nn la s9 lo nf f g w9 i ((mu_n ne0_4).trans ((mu_n ne0_3).trans (hh))) ((mu_n ne1_4).trans ((mu_n ne1_3).trans (hbn))) ((mu_n ne2_4).trans ((mu_n ne2_3).trans (hnn))) ((mu_n ((mp_ne ha hs9 (by simp)))).trans (mu_s _ _ _)) (mu_s _ _ _) ((mu_n ((mp_ne hlo hs9 (by simp)))).trans ((mu_n ((mp_ne hlo ha (by simp)))).trans (hlo))) (by omega) (hPs)) (cwV 1 hts gX4_scatter_X4_release rfl rfl rfl (by decide +kernel) ⟨Nat.le_of_ble_eq_true rfl, Nat.le_of_ble_eq_true rfl⟩) ⟨KW.blind, hP.recv hK rfl ((mu_n ne0_4).trans ((mu_n ne0_3).trans (hh))), fun U9 hU9 hW9 => ⟨rfl, KW.pre hBs hKK hS hP U9 hU9 hW9⟩⟩ rfl rfl hl.1 rfl (lv_room (Nat.le_of_ble_eq_true rfl)) dX4_scatter_2 ⟨(Nat.le_of_ble_eq_true rfl), (Nat.le_of_ble_eq_true rfl)⟩) hS (fun m2 H locs hq9 hP hz9 hS => ?_)
  obtain ⟨f2, rfl, hf2⟩ := hq9
  have hP : mw G.1 vwCl B (mu (mu μ la (.inl (G.2 0, 78, .inr (.inl f2)))) s9 (.inl (G.2 0, 13, .inr (.inl g)))) _ := mw_eq ((mu_c _ _ ((mp_ne hs9 ha (by simp)))).trans (congrArg (fun z => mu z s9 (.inl (G.2 0, 13, .inr (.inl g)))) (mu_u _ _ _ _))) hP
  refine lv_aload_n hx hb dX4_scatter_5 rfl (lv_at hl 0 rfl) ?_
  refine lv_iconst (v := nI 2) hx hb dX4_scatter_6 (by decide) ?_
  refine lv_iload_n hx hb dX4_scatter_7 rfl (lv_at hl 1 rfl) ?_
  refine nv_imul hx hb dX4_scatter_8 ?_
  refine lv_iconst (v := nI 2) hx hb dX4_scatter_9 (by decide) ?_
  refine lv_iload_n hx hb dX4_scatter_10 rfl (lv_at hl 1 rfl) ?_
  refine nv_imul hx hb dX4_scatter_11 ?_
  refine kc_i (va_runS (As := [.int (nI (2 * i)), .int (nI (2 * i))]) (rest := [.ref h]) ⟨hx, hb, hml, hown, hts⟩ (c_X4_cell l G B (mu (mu μ la (.inl (G.2 0, 78, .inr (.inl f2)))) s9 (.inl (G.2 0, 13, .inr (.inl g)))) (2 * i) (2 * i) (by omega) (by omega)) (va_cwS 2 hts gX4_scatter_X4_cell rfl rfl rfl (by decide +kernel) ⟨Nat.le_of_ble_eq_true rfl, Nat.le_of_ble_eq_true rfl⟩) ⟨KW.blind, fun U9 hU9 hW9 => ⟨rfl, KW.pre hBs hKK hS hP U9 hU9 hW9⟩⟩ rfl rfl hl.1 rfl (lv_room (Nat.le_of_ble_eq_true rfl)) dX4_scatter_12 ⟨(Nat.le_of_ble_eq_true rfl), (Nat.le_of_ble_eq_true rfl)⟩) hS (fun r12 m12 H locs hq9 hP hz9 hS => ?_)
  obtain ⟨he9, rfl⟩ := hq9
  rw [he9] at hP
  have hix12 := ix_lt (p := 2 * i) (q := 2 * i) (by omega) (by omega)
  refine lv_ldc2 (v := (2)) hx hb hown (hts (.constantLong RX4 99 (2)) (by decide +kernel)) dX4_scatter_15 ?_
  refine lv_lload hx hb dX4_scatter_18 (lv_at hl 3 rfl) ?_
  refine lv_lmul hx hb dX4_scatter_20 ?_
  refine kc_v (va_runV (As := [.int (nI (ix (2 * i) (2 * i))), .long (2 * u9)]) (rest := []) ⟨hx, hb, hml, hown, hts⟩ (c_X4_put l G B (mu (mu μ la (.inl (G.2 0, 78, .inr (.inl f2)))) s9 (.inl (G.2 0, 13, .inr (.inl g)))) h bn nn la s9 lo 0 nf f2 g w9 (ix (2 * i) (2 * i)) (2 * u9) ((mu_n ne0_4).trans ((mu_n ne0_3).trans (hh))) ((mu_n ne1_4).trans ((mu_n ne1_3).trans (hbn))) ((mu_n ne2_4).trans ((mu_n ne2_3).trans (hnn))) ((mu_n ((mp_ne ha hs9 (by simp)))).trans (mu_s _ _ _)) (mu_s _ _ _) ((mu_n ((mp_ne hlo hs9 (by simp)))).trans ((mu_n ((mp_ne hlo ha (by simp)))).trans (hlo))) (by omega) (hPs.rel hf2 _ (by omega)) (hu9)) (cwV 2 hts gX4_scatter_X4_put rfl rfl rfl (by decide +kernel) ⟨Nat.le_of_ble_eq_true rfl, Nat.le_of_ble_eq_true rfl⟩) ⟨KW.blind, hP.recv hK rfl ((mu_n ne0_4).trans ((mu_n ne0_3).trans (hh))), fun U9 hU9 hW9 => ⟨rfl, KW.pre hBs hKK hS hP U9 hU9 hW9⟩⟩ rfl rfl hl.1 rfl (lv_room (Nat.le_of_ble_eq_true rfl)) dX4_scatter_21 ⟨(Nat.le_of_ble_eq_true rfl), (Nat.le_of_ble_eq_true rfl)⟩) hS (fun m21 H locs hq9 hP hz9 hS => ?_)
  rw [hq9] at hP
  have hP : mw G.1 vwCl B (mu (mu μ la (.inl (G.2 0, 78, .inr (.inl (vp_updL f2 (ix (2 * i) (2 * i)) (2 * u9)))))) s9 (.inl (G.2 0, 13, .inr (.inl g)))) _ := mw_eq ((mu_c _ _ ((mp_ne hs9 ha (by simp)))).trans (congrArg (fun z => mu z s9 (.inl (G.2 0, 13, .inr (.inl g)))) (mu_u _ _ _ _))) hP
  refine lv_aload_n hx hb dX4_scatter_24 rfl (lv_at hl 0 rfl) ?_
  refine lv_iconst (v := nI 2) hx hb dX4_scatter_25 (by decide) ?_
  refine lv_iload_n hx hb dX4_scatter_26 rfl (lv_at hl 1 rfl) ?_
  refine nv_imul hx hb dX4_scatter_27 ?_
  refine lv_iconst (v := nI 1) hx hb dX4_scatter_28 (by decide) ?_
  refine nv_iadd hx hb dX4_scatter_29 ?_
  refine lv_iconst (v := nI 2) hx hb dX4_scatter_30 (by decide) ?_
  refine lv_iload_n hx hb dX4_scatter_31 rfl (lv_at hl 1 rfl) ?_
  refine nv_imul hx hb dX4_scatter_32 ?_
  refine lv_iconst (v := nI 1) hx hb dX4_scatter_33 (by decide) ?_
  refine nv_iadd hx hb dX4_scatter_34 ?_
  refine kc_i (va_runS (As := [.int (nI ((2 * i) + 1)), .int (nI ((2 * i) + 1))]) (rest := [.ref h]) ⟨hx, hb, hml, hown, hts⟩ (c_X4_cell l G B (mu (mu μ la (.inl (G.2 0, 78, .inr (.inl (vp_updL f2 (ix (2 * i) (2 * i)) (2 * u9)))))) s9 (.inl (G.2 0, 13, .inr (.inl g)))) ((2 * i) + 1) ((2 * i) + 1) (by omega) (by omega)) (va_cwS 2 hts gX4_scatter_X4_cell rfl rfl rfl (by decide +kernel) ⟨Nat.le_of_ble_eq_true rfl, Nat.le_of_ble_eq_true rfl⟩) ⟨KW.blind, fun U9 hU9 hW9 => ⟨rfl, KW.pre hBs hKK hS hP U9 hU9 hW9⟩⟩ rfl rfl hl.1 rfl (lv_room (Nat.le_of_ble_eq_true rfl)) dX4_scatter_35 ⟨(Nat.le_of_ble_eq_true rfl), (Nat.le_of_ble_eq_true rfl)⟩) hS (fun r35 m35 H locs hq9 hP hz9 hS => ?_)
  obtain ⟨he9, rfl⟩ := hq9
  rw [he9] at hP
  have hix35 := ix_lt (p := (2 * i) + 1) (q := (2 * i) + 1) (by omega) (by omega)
  refine lv_ldc2 (v := (-2)) hx hb hown (hts (.constantLong RX4 101 (-2)) (by decide +kernel)) dX4_scatter_38 ?_
  refine lv_lload_n hx hb dX4_scatter_41 rfl (lv_at hl 2 rfl) ?_
  refine lv_lmul hx hb dX4_scatter_42 ?_
  refine kc_v (va_runV (As := [.int (nI (ix ((2 * i) + 1) ((2 * i) + 1))), .long (((-2)) * l9)]) (rest := []) ⟨hx, hb, hml, hown, hts⟩ (c_X4_put l G B (mu (mu μ la (.inl (G.2 0, 78, .inr (.inl (vp_updL f2 (ix (2 * i) (2 * i)) (2 * u9)))))) s9 (.inl (G.2 0, 13, .inr (.inl g)))) h bn nn la s9 lo 0 nf (vp_updL f2 (ix (2 * i) (2 * i)) (2 * u9)) g w9 (ix ((2 * i) + 1) ((2 * i) + 1)) (((-2)) * l9) ((mu_n ne0_4).trans ((mu_n ne0_3).trans (hh))) ((mu_n ne1_4).trans ((mu_n ne1_3).trans (hbn))) ((mu_n ne2_4).trans ((mu_n ne2_3).trans (hnn))) ((mu_n ((mp_ne ha hs9 (by simp)))).trans (mu_s _ _ _)) (mu_s _ _ _) ((mu_n ((mp_ne hlo hs9 (by simp)))).trans ((mu_n ((mp_ne hlo ha (by simp)))).trans (hlo))) (by omega) ((hPs.rel hf2).upd hu9 _ (by omega)) (hl9)) (cwV 2 hts gX4_scatter_X4_put rfl rfl rfl (by decide +kernel) ⟨Nat.le_of_ble_eq_true rfl, Nat.le_of_ble_eq_true rfl⟩) ⟨KW.blind, hP.recv hK rfl ((mu_n ne0_4).trans ((mu_n ne0_3).trans (hh))), fun U9 hU9 hW9 => ⟨rfl, KW.pre hBs hKK hS hP U9 hU9 hW9⟩⟩ rfl rfl hl.1 rfl (lv_room (Nat.le_of_ble_eq_true rfl)) dX4_scatter_43 ⟨(Nat.le_of_ble_eq_true rfl), (Nat.le_of_ble_eq_true rfl)⟩) hS (fun m43 H locs hq9 hP hz9 hS => ?_)
  rw [hq9] at hP
  have hP : mw G.1 vwCl B (mu (mu μ la (.inl (G.2 0, 78, .inr (.inl (vp_updL (vp_updL f2 (ix (2 * i) (2 * i)) (2 * u9)) (ix ((2 * i) + 1) ((2 * i) + 1)) (((-2)) * l9)))))) s9 (.inl (G.2 0, 13, .inr (.inl g)))) _ := mw_eq ((mu_c _ _ ((mp_ne hs9 ha (by simp)))).trans (congrArg (fun z => mu z s9 (.inl (G.2 0, 13, .inr (.inl g)))) (mu_u _ _ _ _))) hP
  have hU1 := hU _ (sc_e (l9 := l9) (u9 := u9) (by omega) hf2)
  refine lv_aload_n hx hb dX4_scatter_46 rfl (lv_at hl 0 rfl) ?_
  refine kc_v (va_runV (As := []) (rest := []) ⟨hx, hb, hml, hown, hts⟩ (c_X4_combineSingles l G B (mu (mu μ la (.inl (G.2 0, 78, .inr (.inl (vp_updL (vp_updL f2 (ix (2 * i) (2 * i)) (2 * u9)) (ix ((2 * i) + 1) ((2 * i) + 1)) (((-2)) * l9)))))) s9 (.inl (G.2 0, 13, .inr (.inl g)))) h bn nn la s9 lo nf (vp_updL (vp_updL f2 (ix (2 * i) (2 * i)) (2 * u9)) (ix ((2 * i) + 1) ((2 * i) + 1)) (((-2)) * l9)) g w9  ((mu_n ne0_4).trans ((mu_n ne0_3).trans (hh))) ((mu_n ne1_4).trans ((mu_n ne1_3).trans (hbn))) ((mu_n ne2_4).trans ((mu_n ne2_3).trans (hnn))) ((mu_n ((mp_ne ha hs9 (by simp)))).trans (mu_s _ _ _)) (mu_s _ _ _) ((mu_n ((mp_ne hlo hs9 (by simp)))).trans ((mu_n ((mp_ne hlo ha (by simp)))).trans (hlo))) (hU1) (hSn)) (cwV 0 hts gX4_scatter_X4_combineSingles rfl rfl rfl (by decide +kernel) ⟨Nat.le_of_ble_eq_true rfl, Nat.le_of_ble_eq_true rfl⟩) ⟨KW.blind, hP.recv hK rfl ((mu_n ne0_4).trans ((mu_n ne0_3).trans (hh))), fun U9 hU9 hW9 => ⟨rfl, KW.pre hBs hKK hS hP U9 hU9 hW9⟩⟩ rfl rfl hl.1 rfl (lv_room (Nat.le_of_ble_eq_true rfl)) dX4_scatter_47 ⟨(Nat.le_of_ble_eq_true rfl), (Nat.le_of_ble_eq_true rfl)⟩) hS (fun m47 H locs hq9 hP hz9 hS => ?_)
  obtain ⟨f47, g47, rfl, hM47, hN47⟩ := hq9
  have hP : mw G.1 vwCl B (mu (mu μ la (.inl (G.2 0, 78, .inr (.inl f47)))) s9 (.inl (G.2 0, 13, .inr (.inl g47)))) _ := mw_eq ((congrArg (fun z => mu z s9 (.inl (G.2 0, 13, .inr (.inl g47)))) ((mu_c _ _ ((mp_ne hs9 ha (by simp)))).trans (congrArg (fun z => mu z s9 (.inl (G.2 0, 13, .inr (.inl g)))) (mu_u _ _ _ _)))).trans (mu_u _ _ _ _)) hP
  rw [hQ]
  exact W.vret hx hb hr (fun t99 ht99 hW99 => ⟨⟨mu (mu μ la (.inl (G.2 0, 78, .inr (.inl f47)))) s9 (.inl (G.2 0, 13, .inr (.inl g47))), rfl, (⟨_, _, rfl, hM47.ok, hN47⟩), by show mw _ _ _ _ t99.heap; rw [ht99]; exact hP⟩, hS.F ht99⟩) hS.2.2 dX4_scatter_50

abbrev rm_X4_oldTerm : Room := { frames := 1, cells := 0, slots := 0, locals := 20 }
set_option maxHeartbeats 4000000 in
set_option maxRecDepth 100000 in
theorem c_X4_oldTerm (l : Launch) (G : GG) (B : Nat) (μ : mp) (p9 v9 t9 : Nat) (hp9 : p9 < 12) (hv9 : v9 < 6) (ht9a : t9 < 12) : Met l yX4_oldTerm wsX4_oldTerm rm_X4_oldTerm (va_Pc [.int (nI p9), .int (nI v9), .int (nI t9)] (KW G B μ)) (va_Qi (fun r μ2 => μ2 = μ ∧ ∃ o9 : Nat, o9 < 12 ∧ r = nI o9) (BB G B) (fun q => B ≤ q)) 0 0 (fun q => B ≤ q) := by
  refine Met.ofW (cc := cX4_oldTerm) (maxL := 3) (ret := (some .int)) (by decide) rfl ?_
  intro p e s m args below meth c s₁ B9 hml hv
  obtain ⟨hargs, hBs, hP, hKK⟩ := hv
  have hx := B9.exec
  have hb := B9.bytes
  have hr := B9.returns
  have hts := atoms_spec (ws := wsX4_oldTerm) B9.pre
  have hown : s.vm.findClass RX4 = some m.cls := findClass_of_methodNamed B9.named
  have hlocks := B9.notSynchronized
  have hK := hKK.k
  have hS : va_S (fun q => B ≤ q) s.heap s.heap [] := va_S.rf
  obtain ⟨Q, hQ⟩ : ∃ Q, Q = MQ below (va_Qi (fun r μ2 => μ2 = μ ∧ ∃ o9 : Nat, o9 < 12 ∧ r = nI o9) (BB G B) (fun q => B ≤ q)) args s 0 0 (fun q => B ≤ q) := ⟨_, rfl⟩
  rw [← hQ]
  have hl := lv_entry ([.int (nI p9), .int (nI v9), .int (nI t9)]) (n := 3) (Nat.le_of_ble_eq_true rfl)
  have he9 : entryFrame m args 3 = entryFrame m ([.int (nI p9), .int (nI v9), .int (nI t9)] : List Value).toArray 3 := by rw [hargs]
  rw [he9, lg_entry_eq]
  generalize (lg_sl ([.int (nI p9), .int (nI v9), .int (nI t9)]) ++ List.replicate (3 - (lg_sl ([.int (nI p9), .int (nI v9), .int (nI t9)])).length) Slot.unset).toArray = ls at hl ⊢
  have hl : lv_has ls 3 [(0, .int (nI p9)), (1, .int (nI v9)), (2, .int (nI t9))] := hl
  refine lv_iload_n hx hb dX4_oldTerm_0 rfl (lv_at hl 0 rfl) ?_
  refine lv_iconst (v := nI 2) hx hb dX4_oldTerm_1 (by decide) ?_
  refine nv_idiv hx hb (by omega) (by decide) (by decide) dX4_oldTerm_2 ?_
  refine lv_iload_n hx hb dX4_oldTerm_3 rfl (lv_at hl 1 rfl) ?_
  refine nv_icmp_eq (tgt := 9) hx hb (by omega) (by omega) dX4_oldTerm_4 (by decide) (fun hc4 => ?_) (fun hc4 => ?_)
  · refine lv_iload_n hx hb dX4_oldTerm_9 rfl (lv_at hl 0 rfl) ?_
    refine lv_iconst (v := nI 2) hx hb dX4_oldTerm_10 (by decide) ?_
    refine nv_irem hx hb (by omega) (by decide) (by decide) dX4_oldTerm_11 ?_
    refine lv_if_ne (tgt := 19) hx hb dX4_oldTerm_12 (by decide) (fun hc12 => ?_) (fun hc12 => ?_)
    · refine lv_iload_n hx hb dX4_oldTerm_19 rfl (lv_at hl 2 rfl) ?_
      refine kc_i (va_runSN (As := [.int (nI t9)]) (rest := []) ⟨hx, hb, hml, hown, hts⟩ (c_X6_negation l G B (μ) t9 (by omega)) ⟨va_cnB 1 hts gX4_oldTerm_X6_negation_n70 rfl rfl rfl hKK.2.1.1 (hts (.initialized RX6) (by decide +kernel)) (by decide +kernel) ⟨Nat.le_of_ble_eq_true rfl, Nat.le_of_ble_eq_true rfl⟩, hts (.static yX6_negation) (by decide +kernel), trivial⟩ ⟨KW.blind, fun U9 hU9 hW9 => ⟨rfl, KW.pre hBs hKK hS hP U9 hU9 hW9⟩⟩ rfl rfl hl.1 rfl (lv_room (Nat.le_of_ble_eq_true rfl)) dX4_oldTerm_20 ⟨(Nat.le_of_ble_eq_true rfl), (Nat.le_of_ble_eq_true rfl)⟩) hS (fun r20 m20 H locs hq9 hP hz9 hS => ?_)
      obtain ⟨he9, rfl⟩ := hq9
      rw [he9] at hP
      have hne20 := ne_lt (p := t9) (by omega)
      rw [hQ]
      exact W.iret (v := nI (ne t9)) hx hb hr (fun t99 ht99 hW99 => ⟨⟨nI (ne t9), μ, rfl, (⟨rfl, _, by omega, rfl⟩), by show mw _ _ _ _ t99.heap; rw [ht99]; exact hP⟩, hS.F ht99⟩) hS.2.2 dX4_oldTerm_23
    · refine lv_iload_n hx hb dX4_oldTerm_15 rfl (lv_at hl 2 rfl) ?_
      refine lv_goto (tgt := 23) hx hb dX4_oldTerm_16 (by decide) ?_
      rw [hQ]
      exact W.iret (v := nI t9) hx hb hr (fun t99 ht99 hW99 => ⟨⟨nI t9, μ, rfl, (⟨rfl, _, by omega, rfl⟩), by show mw _ _ _ _ t99.heap; rw [ht99]; exact hP⟩, hS.F ht99⟩) hS.2.2 dX4_oldTerm_23
  · refine lv_iload_n hx hb dX4_oldTerm_7 rfl (lv_at hl 0 rfl) ?_
    rw [hQ]
    exact W.iret (v := nI p9) hx hb hr (fun t99 ht99 hW99 => ⟨⟨nI p9, μ, rfl, (⟨rfl, _, by omega, rfl⟩), by show mw _ _ _ _ t99.heap; rw [ht99]; exact hP⟩, hS.F ht99⟩) hS.2.2 dX4_oldTerm_8

abbrev rm_X4_moreOf : Room := { frames := 0, cells := 0, slots := 0, locals := 0 }
set_option maxHeartbeats 4000000 in
set_option maxRecDepth 100000 in
theorem c_X4_moreOf (l : Launch) (G : GG) (B : Nat) (μ : mp) (p9 v9 : Nat) (c9 : Int32) (hp9 : p9 < 12) (hv9 : v9 < 6) (hM6 : M6 c9) : Met l yX4_moreOf wsX4_moreOf rm_X4_moreOf (va_Pc [.int (nI p9), .int (nI v9), .int c9] (KW G B μ)) (va_Qi (fun r μ2 => μ2 = μ ∧ M6 r) (BB G B) (fun q => B ≤ q)) 0 0 (fun q => B ≤ q) := by
  refine Met.ofW (cc := cX4_moreOf) (maxL := 3) (ret := (some .int)) (by decide) rfl ?_
  intro p e s m args below meth c s₁ B9 hml hv
  obtain ⟨hargs, hBs, hP, hKK⟩ := hv
  have hx := B9.exec
  have hb := B9.bytes
  have hr := B9.returns
  have hts := atoms_spec (ws := wsX4_moreOf) B9.pre
  have hown : s.vm.findClass RX4 = some m.cls := findClass_of_methodNamed B9.named
  have hlocks := B9.notSynchronized
  have hK := hKK.k
  have hS : va_S (fun q => B ≤ q) s.heap s.heap [] := va_S.rf
  obtain ⟨Q, hQ⟩ : ∃ Q, Q = MQ below (va_Qi (fun r μ2 => μ2 = μ ∧ M6 r) (BB G B) (fun q => B ≤ q)) args s 0 0 (fun q => B ≤ q) := ⟨_, rfl⟩
  rw [← hQ]
  have hl := lv_entry ([.int (nI p9), .int (nI v9), .int c9]) (n := 3) (Nat.le_of_ble_eq_true rfl)
  have he9 : entryFrame m args 3 = entryFrame m ([.int (nI p9), .int (nI v9), .int c9] : List Value).toArray 3 := by rw [hargs]
  rw [he9, lg_entry_eq]
  generalize (lg_sl ([.int (nI p9), .int (nI v9), .int c9]) ++ List.replicate (3 - (lg_sl ([.int (nI p9), .int (nI v9), .int c9])).length) Slot.unset).toArray = ls at hl ⊢
  have hl : lv_has ls 3 [(0, .int (nI p9)), (1, .int (nI v9)), (2, .int c9)] := hl
  refine lv_iload_n hx hb dX4_moreOf_0 rfl (lv_at hl 0 rfl) ?_
  refine lv_iconst (v := nI 2) hx hb dX4_moreOf_1 (by decide) ?_
  refine nv_idiv hx hb (by omega) (by decide) (by decide) dX4_moreOf_2 ?_
  refine lv_iload_n hx hb dX4_moreOf_3 rfl (lv_at hl 1 rfl) ?_
  refine nv_icmp_eq (tgt := 9) hx hb (by omega) (by omega) dX4_moreOf_4 (by decide) (fun hc4 => ?_) (fun hc4 => ?_)
  · refine lv_iload_n hx hb dX4_moreOf_9 rfl (lv_at hl 0 rfl) ?_
    refine lv_iconst (v := nI 2) hx hb dX4_moreOf_10 (by decide) ?_
    refine nv_irem hx hb (by omega) (by decide) (by decide) dX4_moreOf_11 ?_
    refine lv_if_ne (tgt := 19) hx hb dX4_moreOf_12 (by decide) (fun hc12 => ?_) (fun hc12 => ?_)
    · refine lv_iload_n hx hb dX4_moreOf_19 rfl (lv_at hl 2 rfl) ?_
      refine lv_ineg hx hb dX4_moreOf_20 ?_
      rw [hQ]
      exact W.iret (v := -c9) hx hb hr (fun t99 ht99 hW99 => ⟨⟨-c9, μ, rfl, (⟨rfl, by first | exact M6.z | exact hM6 | exact hM6.neg⟩), by show mw _ _ _ _ t99.heap; rw [ht99]; exact hP⟩, hS.F ht99⟩) hS.2.2 dX4_moreOf_21
    · refine lv_iload_n hx hb dX4_moreOf_15 rfl (lv_at hl 2 rfl) ?_
      refine lv_goto (tgt := 21) hx hb dX4_moreOf_16 (by decide) ?_
      rw [hQ]
      exact W.iret (v := c9) hx hb hr (fun t99 ht99 hW99 => ⟨⟨c9, μ, rfl, (⟨rfl, by first | exact M6.z | exact hM6 | exact hM6.neg⟩), by show mw _ _ _ _ t99.heap; rw [ht99]; exact hP⟩, hS.F ht99⟩) hS.2.2 dX4_moreOf_21
  · refine lv_iconst (v := nI 0) hx hb dX4_moreOf_7 (by decide) ?_
    rw [hQ]
    exact W.iret (v := nI 0) hx hb hr (fun t99 ht99 hW99 => ⟨⟨nI 0, μ, rfl, (⟨rfl, by first | exact M6.z | exact hM6 | exact hM6.neg⟩), by show mw _ _ _ _ t99.heap; rw [ht99]; exact hP⟩, hS.F ht99⟩) hS.2.2 dX4_moreOf_8

abbrev rm_X4_tell : Room := { frames := 3, cells := 0, slots := 0, locals := 69 }
set_option maxHeartbeats 4000000 in
set_option maxRecDepth 100000 in
theorem c_X4_tell (l : Launch) (G : GG) (B : Nat) (μ : mp) (h bn nn la s9 lo eb : Nat) (nf : List Value) (f g : Nat → Int64) (w9 : Nat → Int32) (h2 la2 : Nat) (f2 : Nat → Int64) (v9 t9 : Nat) (c9 : Int32) (hh : μ h = some (.inr (4, [.ref bn, .ref nn, .ref la, .int (nI eb)]))) (hbn : μ bn = some (.inr (0, [.ref nn, .ref s9, .ref lo]))) (hnn : μ nn = some (.inr (3, nf))) (ha : μ la = some (.inl (G.2 0, 78, .inr (.inl f)))) (hs9 : μ s9 = some (.inl (G.2 0, 13, .inr (.inl g)))) (hlo : μ lo = some (.inl (G.2 2, 78, .inl w9))) (hh2 : μ h2 = some (.inr (4, [.ref bn, .ref nn, .ref la2, .int (nI 0)]))) (ha2 : μ la2 = some (.inl (G.2 0, 78, .inr (.inl f2)))) (hne : la ≠ la2) (hne0 : h ≠ h2) (hv9 : v9 < 6) (ht9a : t9 < 12) (hM6 : M6 c9) (hPs : Ps f) (hZ2 : Za f2) : Met l yX4_tell wsX4_tell rm_X4_tell (va_Pc [.ref h, .ref h2, .int (nI v9), .int (nI t9), .int c9] (KW G B μ)) (va_Qv (fun μ2 => ∃ f9 : Nat → Int64, μ2 = mu (mu μ h (.inr (4, [.ref bn, .ref nn, .ref la, .int (nI 0)]))) la (.inl (G.2 0, 78, .inr (.inl f9))) ∧ Ps f9) (BB G B) (fun q => B ≤ q)) 0 0 (fun q => B ≤ q) := by
  refine Met.ofW (cc := cX4_tell) (maxL := 10) (ret := none) (by decide) rfl ?_
  intro p e s m args below meth c s₁ B9 hml hv
  obtain ⟨hargs, hBs, hP, hKK⟩ := hv
  have hx := B9.exec
  have hb := B9.bytes
  have hr := B9.returns
  have hts := atoms_spec (ws := wsX4_tell) B9.pre
  have hown : s.vm.findClass RX4 = some m.cls := findClass_of_methodNamed B9.named
  have hlocks := B9.notSynchronized
  have hK := hKK.k
  have hS : va_S (fun q => B ≤ q) s.heap s.heap [] := va_S.rf
  obtain ⟨Q, hQ⟩ : ∃ Q, Q = MQ below (va_Qv (fun μ2 => ∃ f9 : Nat → Int64, μ2 = mu (mu μ h (.inr (4, [.ref bn, .ref nn, .ref la, .int (nI 0)]))) la (.inl (G.2 0, 78, .inr (.inl f9))) ∧ Ps f9) (BB G B) (fun q => B ≤ q)) args s 0 0 (fun q => B ≤ q) := ⟨_, rfl⟩
  rw [← hQ]
  have ne0_1 : h ≠ bn := mp_ne hh hbn (by simp)
  have ne0_2 : h ≠ nn := mp_ne hh hnn (by simp)
  have ne0_3 : h ≠ la := mp_ne hh ha (by simp)
  have ne0_4 : h ≠ s9 := mp_ne hh hs9 (by simp)
  have ne0_5 : h ≠ lo := mp_ne hh hlo (by simp)
  have ne0_7 : h ≠ la2 := mp_ne hh ha2 (by simp)
  have ne1_2 : bn ≠ nn := mp_ne hbn hnn (by simp)
  have ne1_3 : bn ≠ la := mp_ne hbn ha (by simp)
  have ne1_4 : bn ≠ s9 := mp_ne hbn hs9 (by simp)
  have ne1_5 : bn ≠ lo := mp_ne hbn hlo (by simp)
  have ne1_6 : bn ≠ h2 := mp_ne hbn hh2 (by simp)
  have ne1_7 : bn ≠ la2 := mp_ne hbn ha2 (by simp)
  have ne2_3 : nn ≠ la := mp_ne hnn ha (by simp)
  have ne2_4 : nn ≠ s9 := mp_ne hnn hs9 (by simp)
  have ne2_5 : nn ≠ lo := mp_ne hnn hlo (by simp)
  have ne2_6 : nn ≠ h2 := mp_ne hnn hh2 (by simp)
  have ne2_7 : nn ≠ la2 := mp_ne hnn ha2 (by simp)
  have ne3_6 : la ≠ h2 := mp_ne ha hh2 (by simp)
  have ne4_6 : s9 ≠ h2 := mp_ne hs9 hh2 (by simp)
  have ne5_6 : lo ≠ h2 := mp_ne hlo hh2 (by simp)
  have ne6_7 : h2 ≠ la2 := mp_ne hh2 ha2 (by simp)
  have in_X4_tell_X4 : ∀ w ∈ wsX40, w ∈ wsX4_tell := by decide +kernel
  have hP : mw G.1 vwCl B (mu (mu μ h (.inr (4, [.ref bn, .ref nn, .ref la, .int (nI eb)]))) la (.inl (G.2 0, 78, .inr (.inl f)))) s.heap := mw_eq ((congrArg (fun z => mu z la (.inl (G.2 0, 78, .inr (.inl f)))) (mu_i hh)).trans (mu_i ha)).symm hP
  have L8 : ∀ (N8 : Nat) (p1 : Nat) (g1 : Nat → Int64) (hN8 : 12 - p1 < N8) (hp : p1 ≤ 12) (hp1 : Ps g1), ∀ (H : Heap) (locs : List Loc), mw G.1 vwCl B (mu (mu μ h (.inr (4, [.ref bn, .ref nn, .ref la, .int (nI 0)]))) la (.inl (G.2 0, 78, .inr (.inl g1)))) H → va_S (fun q => B ≤ q) s.heap H locs → ∀ ls : Array Slot, lv_has ls 10 [(0, .ref h), (1, .ref h2), (2, .int (nI v9)), (3, .int (nI t9)), (4, .int c9), (5, .int (nI p1))] → W p l e rm_X4_tell s m args below meth c H locs 0 0 Q (F0 m 8 ls []) := by
    intro N8
    induction N8 with
    | zero => intro p1 g1 hN8; exact absurd hN8 (Nat.not_lt_zero _)
    | succ N8 ih8 =>
      intro p1 g1 hN8 hp hp1 H locs hP hS ls hl
      have L37 : ∀ (N37 : Nat) (q1 : Nat) (g1 : Nat → Int64) (o6 : Nat) (m7 : Int32) (hN37 : p1 + 1 - q1 < N37) (hpo : p1 < 12) (hq : q1 ≤ p1 + 1) (ho6 : o6 < 12) (hm7 : M6 m7) (hp1 : Ps g1), ∀ (H : Heap) (locs : List Loc), mw G.1 vwCl B (mu (mu μ h (.inr (4, [.ref bn, .ref nn, .ref la, .int (nI 0)]))) la (.inl (G.2 0, 78, .inr (.inl g1)))) H → va_S (fun q => B ≤ q) s.heap H locs → ∀ ls : Array Slot, lv_has ls 10 [(0, .ref h), (1, .ref h2), (2, .int (nI v9)), (3, .int (nI t9)), (4, .int c9), (5, .int (nI p1)), (6, .int (nI o6)), (7, .int m7), (8, .int (nI q1))] → W p l e rm_X4_tell s m args below meth c H locs 0 0 Q (F0 m 37 ls []) := by
        intro N37
        induction N37 with
        | zero => intro q1 g1 o6 m7 hN37; exact absurd hN37 (Nat.not_lt_zero _)
        | succ N37 ih37 =>
          intro q1 g1 o6 m7 hN37 hpo hq ho6 hm7 hp1 H locs hP hS ls hl
          refine lv_iload hx hb dX4_tell_37 (lv_at hl 8 rfl) ?_
          refine lv_iload hx hb dX4_tell_39 (lv_at hl 5 rfl) ?_
          refine nv_icmp_gt (tgt := 101) hx hb (by omega) (by omega) dX4_tell_41 (by decide) (fun hc41 => ?_) (fun hc41 => ?_)
          · refine lv_iinc (v := nI (p1 + 1)) (lv' := [(5, .int (nI (p1 + 1))), (0, .ref h), (1, .ref h2), (2, .int (nI v9)), (3, .int (nI t9)), (4, .int c9), (6, .int (nI o6)), (7, .int m7), (8, .int (nI q1))]) hx hb dX4_tell_101 hl (k := 5) rfl (nI_add _ _) (by decide) rfl (fun ls hl => ?_)
            refine lv_goto (tgt := 8) hx hb dX4_tell_104 (by decide) ?_
            exact ih8 (p1 + 1) g1 (by omega) (by omega) (hp1) _ _ hP hS ls (lv_sub hl [1, 2, 3, 4, 5, 0] rfl)
          · refine lv_iload hx hb dX4_tell_44 (lv_at hl 6 rfl) ?_
            refine lv_iload hx hb dX4_tell_46 (lv_at hl 8 rfl) ?_
            refine lv_iload_n hx hb dX4_tell_48 rfl (lv_at hl 2 rfl) ?_
            refine lv_iload_n hx hb dX4_tell_49 rfl (lv_at hl 3 rfl) ?_
            refine kc_i (va_runS (As := [.int (nI q1), .int (nI v9), .int (nI t9)]) (rest := [.int (nI o6)]) ⟨hx, hb, hml, hown, hts⟩ (c_X4_oldTerm l G B (mu (mu μ h (.inr (4, [.ref bn, .ref nn, .ref la, .int (nI 0)]))) la (.inl (G.2 0, 78, .inr (.inl g1)))) q1 v9 t9 (by omega) (by omega) (by omega)) (va_cwS 3 hts gX4_tell_X4_oldTerm rfl rfl rfl (by decide +kernel) ⟨Nat.le_of_ble_eq_true rfl, Nat.le_of_ble_eq_true rfl⟩) ⟨KW.blind, fun U9 hU9 hW9 => ⟨rfl, KW.pre hBs hKK hS hP U9 hU9 hW9⟩⟩ rfl rfl hl.1 rfl (lv_room (Nat.le_of_ble_eq_true rfl)) dX4_tell_50 ⟨(Nat.le_of_ble_eq_true rfl), (Nat.le_of_ble_eq_true rfl)⟩) hS (fun r50 m50 H locs hq9 hP hz9 hS => ?_)
            obtain ⟨he9, o50, ho50, rfl⟩ := hq9
            rw [he9] at hP
            refine kc_i (va_runS (As := [.int (nI o6), .int (nI o50)]) (rest := []) ⟨hx, hb, hml, hown, hts⟩ (c_X4_cell l G B (mu (mu μ h (.inr (4, [.ref bn, .ref nn, .ref la, .int (nI 0)]))) la (.inl (G.2 0, 78, .inr (.inl g1)))) o6 o50 (by omega) (by omega)) (va_cwS 2 hts gX4_tell_X4_cell rfl rfl rfl (by decide +kernel) ⟨Nat.le_of_ble_eq_true rfl, Nat.le_of_ble_eq_true rfl⟩) ⟨KW.blind, fun U9 hU9 hW9 => ⟨rfl, KW.pre hBs hKK hS hP U9 hU9 hW9⟩⟩ rfl rfl hl.1 rfl (lv_room (Nat.le_of_ble_eq_true rfl)) dX4_tell_53 ⟨(Nat.le_of_ble_eq_true rfl), (Nat.le_of_ble_eq_true rfl)⟩) hS (fun r53 m53 H locs hq9 hP hz9 hS => ?_)
            obtain ⟨he9, rfl⟩ := hq9
            rw [he9] at hP
            have hix53 := ix_lt (p := o6) (q := o50) (by omega) (by omega)
            refine lv_istore (lv' := [(9, .int (nI (ix o6 o50))), (0, .ref h), (1, .ref h2), (2, .int (nI v9)), (3, .int (nI t9)), (4, .int c9), (5, .int (nI p1)), (6, .int (nI o6)), (7, .int m7), (8, .int (nI q1))]) hx hb dX4_tell_56 hl (by decide) rfl (fun ls hl => ?_)
            refine lv_aload_n hx hb dX4_tell_58 rfl (lv_at hl 1 rfl) ?_
            refine lv_iload hx hb dX4_tell_59 (lv_at hl 6 rfl) ?_
            refine lv_iload hx hb dX4_tell_61 (lv_at hl 9 rfl) ?_
            refine kc_i (va_runS (As := [.int (nI p1), .int (nI q1)]) (rest := [.ref h]) ⟨hx, hb, hml, hown, hts⟩ (c_X4_cell l G B (mu (mu μ h (.inr (4, [.ref bn, .ref nn, .ref la, .int (nI 0)]))) la (.inl (G.2 0, 78, .inr (.inl g1)))) p1 q1 (by omega) (by omega)) (va_cwS 2 hts gX4_tell_X4_cell rfl rfl rfl (by decide +kernel) ⟨Nat.le_of_ble_eq_true rfl, Nat.le_of_ble_eq_true rfl⟩) ⟨KW.blind, fun U9 hU9 hW9 => ⟨rfl, KW.pre hBs hKK hS hP U9 hU9 hW9⟩⟩ rfl rfl hl.1 rfl (lv_room (Nat.le_of_ble_eq_true rfl)) dX4_tell_63 ⟨(Nat.le_of_ble_eq_true rfl), (Nat.le_of_ble_eq_true rfl)⟩) hS (fun r63 m63 H locs hq9 hP hz9 hS => ?_)
            obtain ⟨he9, rfl⟩ := hq9
            rw [he9] at hP
            have hix63 := ix_lt (p := p1) (q := q1) (by omega) (by omega)
            refine lv_aload_n hx hb dX4_tell_66 rfl (lv_at hl 1 rfl) ?_
            refine mw_get (C := RX4) (T := TX4) (N := 4) hx hb hts in_X4_tell_X4 hown hK hP ((mu_n ne0_3).trans (mu_s _ _ _)) rfl 1 (by decide) (hts (.fieldLink RX4 21 "OctagonDesk$Shape" "numbers" "LOctagonDesk$Numbers;") (by decide +kernel)) (fun _ h9 => h9) rfl dX4_tell_67 ?_
            refine lv_aload_n hx hb dX4_tell_70 rfl (lv_at hl 2 rfl) ?_
            refine mw_get (C := RX4) (T := TX4) (N := 4) hx hb hts in_X4_tell_X4 hown hK hP ((mu_n ((Ne.symm ne3_6))).trans ((mu_n ((Ne.symm hne0))).trans (hh2))) rfl 2 (by decide) (hts (.fieldLink RX4 22 "OctagonDesk$Shape" "cells" "[J") (by decide +kernel)) (fun _ h9 => h9) rfl dX4_tell_71 ?_
            refine lv_iload hx hb dX4_tell_74 (lv_at hl 0 rfl) ?_
            refine mw_lald hx hb hK hP 0 ((mu_n ((Ne.symm hne))).trans ((mu_n ((Ne.symm ne0_7))).trans (ha2))) rfl (by omega) (by omega) dX4_tell_76 ?_
            refine lv_iload hx hb dX4_tell_77 (lv_at hl 8 rfl) ?_
            refine lv_iload hx hb dX4_tell_79 (lv_at hl 9 rfl) ?_
            refine lv_iload_n hx hb dX4_tell_81 rfl (lv_at hl 3 rfl) ?_
            refine lv_iload hx hb dX4_tell_82 (lv_at hl 5 rfl) ?_
            refine kc_i (va_runS (As := [.int (nI q1), .int (nI v9), .int c9]) (rest := [.int m7, .long (f2 (ix o6 o50)), .ref nn, .int (nI (ix p1 q1)), .ref h]) ⟨hx, hb, hml, hown, hts⟩ (c_X4_moreOf l G B (mu (mu μ h (.inr (4, [.ref bn, .ref nn, .ref la, .int (nI 0)]))) la (.inl (G.2 0, 78, .inr (.inl g1)))) q1 v9 c9 (by omega) (by omega) hM6) (va_cwS 3 hts gX4_tell_X4_moreOf rfl rfl rfl (by decide +kernel) ⟨Nat.le_of_ble_eq_true rfl, Nat.le_of_ble_eq_true rfl⟩) ⟨KW.blind, fun U9 hU9 hW9 => ⟨rfl, KW.pre hBs hKK hS hP U9 hU9 hW9⟩⟩ rfl rfl hl.1 rfl (lv_room (Nat.le_of_ble_eq_true rfl)) dX4_tell_84 ⟨(Nat.le_of_ble_eq_true rfl), (Nat.le_of_ble_eq_true rfl)⟩) hS (fun r84 m84 H locs hq9 hP hz9 hS => ?_)
            obtain ⟨he9, hmr84⟩ := hq9
            rw [he9] at hP
            refine lv_iadd hx hb dX4_tell_87 ?_
            refine lv_i2l (v := (m7 + r84).toInt64) hx hb dX4_tell_88 rfl ?_
            refine kc_l (va_runV (As := [.long (f2 (ix o6 o50)), .long ((m7 + r84).toInt64)]) (rest := [.int (nI (ix p1 q1)), .ref h]) ⟨hx, hb, hml, hown, hts⟩ (c_X3_sum l G B (mu (mu μ h (.inr (4, [.ref bn, .ref nn, .ref la, .int (nI 0)]))) la (.inl (G.2 0, 78, .inr (.inl g1)))) nn nf (f2 (ix o6 o50)) ((m7 + r84).toInt64) ((mu_n ne2_3).trans ((mu_n ((Ne.symm ne0_2))).trans (hnn))) (Pn.of (hZ2 _ (by omega))) (hm7.add hmr84)) (cwV 2 hts gX4_tell_X3_sum rfl rfl rfl (by decide +kernel) ⟨Nat.le_of_ble_eq_true rfl, Nat.le_of_ble_eq_true rfl⟩) ⟨KW.blind, hP.recv hK rfl ((mu_n ne2_3).trans ((mu_n ((Ne.symm ne0_2))).trans (hnn))), fun U9 hU9 hW9 => ⟨rfl, KW.pre hBs hKK hS hP U9 hU9 hW9⟩⟩ rfl rfl hl.1 rfl (lv_room (Nat.le_of_ble_eq_true rfl)) dX4_tell_89 ⟨(Nat.le_of_ble_eq_true rfl), (Nat.le_of_ble_eq_true rfl)⟩) hS (fun r89 m89 H locs hq9 hP hz9 hS => ?_)
            obtain ⟨he9, hr89⟩ := hq9
            rw [he9] at hP
            refine kc_v (va_runV (As := [.int (nI (ix p1 q1)), .long r89]) (rest := []) ⟨hx, hb, hml, hown, hts⟩ (c_X4_put l G B (mu (mu μ h (.inr (4, [.ref bn, .ref nn, .ref la, .int (nI 0)]))) la (.inl (G.2 0, 78, .inr (.inl g1)))) h bn nn la s9 lo 0 nf g1 g w9 (ix p1 q1) r89 ((mu_n ne0_3).trans (mu_s _ _ _)) ((mu_n ne1_3).trans ((mu_n ((Ne.symm ne0_1))).trans (hbn))) ((mu_n ne2_3).trans ((mu_n ((Ne.symm ne0_2))).trans (hnn))) (mu_s _ _ _) ((mu_n ((mp_ne hs9 ha (by simp)))).trans ((mu_n ((Ne.symm ne0_4))).trans (hs9))) ((mu_n ((mp_ne hlo ha (by simp)))).trans ((mu_n ((Ne.symm ne0_5))).trans (hlo))) (by omega) (hp1 _ (by omega)) (by rw [hr89]; exact sm_ng (Pn.of (hZ2 _ (by omega))) (hm7.add hmr84))) (cwV 2 hts gX4_tell_X4_put rfl rfl rfl (by decide +kernel) ⟨Nat.le_of_ble_eq_true rfl, Nat.le_of_ble_eq_true rfl⟩) ⟨KW.blind, hP.recv hK rfl ((mu_n ne0_3).trans (mu_s _ _ _)), fun U9 hU9 hW9 => ⟨rfl, KW.pre hBs hKK hS hP U9 hU9 hW9⟩⟩ rfl rfl hl.1 rfl (lv_room (Nat.le_of_ble_eq_true rfl)) dX4_tell_92 ⟨(Nat.le_of_ble_eq_true rfl), (Nat.le_of_ble_eq_true rfl)⟩) hS (fun m92 H locs hq9 hP hz9 hS => ?_)
            rw [hq9] at hP
            have hP : mw G.1 vwCl B (mu (mu μ h (.inr (4, [.ref bn, .ref nn, .ref la, .int (nI 0)]))) la (.inl (G.2 0, 78, .inr (.inl (vp_updL g1 (ix p1 q1) r89))))) _ := mw_eq (mu_u _ _ _ _) hP
            refine lv_iinc (v := nI (q1 + 1)) (lv' := [(8, .int (nI (q1 + 1))), (9, .int (nI (ix o6 o50))), (0, .ref h), (1, .ref h2), (2, .int (nI v9)), (3, .int (nI t9)), (4, .int c9), (5, .int (nI p1)), (6, .int (nI o6)), (7, .int m7)]) hx hb dX4_tell_95 hl (k := 9) rfl (nI_add _ _) (by decide) rfl (fun ls hl => ?_)
            refine lv_goto (tgt := 37) hx hb dX4_tell_98 (by decide) ?_
            exact ih37 (q1 + 1) (vp_updL g1 (ix p1 q1) r89) o6 m7 (by omega) (by omega) (by omega) (by omega) (hm7) (hp1.upd (by rw [hr89]; exact sm_ng (Pn.of (hZ2 _ (by omega))) (hm7.add hmr84))) _ _ hP hS ls (lv_sub hl [2, 3, 4, 5, 6, 7, 8, 9, 0] rfl)
      refine lv_iload hx hb dX4_tell_8 (lv_at hl 5 rfl) ?_
      refine lv_bipush (v := nI 12) hx hb dX4_tell_10 (by decide) ?_
      refine nv_icmp_ge (tgt := 107) hx hb (by omega) (by omega) dX4_tell_12 (by decide) (fun hc12 => ?_) (fun hc12 => ?_)
      · rw [hQ]
        exact W.vret hx hb hr (fun t99 ht99 hW99 => ⟨⟨mu (mu μ h (.inr (4, [.ref bn, .ref nn, .ref la, .int (nI 0)]))) la (.inl (G.2 0, 78, .inr (.inl g1))), rfl, (⟨_, rfl, hp1⟩), by show mw _ _ _ _ t99.heap; rw [ht99]; exact hP⟩, hS.F ht99⟩) hS.2.2 dX4_tell_107
      · refine lv_iload hx hb dX4_tell_15 (lv_at hl 5 rfl) ?_
        refine lv_iload_n hx hb dX4_tell_17 rfl (lv_at hl 2 rfl) ?_
        refine lv_iload_n hx hb dX4_tell_18 rfl (lv_at hl 3 rfl) ?_
        refine kc_i (va_runS (As := [.int (nI p1), .int (nI v9), .int (nI t9)]) (rest := []) ⟨hx, hb, hml, hown, hts⟩ (c_X4_oldTerm l G B (mu (mu μ h (.inr (4, [.ref bn, .ref nn, .ref la, .int (nI 0)]))) la (.inl (G.2 0, 78, .inr (.inl g1)))) p1 v9 t9 (by omega) (by omega) (by omega)) (va_cwS 3 hts gX4_tell_X4_oldTerm rfl rfl rfl (by decide +kernel) ⟨Nat.le_of_ble_eq_true rfl, Nat.le_of_ble_eq_true rfl⟩) ⟨KW.blind, fun U9 hU9 hW9 => ⟨rfl, KW.pre hBs hKK hS hP U9 hU9 hW9⟩⟩ rfl rfl hl.1 rfl (lv_room (Nat.le_of_ble_eq_true rfl)) dX4_tell_19 ⟨(Nat.le_of_ble_eq_true rfl), (Nat.le_of_ble_eq_true rfl)⟩) hS (fun r19 m19 H locs hq9 hP hz9 hS => ?_)
        obtain ⟨he9, o19, ho19, rfl⟩ := hq9
        rw [he9] at hP
        refine lv_istore (lv' := [(6, .int (nI o19)), (0, .ref h), (1, .ref h2), (2, .int (nI v9)), (3, .int (nI t9)), (4, .int c9), (5, .int (nI p1))]) hx hb dX4_tell_22 hl (by decide) rfl (fun ls hl => ?_)
        refine lv_iload hx hb dX4_tell_24 (lv_at hl 6 rfl) ?_
        refine lv_iload_n hx hb dX4_tell_26 rfl (lv_at hl 3 rfl) ?_
        refine lv_iload hx hb dX4_tell_27 (lv_at hl 5 rfl) ?_
        refine kc_i (va_runS (As := [.int (nI p1), .int (nI v9), .int c9]) (rest := []) ⟨hx, hb, hml, hown, hts⟩ (c_X4_moreOf l G B (mu (mu μ h (.inr (4, [.ref bn, .ref nn, .ref la, .int (nI 0)]))) la (.inl (G.2 0, 78, .inr (.inl g1)))) p1 v9 c9 (by omega) (by omega) hM6) (va_cwS 3 hts gX4_tell_X4_moreOf rfl rfl rfl (by decide +kernel) ⟨Nat.le_of_ble_eq_true rfl, Nat.le_of_ble_eq_true rfl⟩) ⟨KW.blind, fun U9 hU9 hW9 => ⟨rfl, KW.pre hBs hKK hS hP U9 hU9 hW9⟩⟩ rfl rfl hl.1 rfl (lv_room (Nat.le_of_ble_eq_true rfl)) dX4_tell_29 ⟨(Nat.le_of_ble_eq_true rfl), (Nat.le_of_ble_eq_true rfl)⟩) hS (fun r29 m29 H locs hq9 hP hz9 hS => ?_)
        obtain ⟨he9, hmr29⟩ := hq9
        rw [he9] at hP
        refine lv_istore (lv' := [(7, .int r29), (6, .int (nI o19)), (0, .ref h), (1, .ref h2), (2, .int (nI v9)), (3, .int (nI t9)), (4, .int c9), (5, .int (nI p1))]) hx hb dX4_tell_32 hl (by decide) rfl (fun ls hl => ?_)
        refine lv_iconst (v := nI 0) hx hb dX4_tell_34 (by decide) ?_
        refine lv_istore (lv' := [(8, .int (nI 0)), (7, .int r29), (6, .int (nI o19)), (0, .ref h), (1, .ref h2), (2, .int (nI v9)), (3, .int (nI t9)), (4, .int c9), (5, .int (nI p1))]) hx hb dX4_tell_35 hl (by decide) rfl (fun ls hl => ?_)
        exact L37 _ 0 g1 o19 r29 (Nat.lt_succ_self _) (by omega) (by omega) (by omega) (hmr29) (hp1) _ _ hP hS ls (lv_sub hl [3, 4, 5, 6, 7, 8, 2, 1, 0] rfl)
  have hl := lv_entry ([.ref h, .ref h2, .int (nI v9), .int (nI t9), .int c9]) (n := 10) (Nat.le_of_ble_eq_true rfl)
  have he9 : entryFrame m args 10 = entryFrame m ([.ref h, .ref h2, .int (nI v9), .int (nI t9), .int c9] : List Value).toArray 10 := by rw [hargs]
  rw [he9, lg_entry_eq]
  generalize (lg_sl ([.ref h, .ref h2, .int (nI v9), .int (nI t9), .int c9]) ++ List.replicate (10 - (lg_sl ([.ref h, .ref h2, .int (nI v9), .int (nI t9), .int c9])).length) Slot.unset).toArray = ls at hl ⊢
  have hl : lv_has ls 10 [(0, .ref h), (1, .ref h2), (2, .int (nI v9)), (3, .int (nI t9)), (4, .int c9)] := hl
  refine lv_aload_n hx hb dX4_tell_0 rfl (lv_at hl 0 rfl) ?_
  refine lv_iconst (v := nI 0) hx hb dX4_tell_1 (by decide) ?_
  refine mw_put (ty := .boolean) (v := .int (nI 0)) (C := RX4) (T := TX4) (N := 4) hx hb hts in_X4_tell_X4 tyX4 tyX4_ok nmX4 hown hK hP hS ((mu_n ne0_3).trans (mu_s _ _ _)) rfl 3 (by decide) (hts (.fieldLink RX4 26 "OctagonDesk$Shape" "empty" "Z") (by decide +kernel)) (fun _ h9 => h9) rfl (by decide +kernel) (by first | rfl | decide) (by first | rfl | decide) (Nat.le_of_ble_eq_true rfl) dX4_tell_2 (fun H locs hP hS => ?_)
  have hP : mw G.1 vwCl B (mu (mu μ h (.inr (4, [.ref bn, .ref nn, .ref la, .int (nI 0)]))) la (.inl (G.2 0, 78, .inr (.inl f)))) _ := mw_eq ((mu_c _ _ ((Ne.symm ne0_3))).trans (congrArg (fun z => mu z la (.inl (G.2 0, 78, .inr (.inl f)))) (mu_u _ _ _ _))) hP
  refine lv_iconst (v := nI 0) hx hb dX4_tell_5 (by decide) ?_
  refine lv_istore (lv' := [(5, .int (nI 0)), (0, .ref h), (1, .ref h2), (2, .int (nI v9)), (3, .int (nI t9)), (4, .int c9)]) hx hb dX4_tell_6 hl (by decide) rfl (fun ls hl => ?_)
  exact L8 _ 0 f (Nat.lt_succ_self _) (by omega) (hPs) _ _ hP hS ls (lv_sub hl [1, 2, 3, 4, 5, 0] rfl)
