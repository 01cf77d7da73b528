abbrev rm_X1_cell : Room := { frames := 0, cells := 0, slots := 0, locals := 0 }
set_option maxHeartbeats 4000000 in
set_option maxRecDepth 100000 in
theorem c_X1_cell (l : Launch) (G : GG) (B : Nat) (μ : mp) (p9 q9 : Nat) : Met l yX1_cell wsX1_cell rm_X1_cell (va_Pc [.int (nI p9), .int (nI q9)] (KW G B μ)) (va_Qi (fun r μ2 => μ2 = μ ∧ r = nI (p9 * 12 + q9)) (BB G B) (fun q => B ≤ q)) 0 0 (fun q => B ≤ q) := by
  refine Met.ofW (cc := cX1_cell) (maxL := 2) (ret := (some .int)) (by decide) rfl ?_
  intro p e s m args below meth c s₁ B9 hml hv
  obtain ⟨hargs, hBs, hP, hKK⟩ := hv
  have hx := B9.exec
  have hb := B9.bytes
  have hr := B9.returns
  have hts := atoms_spec (ws := wsX1_cell) B9.pre
  have hown : s.vm.findClass RX1 = some m.cls := findClass_of_methodNamed B9.named
  have hlocks := B9.notSynchronized
  have hK := hKK.k
  have hS : va_S (fun q => B ≤ q) s.heap s.heap [] := va_S.rf
  obtain ⟨Q, hQ⟩ : ∃ Q, Q = MQ below (va_Qi (fun r μ2 => μ2 = μ ∧ r = nI (p9 * 12 + q9)) (BB G B) (fun q => B ≤ q)) args s 0 0 (fun q => B ≤ q) := ⟨_, rfl⟩
  rw [← hQ]
  have hl := lv_entry ([.int (nI p9), .int (nI q9)]) (n := 2) (Nat.le_of_ble_eq_true rfl)
  have he9 : entryFrame m args 2 = entryFrame m ([.int (nI p9), .int (nI q9)] : List Value).toArray 2 := by rw [hargs]
  rw [he9, lg_entry_eq]
  generalize (lg_sl ([.int (nI p9), .int (nI q9)]) ++ List.replicate (2 - (lg_sl ([.int (nI p9), .int (nI q9)])).length) Slot.unset).toArray = ls at hl ⊢
  have hl : lv_has ls 2 [(0, .int (nI p9)), (1, .int (nI q9))] := hl
  refine lv_iload_n hx hb dX1_cell_0 rfl (lv_at hl 0 rfl) ?_
  refine lv_bipush (v := nI 12) hx hb dX1_cell_1 (by decide) ?_
  refine nv_imul hx hb dX1_cell_3 ?_
  refine lv_iload_n hx hb dX1_cell_4 rfl (lv_at hl 1 rfl) ?_
  refine nv_iadd hx hb dX1_cell_5 ?_
  rw [hQ]
  exact W.iret (v := nI ((p9 * 12) + q9)) hx hb hr (fun t99 ht99 hW99 => ⟨⟨nI ((p9 * 12) + q9), μ, rfl, (⟨rfl, rfl⟩), by show mw _ _ _ _ t99.heap; rw [ht99]; exact hP⟩, hS.F ht99⟩) hS.2.2 dX1_cell_6

abbrev rm_X3_negation : Room := { frames := 0, cells := 0, slots := 0, locals := 0 }
set_option maxHeartbeats 4000000 in
set_option maxRecDepth 100000 in
theorem c_X3_negation (l : Launch) (G : GG) (B : Nat) (μ : mp) (p9 : Nat) (hp9 : p9 < 12) : Met l yX3_negation wsX3_negation rm_X3_negation (va_Pc [.int (nI p9)] (KW G B μ)) (va_Qi (fun r μ2 => μ2 = μ ∧ r = nI (ne p9)) (BB G B) (fun q => B ≤ q)) 0 0 (fun q => B ≤ q) := by
  refine Met.ofW (cc := cX3_negation) (maxL := 1) (ret := (some .int)) (by decide) rfl ?_
  intro p e s m args below meth c s₁ B9 hml hv
  obtain ⟨hargs, hBs, hP, hKK⟩ := hv
  have hx := B9.exec
  have hb := B9.bytes
  have hr := B9.returns
  have hts := atoms_spec (ws := wsX3_negation) B9.pre
  have hown : s.vm.findClass RX3 = some m.cls := findClass_of_methodNamed B9.named
  have hlocks := B9.notSynchronized
  have hK := hKK.k
  have hS : va_S (fun q => B ≤ q) s.heap s.heap [] := va_S.rf
  obtain ⟨Q, hQ⟩ : ∃ Q, Q = MQ below (va_Qi (fun r μ2 => μ2 = μ ∧ r = nI (ne p9)) (BB G B) (fun q => B ≤ q)) args s 0 0 (fun q => B ≤ q) := ⟨_, rfl⟩
  rw [← hQ]
  have hl := lv_entry ([.int (nI p9)]) (n := 1) (Nat.le_of_ble_eq_true rfl)
  have he9 : entryFrame m args 1 = entryFrame m ([.int (nI p9)] : List Value).toArray 1 := by rw [hargs]
  rw [he9, lg_entry_eq]
  generalize (lg_sl ([.int (nI p9)]) ++ List.replicate (1 - (lg_sl ([.int (nI p9)])).length) Slot.unset).toArray = ls at hl ⊢
  have hl : lv_has ls 1 [(0, .int (nI p9))] := hl
  refine lv_iload_n hx hb dX3_negation_0 rfl (lv_at hl 0 rfl) ?_
  refine lv_iconst (v := nI 1) hx hb dX3_negation_1 (by decide) ?_
  refine lv_ixor hx hb dX3_negation_2 ?_
  rw [hQ]
  exact W.iret (v := (nI p9) ^^^ (nI 1)) hx hb hr (fun t99 ht99 hW99 => ⟨⟨(nI p9) ^^^ (nI 1), μ, rfl, (⟨rfl, ne_x p9 hp9⟩), by show mw _ _ _ _ t99.heap; rw [ht99]; exact hP⟩, hS.F ht99⟩) hS.2.2 dX3_negation_3

abbrev rm_X1_release : Room := { frames := 1, cells := 0, slots := 0, locals := 26 }
set_option maxHeartbeats 4000000 in
set_option maxRecDepth 100000 in
theorem c_X1_release (l : Launch) (G : GG) (B : Nat) (μ : mp) (h hn la k b : Nat) (f : Nat → Int64) (i : Nat) (hh : μ h = some (.inr (1, [.ref hn, .int (nI b)]))) (hhn : μ hn = some (.inr (0, [.int (nI 158), .int (nI 157), .ref la, .int (nI (158 * k))]))) (ha : μ la = some (.inl (G.2 0, 158 * k + 158, .inr (.inl f)))) (hk : k ≤ 1022) (hi : i < 6) : Met l yX1_release wsX1_release rm_X1_release (va_Pc [.ref h, .int (nI i)] (KW G B μ)) (va_Qv (fun μ2 => ∃ g9 : Nat → Int64, μ2 = mu μ la (.inl (G.2 0, 158 * k + 158, .inr (.inl g9))) ∧ (k = 0 → (∀ c, c < 144 → g9 c = rl f i c) ∧ Hi f g9)) (BB G B) (fun q => B ≤ q)) 0 0 (fun q => B ≤ q) := by
  refine Met.ofW (cc := cX1_release) (maxL := 4) (ret := none) (by decide) rfl ?_
  intro p e s m args below meth c s₁ B9 hml hv
  obtain ⟨hargs, hBs, hP, hKK⟩ := hv
  have hx := B9.exec
  have hb := B9.bytes
  have hr := B9.returns
  have hts := atoms_spec (ws := wsX1_release) B9.pre
  have hown : s.vm.findClass RX1 = some m.cls := findClass_of_methodNamed B9.named
  have hlocks := B9.notSynchronized
  have hK := hKK.k
  have hS : va_S (fun q => B ≤ q) s.heap s.heap [] := va_S.rf
  obtain ⟨Q, hQ⟩ : ∃ Q, Q = MQ below (va_Qv (fun μ2 => ∃ g9 : Nat → Int64, μ2 = mu μ la (.inl (G.2 0, 158 * k + 158, .inr (.inl g9))) ∧ (k = 0 → (∀ c, c < 144 → g9 c = rl f i c) ∧ Hi f g9)) (BB G B) (fun q => B ≤ q)) args s 0 0 (fun q => B ≤ q) := ⟨_, rfl⟩
  rw [← hQ]
  have ne0_1 : h ≠ hn := mp_ne hh hhn (by simp)
  have ne0_2 : h ≠ la := mp_ne hh ha (by simp)
  have ne1_2 : hn ≠ la := mp_ne hhn ha (by simp)
  have in_X1_release_X1 : ∀ w ∈ wsX10, w ∈ wsX1_release := by decide +kernel
  have hP : mw G.1 vwCl B (mu μ la (.inl (G.2 0, 158 * k + 158, .inr (.inl f)))) s.heap := mw_eq (mu_i ha).symm hP
  have L4 : ∀ (N4 : Nat) (p1 : Nat) (g1 : Nat → Int64) (hN4 : 2 * i + 2 - p1 < N4) (hp : 2 * i ≤ p1 ∧ p1 ≤ 2 * i + 2) (hz : k = 0 → RelI f g1 i p1 0), ∀ (H : Heap) (locs : List Loc), mw G.1 vwCl B (mu μ la (.inl (G.2 0, 158 * k + 158, .inr (.inl g1)))) H → va_S (fun q => B ≤ q) s.heap H locs → ∀ ls : Array Slot, lv_has ls 4 [(0, .ref h), (1, .int (nI i)), (2, .int (nI p1))] → W p l e rm_X1_release s m args below meth c H locs 0 0 Q (F0 m 4 ls []) := by
    intro N4
    induction N4 with
    | zero => intro p1 g1 hN4; exact absurd hN4 (Nat.not_lt_zero _)
    | succ N4 ih4 =>
      intro p1 g1 hN4 hp hz H locs hP hS ls hl
      have L15 : ∀ (N15 : Nat) (q1 : Nat) (g1 : Nat → Int64) (hN15 : 12 - q1 < N15) (hpo : p1 ≤ 2 * i + 1) (hq : q1 ≤ 12) (hz : k = 0 → RelI f g1 i p1 q1), ∀ (H : Heap) (locs : List Loc), mw G.1 vwCl B (mu μ la (.inl (G.2 0, 158 * k + 158, .inr (.inl g1)))) H → va_S (fun q => B ≤ q) s.heap H locs → ∀ ls : Array Slot, lv_has ls 4 [(0, .ref h), (1, .int (nI i)), (2, .int (nI p1)), (3, .int (nI q1))] → W p l e rm_X1_release s m args below meth c H locs 0 0 Q (F0 m 15 ls []) := by
        intro N15
        induction N15 with
        | zero => intro q1 g1 hN15; exact absurd hN15 (Nat.not_lt_zero _)
        | succ N15 ih15 =>
          intro q1 g1 hN15 hpo hq hz H locs hP hS ls hl
          refine lv_iload_n hx hb dX1_release_15 rfl (lv_at hl 3 rfl) ?_
          refine lv_bipush (v := nI 12) hx hb dX1_release_16 (by decide) ?_
          refine nv_icmp_ge (tgt := 51) hx hb (by omega) (by omega) dX1_release_18 (by decide) (fun hc18 => ?_) (fun hc18 => ?_)
          · refine lv_iinc (v := nI (p1 + 1)) (lv' := [(2, .int (nI (p1 + 1))), (0, .ref h), (1, .int (nI i)), (3, .int (nI q1))]) hx hb dX1_release_51 hl (k := 2) rfl (nI_add _ _) (by decide) rfl (fun ls hl => ?_)
            refine lv_goto (tgt := 4) hx hb dX1_release_54 (by decide) ?_
            exact ih4 (p1 + 1) g1 (by omega) (by omega) (fun h0 => by have e : q1 = 12 := (by omega); subst e; exact (hz h0).n (by omega)) _ _ hP hS ls (lv_sub hl [1, 2, 0] rfl)
          · refine lv_aload_n hx hb dX1_release_21 rfl (lv_at hl 0 rfl) ?_
            refine mw_get (C := RX1) (T := TX1) (N := 2) hx hb hts in_X1_release_X1 hown hK hP ((mu_n ne0_2).trans (hh)) rfl 0 (by decide) (hts (.fieldLink RX1 16 "OctagonDesk$Shape" "numbers" "LOctagonDesk$Numbers;") (by decide +kernel)) (fun _ h9 => h9) rfl dX1_release_22 ?_
            refine lv_iload_n hx hb dX1_release_25 rfl (lv_at hl 2 rfl) ?_
            refine lv_iload_n hx hb dX1_release_26 rfl (lv_at hl 3 rfl) ?_
            refine kc_i (va_runS (As := [.int (nI p1), .int (nI q1)]) (rest := [.ref hn]) ⟨hx, hb, hml, hown, hts⟩ (c_X1_cell l G B (mu μ la (.inl (G.2 0, 158 * k + 158, .inr (.inl g1)))) p1 q1) (va_cwS 2 hts gX1_release_X1_cell rfl rfl rfl (by decide +kernel) ⟨Nat.le_of_ble_eq_true rfl, Nat.le_of_ble_eq_true rfl⟩) ⟨KW.blind, fun U9 hU9 hW9 => ⟨rfl, KW.pre hBs hKK hS hP U9 hU9 hW9⟩⟩ rfl rfl hl.1 rfl (lv_room (Nat.le_of_ble_eq_true rfl)) dX1_release_27 ⟨Nat.le_of_ble_eq_true rfl, Nat.le_of_ble_eq_true rfl⟩) hS (fun r27 m27 H locs hq9 hP hz9 hS => ?_)
            obtain ⟨he9, rfl⟩ := hq9
            rw [he9] at hP
            refine kc_v (va_runV (As := [.int (nI (p1 * 12 + q1))]) (rest := []) ⟨hx, hb, hml, hown, hts⟩ (c_X0_setInfinite l G B (mu μ la (.inl (G.2 0, 158 * k + 158, .inr (.inl g1)))) hn la k g1 (p1 * 12 + q1) ((mu_n ne1_2).trans (hhn)) (mu_s _ _ _) (by omega) (by omega)) (cwV 1 hts gX1_release_X0_setInfinite rfl rfl rfl (by decide +kernel) ⟨Nat.le_of_ble_eq_true rfl, Nat.le_of_ble_eq_true rfl⟩) ⟨KW.blind, hP.recv hK rfl ((mu_n ne1_2).trans (hhn)), fun U9 hU9 hW9 => ⟨rfl, KW.pre hBs hKK hS hP U9 hU9 hW9⟩⟩ rfl rfl hl.1 rfl (lv_room (Nat.le_of_ble_eq_true rfl)) dX1_release_30 ⟨Nat.le_of_ble_eq_true rfl, Nat.le_of_ble_eq_true rfl⟩) hS (fun m30 H locs hq9 hP hz9 hS => ?_)
            obtain ⟨g30, rfl, hg30⟩ := hq9
            have hP : mw G.1 vwCl B (mu μ la (.inl (G.2 0, 158 * k + 158, .inr (.inl g30)))) _ := mw_eq (mu_u _ _ _ _) hP
            refine lv_aload_n hx hb dX1_release_33 rfl (lv_at hl 0 rfl) ?_
            refine mw_get (C := RX1) (T := TX1) (N := 2) hx hb hts in_X1_release_X1 hown hK hP ((mu_n ne0_2).trans (hh)) rfl 0 (by decide) (hts (.fieldLink RX1 16 "OctagonDesk$Shape" "numbers" "LOctagonDesk$Numbers;") (by decide +kernel)) (fun _ h9 => h9) rfl dX1_release_34 ?_
            refine lv_iload_n hx hb dX1_release_37 rfl (lv_at hl 3 rfl) ?_
            refine lv_iload_n hx hb dX1_release_38 rfl (lv_at hl 2 rfl) ?_
            refine kc_i (va_runS (As := [.int (nI q1), .int (nI p1)]) (rest := [.ref hn]) ⟨hx, hb, hml, hown, hts⟩ (c_X1_cell l G B (mu μ la (.inl (G.2 0, 158 * k + 158, .inr (.inl g30)))) q1 p1) (va_cwS 2 hts gX1_release_X1_cell rfl rfl rfl (by decide +kernel) ⟨Nat.le_of_ble_eq_true rfl, Nat.le_of_ble_eq_true rfl⟩) ⟨KW.blind, fun U9 hU9 hW9 => ⟨rfl, KW.pre hBs hKK hS hP U9 hU9 hW9⟩⟩ rfl rfl hl.1 rfl (lv_room (Nat.le_of_ble_eq_true rfl)) dX1_release_39 ⟨Nat.le_of_ble_eq_true rfl, Nat.le_of_ble_eq_true rfl⟩) hS (fun r39 m39 H locs hq9 hP hz9 hS => ?_)
            obtain ⟨he9, rfl⟩ := hq9
            rw [he9] at hP
            refine kc_v (va_runV (As := [.int (nI (q1 * 12 + p1))]) (rest := []) ⟨hx, hb, hml, hown, hts⟩ (c_X0_setInfinite l G B (mu μ la (.inl (G.2 0, 158 * k + 158, .inr (.inl g30)))) hn la k g30 (q1 * 12 + p1) ((mu_n ne1_2).trans (hhn)) (mu_s _ _ _) (by omega) (by omega)) (cwV 1 hts gX1_release_X0_setInfinite rfl rfl rfl (by decide +kernel) ⟨Nat.le_of_ble_eq_true rfl, Nat.le_of_ble_eq_true rfl⟩) ⟨KW.blind, hP.recv hK rfl ((mu_n ne1_2).trans (hhn)), fun U9 hU9 hW9 => ⟨rfl, KW.pre hBs hKK hS hP U9 hU9 hW9⟩⟩ rfl rfl hl.1 rfl (lv_room (Nat.le_of_ble_eq_true rfl)) dX1_release_42 ⟨Nat.le_of_ble_eq_true rfl, Nat.le_of_ble_eq_true rfl⟩) hS (fun m42 H locs hq9 hP hz9 hS => ?_)
            obtain ⟨g42, rfl, hg42⟩ := hq9
            have hP : mw G.1 vwCl B (mu μ la (.inl (G.2 0, 158 * k + 158, .inr (.inl g42)))) _ := mw_eq (mu_u _ _ _ _) hP
            refine lv_iinc (v := nI (q1 + 1)) (lv' := [(3, .int (nI (q1 + 1))), (0, .ref h), (1, .int (nI i)), (2, .int (nI p1))]) hx hb dX1_release_45 hl (k := 3) rfl (nI_add _ _) (by decide) rfl (fun ls hl => ?_)
            refine lv_goto (tgt := 15) hx hb dX1_release_48 (by decide) ?_
            exact ih15 (q1 + 1) g42 (by omega) (by omega) (by omega) (fun h0 => by have h1 := (hz h0).s (by omega) (by omega) (by omega); rw [hg42 h0, hg30 h0]; exact h1) _ _ hP hS ls (lv_sub hl [1, 2, 3, 0] rfl)
      refine lv_iload_n hx hb dX1_release_4 rfl (lv_at hl 2 rfl) ?_
      refine lv_iconst (v := nI 2) hx hb dX1_release_5 (by decide) ?_
      refine lv_iload_n hx hb dX1_release_6 rfl (lv_at hl 1 rfl) ?_
      refine nv_imul hx hb dX1_release_7 ?_
      refine lv_iconst (v := nI 1) hx hb dX1_release_8 (by decide) ?_
      refine nv_iadd hx hb dX1_release_9 ?_
      refine nv_icmp_gt (tgt := 57) hx hb (by omega) (by omega) dX1_release_10 (by decide) (fun hc10 => ?_) (fun hc10 => ?_)
      · refine lv_aload_n hx hb dX1_release_57 rfl (lv_at hl 0 rfl) ?_
        refine mw_get (C := RX1) (T := TX1) (N := 2) hx hb hts in_X1_release_X1 hown hK hP ((mu_n ne0_2).trans (hh)) rfl 0 (by decide) (hts (.fieldLink RX1 16 "OctagonDesk$Shape" "numbers" "LOctagonDesk$Numbers;") (by decide +kernel)) (fun _ h9 => h9) rfl dX1_release_58 ?_
        refine lv_iconst (v := nI 2) hx hb dX1_release_61 (by decide) ?_
        refine lv_iload_n hx hb dX1_release_62 rfl (lv_at hl 1 rfl) ?_
        refine nv_imul hx hb dX1_release_63 ?_
        refine lv_iconst (v := nI 2) hx hb dX1_release_64 (by decide) ?_
        refine lv_iload_n hx hb dX1_release_65 rfl (lv_at hl 1 rfl) ?_
        refine nv_imul hx hb dX1_release_66 ?_
        refine lv_iconst (v := nI 1) hx hb dX1_release_67 (by decide) ?_
        refine nv_iadd hx hb dX1_release_68 ?_
        refine kc_i (va_runS (As := [.int (nI (2 * i)), .int (nI ((2 * i) + 1))]) (rest := [.ref hn]) ⟨hx, hb, hml, hown, hts⟩ (c_X1_cell l G B (mu μ la (.inl (G.2 0, 158 * k + 158, .inr (.inl g1)))) (2 * i) ((2 * i) + 1)) (va_cwS 2 hts gX1_release_X1_cell rfl rfl rfl (by decide +kernel) ⟨Nat.le_of_ble_eq_true rfl, Nat.le_of_ble_eq_true rfl⟩) ⟨KW.blind, fun U9 hU9 hW9 => ⟨rfl, KW.pre hBs hKK hS hP U9 hU9 hW9⟩⟩ rfl rfl hl.1 rfl (lv_room (Nat.le_of_ble_eq_true rfl)) dX1_release_69 ⟨Nat.le_of_ble_eq_true rfl, Nat.le_of_ble_eq_true rfl⟩) hS (fun r69 m69 H locs hq9 hP hz9 hS => ?_)
        obtain ⟨he9, rfl⟩ := hq9
        rw [he9] at hP
        refine lv_lconst (v := 0) hx hb dX1_release_72 (by decide) ?_
        refine kc_v (va_runV (As := [.int (nI ((2 * i) * 12 + ((2 * i) + 1))), .long 0]) (rest := []) ⟨hx, hb, hml, hown, hts⟩ (c_X0_set l G B (mu μ la (.inl (G.2 0, 158 * k + 158, .inr (.inl g1)))) hn la k g1 ((2 * i) * 12 + ((2 * i) + 1)) 0 ((mu_n ne1_2).trans (hhn)) (mu_s _ _ _) (by omega) (by omega)) (cwV 2 hts gX1_release_X0_set rfl rfl rfl (by decide +kernel) ⟨Nat.le_of_ble_eq_true rfl, Nat.le_of_ble_eq_true rfl⟩) ⟨KW.blind, hP.recv hK rfl ((mu_n ne1_2).trans (hhn)), fun U9 hU9 hW9 => ⟨rfl, KW.pre hBs hKK hS hP U9 hU9 hW9⟩⟩ rfl rfl hl.1 rfl (lv_room (Nat.le_of_ble_eq_true rfl)) dX1_release_73 ⟨Nat.le_of_ble_eq_true rfl, Nat.le_of_ble_eq_true rfl⟩) hS (fun m73 H locs hq9 hP hz9 hS => ?_)
        obtain ⟨g73, rfl, hg73⟩ := hq9
        have hP : mw G.1 vwCl B (mu μ la (.inl (G.2 0, 158 * k + 158, .inr (.inl g73)))) _ := mw_eq (mu_u _ _ _ _) hP
        refine lv_aload_n hx hb dX1_release_76 rfl (lv_at hl 0 rfl) ?_
        refine mw_get (C := RX1) (T := TX1) (N := 2) hx hb hts in_X1_release_X1 hown hK hP ((mu_n ne0_2).trans (hh)) rfl 0 (by decide) (hts (.fieldLink RX1 16 "OctagonDesk$Shape" "numbers" "LOctagonDesk$Numbers;") (by decide +kernel)) (fun _ h9 => h9) rfl dX1_release_77 ?_
        refine lv_iconst (v := nI 2) hx hb dX1_release_80 (by decide) ?_
        refine lv_iload_n hx hb dX1_release_81 rfl (lv_at hl 1 rfl) ?_
        refine nv_imul hx hb dX1_release_82 ?_
        refine lv_iconst (v := nI 1) hx hb dX1_release_83 (by decide) ?_
        refine nv_iadd hx hb dX1_release_84 ?_
        refine lv_iconst (v := nI 2) hx hb dX1_release_85 (by decide) ?_
        refine lv_iload_n hx hb dX1_release_86 rfl (lv_at hl 1 rfl) ?_
        refine nv_imul hx hb dX1_release_87 ?_
        refine kc_i (va_runS (As := [.int (nI ((2 * i) + 1)), .int (nI (2 * i))]) (rest := [.ref hn]) ⟨hx, hb, hml, hown, hts⟩ (c_X1_cell l G B (mu μ la (.inl (G.2 0, 158 * k + 158, .inr (.inl g73)))) ((2 * i) + 1) (2 * i)) (va_cwS 2 hts gX1_release_X1_cell rfl rfl rfl (by decide +kernel) ⟨Nat.le_of_ble_eq_true rfl, Nat.le_of_ble_eq_true rfl⟩) ⟨KW.blind, fun U9 hU9 hW9 => ⟨rfl, KW.pre hBs hKK hS hP U9 hU9 hW9⟩⟩ rfl rfl hl.1 rfl (lv_room (Nat.le_of_ble_eq_true rfl)) dX1_release_88 ⟨Nat.le_of_ble_eq_true rfl, Nat.le_of_ble_eq_true rfl⟩) hS (fun r88 m88 H locs hq9 hP hz9 hS => ?_)
        obtain ⟨he9, rfl⟩ := hq9
        rw [he9] at hP
        refine lv_lconst (v := 0) hx hb dX1_release_91 (by decide) ?_
        refine kc_v (va_runV (As := [.int (nI (((2 * i) + 1) * 12 + (2 * i))), .long 0]) (rest := []) ⟨hx, hb, hml, hown, hts⟩ (c_X0_set l G B (mu μ la (.inl (G.2 0, 158 * k + 158, .inr (.inl g73)))) hn la k g73 (((2 * i) + 1) * 12 + (2 * i)) 0 ((mu_n ne1_2).trans (hhn)) (mu_s _ _ _) (by omega) (by omega)) (cwV 2 hts gX1_release_X0_set rfl rfl rfl (by decide +kernel) ⟨Nat.le_of_ble_eq_true rfl, Nat.le_of_ble_eq_true rfl⟩) ⟨KW.blind, hP.recv hK rfl ((mu_n ne1_2).trans (hhn)), fun U9 hU9 hW9 => ⟨rfl, KW.pre hBs hKK hS hP U9 hU9 hW9⟩⟩ rfl rfl hl.1 rfl (lv_room (Nat.le_of_ble_eq_true rfl)) dX1_release_92 ⟨Nat.le_of_ble_eq_true rfl, Nat.le_of_ble_eq_true rfl⟩) hS (fun m92 H locs hq9 hP hz9 hS => ?_)
        obtain ⟨g92, rfl, hg92⟩ := hq9
        have hP : mw G.1 vwCl B (mu μ la (.inl (G.2 0, 158 * k + 158, .inr (.inl g92)))) _ := mw_eq (mu_u _ _ _ _) hP
        rw [hQ]
        exact W.vret hx hb hr (fun t99 ht99 hW99 => ⟨⟨mu μ la (.inl (G.2 0, 158 * k + 158, .inr (.inl g92))), rfl, (⟨_, rfl, fun h0 => by rw [hg92 h0, hg73 h0]; exact RelI.e hi (by omega) (hz h0)⟩), by show mw _ _ _ _ t99.heap; rw [ht99]; exact hP⟩, hS.F ht99⟩) hS.2.2 dX1_release_95
      · refine lv_iconst (v := nI 0) hx hb dX1_release_13 (by decide) ?_
        refine lv_istore_n (lv' := [(3, .int (nI 0)), (0, .ref h), (1, .int (nI i)), (2, .int (nI p1))]) hx hb dX1_release_14 rfl hl (by decide) rfl (fun ls hl => ?_)
        exact L15 _ 0 g1 (Nat.lt_succ_self _) (by omega) (by omega) (hz) _ _ hP hS ls (lv_sub hl [1, 2, 3, 0] rfl)
  have hl := lv_entry ([.ref h, .int (nI i)]) (n := 4) (Nat.le_of_ble_eq_true rfl)
  have he9 : entryFrame m args 4 = entryFrame m ([.ref h, .int (nI i)] : List Value).toArray 4 := by rw [hargs]
  rw [he9, lg_entry_eq]
  generalize (lg_sl ([.ref h, .int (nI i)]) ++ List.replicate (4 - (lg_sl ([.ref h, .int (nI i)])).length) Slot.unset).toArray = ls at hl ⊢
  have hl : lv_has ls 4 [(0, .ref h), (1, .int (nI i))] := hl
  refine lv_iconst (v := nI 2) hx hb dX1_release_0 (by decide) ?_
  refine lv_iload_n hx hb dX1_release_1 rfl (lv_at hl 1 rfl) ?_
  refine nv_imul hx hb dX1_release_2 ?_
  refine lv_istore_n (lv' := [(2, .int (nI (2 * i))), (0, .ref h), (1, .int (nI i))]) hx hb dX1_release_3 rfl hl (by decide) rfl (fun ls hl => ?_)
  exact L4 _ (2 * i) f (Nat.lt_succ_self _) (by omega) (fun h0 => RelI.z f i) _ _ hP hS ls (lv_sub hl [1, 2, 0] rfl)

abbrev rm_X1_allowAll : Room := { frames := 2, cells := 0, slots := 0, locals := 49 }
set_option maxHeartbeats 4000000 in
set_option maxRecDepth 100000 in
theorem c_X1_allowAll (l : Launch) (G : GG) (B : Nat) (μ : mp) (h hn la k b : Nat) (f : Nat → Int64) (hh : μ h = some (.inr (1, [.ref hn, .int (nI b)]))) (hhn : μ hn = some (.inr (0, [.int (nI 158), .int (nI 157), .ref la, .int (nI (158 * k))]))) (ha : μ la = some (.inl (G.2 0, 158 * k + 158, .inr (.inl f)))) (hk : k ≤ 1022) : Met l yX1_allowAll wsX1_allowAll rm_X1_allowAll (va_Pc [.ref h] (KW G B μ)) (va_Qv (fun μ2 => ∃ g9 : Nat → Int64, μ2 = mu (mu μ h (.inr (1, [.ref hn, .int (nI 0)]))) la (.inl (G.2 0, 158 * k + 158, .inr (.inl g9))) ∧ (k = 0 → (∀ c, c < 144 → g9 c = tz c) ∧ Hi f g9)) (BB G B) (fun q => B ≤ q)) 0 0 (fun q => B ≤ q) := by
  refine Met.ofW (cc := cX1_allowAll) (maxL := 2) (ret := none) (by decide) rfl ?_
  intro p e s m args below meth c s₁ B9 hml hv
  obtain ⟨hargs, hBs, hP, hKK⟩ := hv
  have hx := B9.exec
  have hb := B9.bytes
  have hr := B9.returns
  have hts := atoms_spec (ws := wsX1_allowAll) B9.pre
  have hown : s.vm.findClass RX1 = some m.cls := findClass_of_methodNamed B9.named
  have hlocks := B9.notSynchronized
  have hK := hKK.k
  have hS : va_S (fun q => B ≤ q) s.heap s.heap [] := va_S.rf
  obtain ⟨Q, hQ⟩ : ∃ Q, Q = MQ below (va_Qv (fun μ2 => ∃ g9 : Nat → Int64, μ2 = mu (mu μ h (.inr (1, [.ref hn, .int (nI 0)]))) la (.inl (G.2 0, 158 * k + 158, .inr (.inl g9))) ∧ (k = 0 → (∀ c, c < 144 → g9 c = tz c) ∧ Hi f g9)) (BB G B) (fun q => B ≤ q)) args s 0 0 (fun q => B ≤ q) := ⟨_, rfl⟩
  rw [← hQ]
  have ne0_1 : h ≠ hn := mp_ne hh hhn (by simp)
  have ne0_2 : h ≠ la := mp_ne hh ha (by simp)
  have ne1_2 : hn ≠ la := mp_ne hhn ha (by simp)
  have in_X1_allowAll_X1 : ∀ w ∈ wsX10, w ∈ wsX1_allowAll := by decide +kernel
  have hP : mw G.1 vwCl B (mu (mu μ h (.inr (1, [.ref hn, .int (nI b)]))) la (.inl (G.2 0, 158 * k + 158, .inr (.inl f)))) s.heap := mw_eq ((congrArg (fun z => mu z la (.inl (G.2 0, 158 * k + 158, .inr (.inl f)))) (mu_i hh)).trans (mu_i ha)).symm hP
  have L7 : ∀ (N7 : Nat) (i : Nat) (g1 : Nat → Int64) (hN7 : 6 - i < N7) (hi : i ≤ 6) (hz : k = 0 → (∀ c, c < 144 → (c / 12 / 2 < i ∨ c % 12 / 2 < i) → g1 c = tz c) ∧ Hi f g1), ∀ (H : Heap) (locs : List Loc), mw G.1 vwCl B (mu (mu μ h (.inr (1, [.ref hn, .int (nI 0)]))) la (.inl (G.2 0, 158 * k + 158, .inr (.inl g1)))) H → va_S (fun q => B ≤ q) s.heap H locs → ∀ ls : Array Slot, lv_has ls 2 [(0, .ref h), (1, .int (nI i))] → W p l e rm_X1_allowAll s m args below meth c H locs 0 0 Q (F0 m 7 ls []) := by
    intro N7
    induction N7 with
    | zero => intro i g1 hN7; exact absurd hN7 (Nat.not_lt_zero _)
    | succ N7 ih7 =>
      intro i g1 hN7 hi hz H locs hP hS ls hl
      refine lv_iload_n hx hb dX1_allowAll_7 rfl (lv_at hl 1 rfl) ?_
      refine lv_bipush (v := nI 6) hx hb dX1_allowAll_8 (by decide) ?_
      refine nv_icmp_ge (tgt := 24) hx hb (by omega) (by omega) dX1_allowAll_10 (by decide) (fun hc10 => ?_) (fun hc10 => ?_)
      · rw [hQ]
        exact W.vret hx hb hr (fun t99 ht99 hW99 => ⟨⟨mu (mu μ h (.inr (1, [.ref hn, .int (nI 0)]))) la (.inl (G.2 0, 158 * k + 158, .inr (.inl g1))), rfl, (⟨_, rfl, fun h0 => ⟨fun c hc => (hz h0).1 c hc (by omega), (hz h0).2⟩⟩), by show mw _ _ _ _ t99.heap; rw [ht99]; exact hP⟩, hS.F ht99⟩) hS.2.2 dX1_allowAll_24
      · refine lv_aload_n hx hb dX1_allowAll_13 rfl (lv_at hl 0 rfl) ?_
        refine lv_iload_n hx hb dX1_allowAll_14 rfl (lv_at hl 1 rfl) ?_
        refine kc_v (va_runV (As := [.int (nI i)]) (rest := []) ⟨hx, hb, hml, hown, hts⟩ (c_X1_release l G B (mu (mu μ h (.inr (1, [.ref hn, .int (nI 0)]))) la (.inl (G.2 0, 158 * k + 158, .inr (.inl g1)))) h hn la k 0 g1 i ((mu_n ne0_2).trans (mu_s _ _ _)) ((mu_n ne1_2).trans ((mu_n ((Ne.symm ne0_1))).trans (hhn))) (mu_s _ _ _) (by omega) (by omega)) (cwV 1 hts gX1_allowAll_X1_release rfl rfl rfl (by decide +kernel) ⟨Nat.le_of_ble_eq_true rfl, Nat.le_of_ble_eq_true rfl⟩) ⟨KW.blind, hP.recv hK rfl ((mu_n ne0_2).trans (mu_s _ _ _)), fun U9 hU9 hW9 => ⟨rfl, KW.pre hBs hKK hS hP U9 hU9 hW9⟩⟩ rfl rfl hl.1 rfl (lv_room (Nat.le_of_ble_eq_true rfl)) dX1_allowAll_15 ⟨Nat.le_of_ble_eq_true rfl, Nat.le_of_ble_eq_true rfl⟩) hS (fun m15 H locs hq9 hP hz9 hS => ?_)
        obtain ⟨g15, rfl, hg15⟩ := hq9
        have hP : mw G.1 vwCl B (mu (mu μ h (.inr (1, [.ref hn, .int (nI 0)]))) la (.inl (G.2 0, 158 * k + 158, .inr (.inl g15)))) _ := mw_eq (mu_u _ _ _ _) hP
        refine lv_iinc (v := nI (i + 1)) (lv' := [(1, .int (nI (i + 1))), (0, .ref h)]) hx hb dX1_allowAll_18 hl (k := 1) rfl (nI_add _ _) (by decide) rfl (fun ls hl => ?_)
        refine lv_goto (tgt := 7) hx hb dX1_allowAll_21 (by decide) ?_
        exact ih7 (i + 1) g15 (by omega) (by omega) (fun h0 => ⟨aa_s (hz h0).1 (hg15 h0).1, fun c hc => ((hg15 h0).2 c hc).trans ((hz h0).2 c hc)⟩) _ _ hP hS ls (lv_sub hl [1, 0] rfl)
  have hl := lv_entry ([.ref h]) (n := 2) (Nat.le_of_ble_eq_true rfl)
  have he9 : entryFrame m args 2 = entryFrame m ([.ref h] : List Value).toArray 2 := by rw [hargs]
  rw [he9, lg_entry_eq]
  generalize (lg_sl ([.ref h]) ++ List.replicate (2 - (lg_sl ([.ref h])).length) Slot.unset).toArray = ls at hl ⊢
  have hl : lv_has ls 2 [(0, .ref h)] := hl
  refine lv_aload_n hx hb dX1_allowAll_0 rfl (lv_at hl 0 rfl) ?_
  refine lv_iconst (v := nI 0) hx hb dX1_allowAll_1 (by decide) ?_
  refine mw_put (ty := .boolean) (v := .int (nI 0)) (C := RX1) (T := TX1) (N := 2) hx hb hts in_X1_allowAll_X1 tyX1 tyX1_ok nmX1 hown hK hP hS ((mu_n ne0_2).trans (mu_s _ _ _)) rfl 1 (by decide) (hts (.fieldLink RX1 20 "OctagonDesk$Shape" "empty" "Z") (by decide +kernel)) (fun _ h9 => h9) rfl (by decide +kernel) (by first | rfl | decide) (by first | rfl | decide) (Nat.le_of_ble_eq_true rfl) dX1_allowAll_2 (fun H locs hP hS => ?_)
  have hP : mw G.1 vwCl B (mu (mu μ h (.inr (1, [.ref hn, .int (nI 0)]))) la (.inl (G.2 0, 158 * k + 158, .inr (.inl f)))) _ := mw_eq ((mu_c _ _ ((Ne.symm ne0_2))).trans (congrArg (fun z => mu z la (.inl (G.2 0, 158 * k + 158, .inr (.inl f)))) (mu_u _ _ _ _))) hP
  refine lv_iconst (v := nI 0) hx hb dX1_allowAll_5 (by decide) ?_
  refine lv_istore_n (lv' := [(1, .int (nI 0)), (0, .ref h)]) hx hb dX1_allowAll_6 rfl hl (by decide) rfl (fun ls hl => ?_)
  exact L7 _ 0 f (Nat.lt_succ_self _) (by omega) (fun h0 => ⟨fun c hc hi => absurd hi (by omega), fun _ _ => rfl⟩) _ _ hP hS ls (lv_sub hl [1, 0] rfl)

abbrev rm_X1_takeOver : Room := { frames := 2, cells := 0, slots := 0, locals := 81 }
set_option maxHeartbeats 4000000 in
set_option maxRecDepth 100000 in
theorem c_X1_takeOver (l : Launch) (G : GG) (B : Nat) (μ : mp) (h hn la k b : Nat) (f : Nat → Int64) (h2 hn2 la2 b2 : Nat) (g : Nat → Int64) (hh : μ h = some (.inr (1, [.ref hn, .int (nI b)]))) (hhn : μ hn = some (.inr (0, [.int (nI 158), .int (nI 157), .ref la, .int (nI (158 * k))]))) (ha : μ la = some (.inl (G.2 0, 158 * k + 158, .inr (.inl f)))) (hh2 : μ h2 = some (.inr (1, [.ref hn2, .int (nI b2)]))) (hhn2 : μ hn2 = some (.inr (0, [.int (nI 158), .int (nI 157), .ref la2, .int (nI (158 * k))]))) (ha2 : μ la2 = some (.inl (G.2 0, 158 * k + 158, .inr (.inl g)))) (hk : k ≤ 1022) (hb2 : b2 ≤ 1) : Met l yX1_takeOver wsX1_takeOver rm_X1_takeOver (va_Pc [.ref h, .ref h2] (KW G B μ)) (va_Qv (fun μ2 => ∃ g9 : Nat → Int64, μ2 = mu (mu μ la (.inl (G.2 0, 158 * k + 158, .inr (.inl g9)))) h (.inr (1, [.ref hn, .int (nI b2)])) ∧ ∀ j < 158 * k + 158, g9 j = g j) (BB G B) (fun q => B ≤ q)) 0 0 (fun q => B ≤ q) := by
  refine Met.ofW (cc := cX1_takeOver) (maxL := 2) (ret := none) (by decide) rfl ?_
  intro p e s m args below meth c s₁ B9 hml hv
  obtain ⟨hargs, hBs, hP, hKK⟩ := hv
  have hx := B9.exec
  have hb := B9.bytes
  have hr := B9.returns
  have hts := atoms_spec (ws := wsX1_takeOver) B9.pre
  have hown : s.vm.findClass RX1 = some m.cls := findClass_of_methodNamed B9.named
  have hlocks := B9.notSynchronized
  have hK := hKK.k
  have hS : va_S (fun q => B ≤ q) s.heap s.heap [] := va_S.rf
  obtain ⟨Q, hQ⟩ : ∃ Q, Q = MQ below (va_Qv (fun μ2 => ∃ g9 : Nat → Int64, μ2 = mu (mu μ la (.inl (G.2 0, 158 * k + 158, .inr (.inl g9)))) h (.inr (1, [.ref hn, .int (nI b2)])) ∧ ∀ j < 158 * k + 158, g9 j = g j) (BB G B) (fun q => B ≤ q)) args s 0 0 (fun q => B ≤ q) := ⟨_, rfl⟩
  rw [← hQ]
  have ne0_1 : h ≠ hn := mp_ne hh hhn (by simp)
  have ne0_2 : h ≠ la := mp_ne hh ha (by simp)
  have ne0_4 : h ≠ hn2 := mp_ne hh hhn2 (by simp)
  have ne0_5 : h ≠ la2 := mp_ne hh ha2 (by simp)
  have ne1_2 : hn ≠ la := mp_ne hhn ha (by simp)
  have ne1_3 : hn ≠ h2 := mp_ne hhn hh2 (by simp)
  have ne1_5 : hn ≠ la2 := mp_ne hhn ha2 (by simp)
  have ne2_3 : la ≠ h2 := mp_ne ha hh2 (by simp)
  have ne2_4 : la ≠ hn2 := mp_ne ha hhn2 (by simp)
  have ne3_4 : h2 ≠ hn2 := mp_ne hh2 hhn2 (by simp)
  have ne3_5 : h2 ≠ la2 := mp_ne hh2 ha2 (by simp)
  have ne4_5 : hn2 ≠ la2 := mp_ne hhn2 ha2 (by simp)
  have in_X1_takeOver_X1 : ∀ w ∈ wsX10, w ∈ wsX1_takeOver := by decide +kernel
  have hl := lv_entry ([.ref h, .ref h2]) (n := 2) (Nat.le_of_ble_eq_true rfl)
  have he9 : entryFrame m args 2 = entryFrame m ([.ref h, .ref h2] : List Value).toArray 2 := by rw [hargs]
  rw [he9, lg_entry_eq]
  generalize (lg_sl ([.ref h, .ref h2]) ++ List.replicate (2 - (lg_sl ([.ref h, .ref h2])).length) Slot.unset).toArray = ls at hl ⊢
  have hl : lv_has ls 2 [(0, .ref h), (1, .ref h2)] := hl
  refine lv_aload_n hx hb dX1_takeOver_0 rfl (lv_at hl 0 rfl) ?_
  refine mw_get (C := RX1) (T := TX1) (N := 2) hx hb hts in_X1_takeOver_X1 hown hK hP (hh) rfl 0 (by decide) (hts (.fieldLink RX1 16 "OctagonDesk$Shape" "numbers" "LOctagonDesk$Numbers;") (by decide +kernel)) (fun _ h9 => h9) rfl dX1_takeOver_1 ?_
  refine lv_aload_n hx hb dX1_takeOver_4 rfl (lv_at hl 1 rfl) ?_
  refine mw_get (C := RX1) (T := TX1) (N := 2) hx hb hts in_X1_takeOver_X1 hown hK hP (hh2) rfl 0 (by decide) (hts (.fieldLink RX1 16 "OctagonDesk$Shape" "numbers" "LOctagonDesk$Numbers;") (by decide +kernel)) (fun _ h9 => h9) rfl dX1_takeOver_5 ?_
  refine kc_v (va_runV (As := [.ref hn2]) (rest := []) ⟨hx, hb, hml, hown, hts⟩ (c_X0_takeOver l G B (μ) hn la k f hn2 la2 g  (hhn) (ha) (hhn2) (ha2) (by omega)) (cwV 1 hts gX1_takeOver_X0_takeOver rfl rfl rfl (by decide +kernel) ⟨Nat.le_of_ble_eq_true rfl, Nat.le_of_ble_eq_true rfl⟩) ⟨KW.blind, hP.recv hK rfl (hhn), fun U9 hU9 hW9 => ⟨rfl, KW.pre hBs hKK hS hP U9 hU9 hW9⟩⟩ rfl rfl hl.1 rfl (lv_room (Nat.le_of_ble_eq_true rfl)) dX1_takeOver_8 ⟨Nat.le_of_ble_eq_true rfl, Nat.le_of_ble_eq_true rfl⟩) hS (fun m8 H locs hq9 hP hz9 hS => ?_)
  obtain ⟨g8, rfl, hg8⟩ := hq9
  have hP : mw G.1 vwCl B (mu μ la (.inl (G.2 0, 158 * k + 158, .inr (.inl g8)))) _ := hP
  refine lv_aload_n hx hb dX1_takeOver_11 rfl (lv_at hl 0 rfl) ?_
  refine lv_aload_n hx hb dX1_takeOver_12 rfl (lv_at hl 1 rfl) ?_
  refine mw_get (C := RX1) (T := TX1) (N := 2) hx hb hts in_X1_takeOver_X1 hown hK hP ((mu_n ((Ne.symm ne2_3))).trans (hh2)) rfl 1 (by decide) (hts (.fieldLink RX1 20 "OctagonDesk$Shape" "empty" "Z") (by decide +kernel)) (fun _ h9 => h9) rfl dX1_takeOver_13 ?_
  refine mw_put (ty := .boolean) (v := .int (nI b2)) (C := RX1) (T := TX1) (N := 2) hx hb hts in_X1_takeOver_X1 tyX1 tyX1_ok nmX1 hown hK hP hS ((mu_n ne0_2).trans (hh)) rfl 1 (by decide) (hts (.fieldLink RX1 20 "OctagonDesk$Shape" "empty" "Z") (by decide +kernel)) (fun _ h9 => h9) rfl (by decide +kernel) (zb_n (by omega)) (zb_f (by omega)) (Nat.le_of_ble_eq_true rfl) dX1_takeOver_16 (fun H locs hP hS => ?_)
  have hP : mw G.1 vwCl B (mu (mu μ la (.inl (G.2 0, 158 * k + 158, .inr (.inl g8)))) h (.inr (1, [.ref hn, .int (nI b2)]))) _ := hP
  rw [hQ]
  exact W.vret hx hb hr (fun t99 ht99 hW99 => ⟨⟨mu (mu μ la (.inl (G.2 0, 158 * k + 158, .inr (.inl g8)))) h (.inr (1, [.ref hn, .int (nI b2)])), rfl, (⟨_, rfl, hg8⟩), by show mw _ _ _ _ t99.heap; rw [ht99]; exact hP⟩, hS.F ht99⟩) hS.2.2 dX1_takeOver_19

abbrev rm_X1_findContradiction : Room := { frames := 1, cells := 0, slots := 0, locals := 21 }
set_option maxHeartbeats 4000000 in
set_option maxRecDepth 100000 in
theorem c_X1_findContradiction (l : Launch) (G : GG) (B : Nat) (μ : mp) (h hn la k b : Nat) (f : Nat → Int64) (hh : μ h = some (.inr (1, [.ref hn, .int (nI b)]))) (hhn : μ hn = some (.inr (0, [.int (nI 158), .int (nI 157), .ref la, .int (nI (158 * k))]))) (ha : μ la = some (.inl (G.2 0, 158 * k + 158, .inr (.inl f)))) (hk : k ≤ 1022) (hb1 : b ≤ 1) : Met l yX1_findContradiction wsX1_findContradiction rm_X1_findContradiction (va_Pc [.ref h] (KW G B μ)) (va_Qv (fun μ2 => ∃ b9 : Nat, μ2 = mu μ h (.inr (1, [.ref hn, .int (nI b9)])) ∧ b9 ≤ 1 ∧ (k = 0 → (∀ p, p < 12 → ¬ f (p * 12 + ne p) < 0) → b9 = b)) (BB G B) (fun q => B ≤ q)) 0 0 (fun q => B ≤ q) := by
  refine Met.ofW (cc := cX1_findContradiction) (maxL := 2) (ret := none) (by decide) rfl ?_
  intro p e s m args below meth c s₁ B9 hml hv
  obtain ⟨hargs, hBs, hP, hKK⟩ := hv
  have hx := B9.exec
  have hb := B9.bytes
  have hr := B9.returns
  have hts := atoms_spec (ws := wsX1_findContradiction) B9.pre
  have hown : s.vm.findClass RX1 = some m.cls := findClass_of_methodNamed B9.named
  have hlocks := B9.notSynchronized
  have hK := hKK.k
  have hS : va_S (fun q => B ≤ q) s.heap s.heap [] := va_S.rf
  obtain ⟨Q, hQ⟩ : ∃ Q, Q = MQ below (va_Qv (fun μ2 => ∃ b9 : Nat, μ2 = mu μ h (.inr (1, [.ref hn, .int (nI b9)])) ∧ b9 ≤ 1 ∧ (k = 0 → (∀ p, p < 12 → ¬ f (p * 12 + ne p) < 0) → b9 = b)) (BB G B) (fun q => B ≤ q)) args s 0 0 (fun q => B ≤ q) := ⟨_, rfl⟩
  rw [← hQ]
  have ne0_1 : h ≠ hn := mp_ne hh hhn (by simp)
  have ne0_2 : h ≠ la := mp_ne hh ha (by simp)
  have ne1_2 : hn ≠ la := mp_ne hhn ha (by simp)
  have in_X1_findContradiction_X1 : ∀ w ∈ wsX10, w ∈ wsX1_findContradiction := by decide +kernel
  have hP : mw G.1 vwCl B (mu μ h (.inr (1, [.ref hn, .int (nI b)]))) s.heap := mw_eq (mu_i hh).symm hP
  have L2 : ∀ (N2 : Nat) (p1 : Nat) (b1 : Nat) (hN2 : 12 - p1 < N2) (hp : p1 ≤ 12) (hbb : b1 ≤ 1) (hz : k = 0 → (∀ p, p < 12 → ¬ f (p * 12 + ne p) < 0) → b1 = b), ∀ (H : Heap) (locs : List Loc), mw G.1 vwCl B (mu μ h (.inr (1, [.ref hn, .int (nI b1)]))) H → va_S (fun q => B ≤ q) s.heap H locs → ∀ ls : Array Slot, lv_has ls 2 [(0, .ref h), (1, .int (nI p1))] → W p l e rm_X1_findContradiction s m args below meth c H locs 0 0 Q (F0 m 2 ls []) := by
    intro N2
    induction N2 with
    | zero => intro p1 b1 hN2; exact absurd hN2 (Nat.not_lt_zero _)
    | succ N2 ih2 =>
      intro p1 b1 hN2 hp hbb hz H locs hP hS ls hl
      refine lv_iload_n hx hb dX1_findContradiction_2 rfl (lv_at hl 1 rfl) ?_
      refine lv_bipush (v := nI 12) hx hb dX1_findContradiction_3 (by decide) ?_
      refine nv_icmp_ge (tgt := 37) hx hb (by omega) (by omega) dX1_findContradiction_5 (by decide) (fun hc5 => ?_) (fun hc5 => ?_)
      · rw [hQ]
        exact W.vret hx hb hr (fun t99 ht99 hW99 => ⟨⟨mu μ h (.inr (1, [.ref hn, .int (nI b1)])), rfl, (⟨_, rfl, hbb, hz⟩), by show mw _ _ _ _ t99.heap; rw [ht99]; exact hP⟩, hS.F ht99⟩) hS.2.2 dX1_findContradiction_37
      · refine lv_aload_n hx hb dX1_findContradiction_8 rfl (lv_at hl 0 rfl) ?_
        refine mw_get (C := RX1) (T := TX1) (N := 2) hx hb hts in_X1_findContradiction_X1 hown hK hP (mu_s _ _ _) rfl 0 (by decide) (hts (.fieldLink RX1 16 "OctagonDesk$Shape" "numbers" "LOctagonDesk$Numbers;") (by decide +kernel)) (fun _ h9 => h9) rfl dX1_findContradiction_9 ?_
        refine lv_iload_n hx hb dX1_findContradiction_12 rfl (lv_at hl 1 rfl) ?_
        refine lv_iload_n hx hb dX1_findContradiction_13 rfl (lv_at hl 1 rfl) ?_
        refine kc_i (va_runSN (As := [.int (nI p1)]) (rest := [.int (nI p1), .ref hn]) ⟨hx, hb, hml, hown, hts⟩ (c_X3_negation l G B (mu μ h (.inr (1, [.ref hn, .int (nI b1)]))) p1 (by omega)) ⟨va_cnB 1 hts gX1_findContradiction_X3_negation_n82 rfl rfl rfl hKK.2.1.1 (hts (.initialized RX3) (by decide +kernel)) (by decide +kernel) ⟨Nat.le_of_ble_eq_true rfl, Nat.le_of_ble_eq_true rfl⟩, hts (.static yX3_negation) (by decide +kernel), trivial⟩ ⟨KW.blind, fun U9 hU9 hW9 => ⟨rfl, KW.pre hBs hKK hS hP U9 hU9 hW9⟩⟩ rfl rfl hl.1 rfl (lv_room (Nat.le_of_ble_eq_true rfl)) dX1_findContradiction_14 ⟨Nat.le_of_ble_eq_true rfl, Nat.le_of_ble_eq_true rfl⟩) hS (fun r14 m14 H locs hq9 hP hz9 hS => ?_)
        obtain ⟨he9, rfl⟩ := hq9
        rw [he9] at hP
        have hne14 := ne_lt (p := p1) (by omega)
        refine kc_i (va_runS (As := [.int (nI p1), .int (nI (ne p1))]) (rest := [.ref hn]) ⟨hx, hb, hml, hown, hts⟩ (c_X1_cell l G B (mu μ h (.inr (1, [.ref hn, .int (nI b1)]))) p1 (ne p1)) (va_cwS 2 hts gX1_findContradiction_X1_cell rfl rfl rfl (by decide +kernel) ⟨Nat.le_of_ble_eq_true rfl, Nat.le_of_ble_eq_true rfl⟩) ⟨KW.blind, fun U9 hU9 hW9 => ⟨rfl, KW.pre hBs hKK hS hP U9 hU9 hW9⟩⟩ rfl rfl hl.1 rfl (lv_room (Nat.le_of_ble_eq_true rfl)) dX1_findContradiction_17 ⟨Nat.le_of_ble_eq_true rfl, Nat.le_of_ble_eq_true rfl⟩) hS (fun r17 m17 H locs hq9 hP hz9 hS => ?_)
        obtain ⟨he9, rfl⟩ := hq9
        rw [he9] at hP
        refine kc_i (va_runV (As := [.int (nI (p1 * 12 + (ne p1)))]) (rest := []) ⟨hx, hb, hml, hown, hts⟩ (c_X0_isNegative l G B (mu μ h (.inr (1, [.ref hn, .int (nI b1)]))) hn la k f (p1 * 12 + (ne p1)) ((mu_n ((Ne.symm ne0_1))).trans (hhn)) ((mu_n ((Ne.symm ne0_2))).trans (ha)) (by omega) (by omega)) (cwV 1 hts gX1_findContradiction_X0_isNegative rfl rfl rfl (by decide +kernel) ⟨Nat.le_of_ble_eq_true rfl, Nat.le_of_ble_eq_true rfl⟩) ⟨KW.blind, hP.recv hK rfl ((mu_n ((Ne.symm ne0_1))).trans (hhn)), fun U9 hU9 hW9 => ⟨rfl, KW.pre hBs hKK hS hP U9 hU9 hW9⟩⟩ rfl rfl hl.1 rfl (lv_room (Nat.le_of_ble_eq_true rfl)) dX1_findContradiction_20 ⟨Nat.le_of_ble_eq_true rfl, Nat.le_of_ble_eq_true rfl⟩) hS (fun r20 m20 H locs hq9 hP hz9 hS => ?_)
        obtain ⟨he9, hr20⟩ := hq9
        rw [he9] at hP
        refine lv_if_eq (tgt := 31) hx hb dX1_findContradiction_23 (by decide) (fun hc23 => ?_) (fun hc23 => ?_)
        · refine lv_iinc (v := nI (p1 + 1)) (lv' := [(1, .int (nI (p1 + 1))), (0, .ref h)]) hx hb dX1_findContradiction_31 hl (k := 1) rfl (nI_add _ _) (by decide) rfl (fun ls hl => ?_)
          refine lv_goto (tgt := 2) hx hb dX1_findContradiction_34 (by decide) ?_
          exact ih2 (p1 + 1) b1 (by omega) (by omega) (by omega) (hz) _ _ hP hS ls (lv_sub hl [1, 0] rfl)
        · refine lv_aload_n hx hb dX1_findContradiction_26 rfl (lv_at hl 0 rfl) ?_
          refine lv_iconst (v := nI 1) hx hb dX1_findContradiction_27 (by decide) ?_
          refine mw_put (ty := .boolean) (v := .int (nI 1)) (C := RX1) (T := TX1) (N := 2) hx hb hts in_X1_findContradiction_X1 tyX1 tyX1_ok nmX1 hown hK hP hS (mu_s _ _ _) rfl 1 (by decide) (hts (.fieldLink RX1 20 "OctagonDesk$Shape" "empty" "Z") (by decide +kernel)) (fun _ h9 => h9) rfl (by decide +kernel) (by first | rfl | decide) (by first | rfl | decide) (Nat.le_of_ble_eq_true rfl) dX1_findContradiction_28 (fun H locs hP hS => ?_)
          have hP : mw G.1 vwCl B (mu μ h (.inr (1, [.ref hn, .int (nI 1)]))) _ := mw_eq (mu_u _ _ _ _) hP
          refine lv_iinc (v := nI (p1 + 1)) (lv' := [(1, .int (nI (p1 + 1))), (0, .ref h)]) hx hb dX1_findContradiction_31 hl (k := 1) rfl (nI_add _ _) (by decide) rfl (fun ls hl => ?_)
          refine lv_goto (tgt := 2) hx hb dX1_findContradiction_34 (by decide) ?_
          exact ih2 (p1 + 1) 1 (by omega) (by omega) (by omega) (fun h0 h1 => fc_1 hr20 hc23 h0 (h1 p1 (by omega))) _ _ hP hS ls (lv_sub hl [1, 0] rfl)
  have hl := lv_entry ([.ref h]) (n := 2) (Nat.le_of_ble_eq_true rfl)
  have he9 : entryFrame m args 2 = entryFrame m ([.ref h] : List Value).toArray 2 := by rw [hargs]
  rw [he9, lg_entry_eq]
  generalize (lg_sl ([.ref h]) ++ List.replicate (2 - (lg_sl ([.ref h])).length) Slot.unset).toArray = ls at hl ⊢
  have hl : lv_has ls 2 [(0, .ref h)] := hl
  refine lv_iconst (v := nI 0) hx hb dX1_findContradiction_0 (by decide) ?_
  refine lv_istore_n (lv' := [(1, .int (nI 0)), (0, .ref h)]) hx hb dX1_findContradiction_1 rfl hl (by decide) rfl (fun ls hl => ?_)
  exact L2 _ 0 b (Nat.lt_succ_self _) (by omega) (by omega) (fun _ _ => rfl) _ _ hP hS ls (lv_sub hl [1, 0] rfl)

abbrev rm_X1_combineSingles : Room := { frames := 2, cells := 0, slots := 0, locals := 51 }
set_option maxHeartbeats 4000000 in
set_option maxRecDepth 100000 in
theorem c_X1_combineSingles (l : Launch) (G : GG) (B : Nat) (μ : mp) (h hn la k b : Nat) (f : Nat → Int64) (hh : μ h = some (.inr (1, [.ref hn, .int (nI b)]))) (hhn : μ hn = some (.inr (0, [.int (nI 158), .int (nI 157), .ref la, .int (nI (158 * k))]))) (ha : μ la = some (.inl (G.2 0, 158 * k + 158, .inr (.inl f)))) (hk : k ≤ 1022) (hb1 : b ≤ 1) : Met l yX1_combineSingles wsX1_combineSingles rm_X1_combineSingles (va_Pc [.ref h] (KW G B μ)) (va_Qv (fun μ2 => ∃ (g9 : Nat → Int64) (b9 : Nat), μ2 = mu (mu μ h (.inr (1, [.ref hn, .int (nI b9)]))) la (.inl (G.2 0, 158 * k + 158, .inr (.inl g9))) ∧ b9 ≤ 1 ∧ (k = 0 → RR f g9 b b9 ∧ ZZ f g9)) (BB G B) (fun q => B ≤ q)) 0 0 (fun q => B ≤ q) := by
  refine Met.ofW (cc := cX1_combineSingles) (maxL := 3) (ret := none) (by decide) rfl ?_
  intro p e s m args below meth c s₁ B9 hml hv
  obtain ⟨hargs, hBs, hP, hKK⟩ := hv
  have hx := B9.exec
  have hb := B9.bytes
  have hr := B9.returns
  have hts := atoms_spec (ws := wsX1_combineSingles) B9.pre
  have hown : s.vm.findClass RX1 = some m.cls := findClass_of_methodNamed B9.named
  have hlocks := B9.notSynchronized
  have hK := hKK.k
  have hS : va_S (fun q => B ≤ q) s.heap s.heap [] := va_S.rf
  obtain ⟨Q, hQ⟩ : ∃ Q, Q = MQ below (va_Qv (fun μ2 => ∃ (g9 : Nat → Int64) (b9 : Nat), μ2 = mu (mu μ h (.inr (1, [.ref hn, .int (nI b9)]))) la (.inl (G.2 0, 158 * k + 158, .inr (.inl g9))) ∧ b9 ≤ 1 ∧ (k = 0 → RR f g9 b b9 ∧ ZZ f g9)) (BB G B) (fun q => B ≤ q)) args s 0 0 (fun q => B ≤ q) := ⟨_, rfl⟩
  rw [← hQ]
  have ne0_1 : h ≠ hn := mp_ne hh hhn (by simp)
  have ne0_2 : h ≠ la := mp_ne hh ha (by simp)
  have ne1_2 : hn ≠ la := mp_ne hhn ha (by simp)
  have in_X1_combineSingles_X1 : ∀ w ∈ wsX10, w ∈ wsX1_combineSingles := by decide +kernel
  have hP : mw G.1 vwCl B (mu (mu μ h (.inr (1, [.ref hn, .int (nI b)]))) la (.inl (G.2 0, 158 * k + 158, .inr (.inl f)))) s.heap := mw_eq ((congrArg (fun z => mu z la (.inl (G.2 0, 158 * k + 158, .inr (.inl f)))) (mu_i hh)).trans (mu_i ha)).symm hP
  have L41 : ∀ (N41 : Nat) (p1 : Nat) (g1 : Nat → Int64) (hN41 : 12 - p1 < N41) (hp : p1 ≤ 12) (hz : k = 0 → (RR f g1 b b ∧ Al f g1 12) ∧ ZZ f g1), ∀ (H : Heap) (locs : List Loc), mw G.1 vwCl B (mu (mu μ h (.inr (1, [.ref hn, .int (nI b)]))) la (.inl (G.2 0, 158 * k + 158, .inr (.inl g1)))) H → va_S (fun q => B ≤ q) s.heap H locs → ∀ ls : Array Slot, lv_has ls 3 [(0, .ref h), (1, .int (nI p1))] → W p l e rm_X1_combineSingles s m args below meth c H locs 0 0 Q (F0 m 41 ls []) := by
    intro N41
    induction N41 with
    | zero => intro p1 g1 hN41; exact absurd hN41 (Nat.not_lt_zero _)
    | succ N41 ih41 =>
      intro p1 g1 hN41 hp hz H locs hP hS ls hl
      have L49 : ∀ (N49 : Nat) (q1 : Nat) (g1 : Nat → Int64) (hN49 : 12 - q1 < N49) (hpo : p1 < 12) (hq : q1 ≤ 12) (hz : k = 0 → (RR f g1 b b ∧ Al f g1 12) ∧ ZZ f g1), ∀ (H : Heap) (locs : List Loc), mw G.1 vwCl B (mu (mu μ h (.inr (1, [.ref hn, .int (nI b)]))) la (.inl (G.2 0, 158 * k + 158, .inr (.inl g1)))) H → va_S (fun q => B ≤ q) s.heap H locs → ∀ ls : Array Slot, lv_has ls 3 [(0, .ref h), (1, .int (nI p1)), (2, .int (nI q1))] → W p l e rm_X1_combineSingles s m args below meth c H locs 0 0 Q (F0 m 49 ls []) := by
        intro N49
        induction N49 with
        | zero => intro q1 g1 hN49; exact absurd hN49 (Nat.not_lt_zero _)
        | succ N49 ih49 =>
          intro q1 g1 hN49 hpo hq hz H locs hP hS ls hl
          refine lv_iload_n hx hb dX1_combineSingles_49 rfl (lv_at hl 2 rfl) ?_
          refine lv_bipush (v := nI 12) hx hb dX1_combineSingles_50 (by decide) ?_
          refine nv_icmp_ge (tgt := 98) hx hb (by omega) (by omega) dX1_combineSingles_52 (by decide) (fun hc52 => ?_) (fun hc52 => ?_)
          · refine lv_iinc (v := nI (p1 + 1)) (lv' := [(1, .int (nI (p1 + 1))), (0, .ref h), (2, .int (nI q1))]) hx hb dX1_combineSingles_98 hl (k := 1) rfl (nI_add _ _) (by decide) rfl (fun ls hl => ?_)
            refine lv_goto (tgt := 41) hx hb dX1_combineSingles_101 (by decide) ?_
            exact ih41 (p1 + 1) g1 (by omega) (by omega) (hz) _ _ hP hS ls (lv_sub hl [1, 0] rfl)
          · refine lv_aload_n hx hb dX1_combineSingles_55 rfl (lv_at hl 0 rfl) ?_
            refine mw_get (C := RX1) (T := TX1) (N := 2) hx hb hts in_X1_combineSingles_X1 hown hK hP ((mu_n ne0_2).trans (mu_s _ _ _)) rfl 0 (by decide) (hts (.fieldLink RX1 16 "OctagonDesk$Shape" "numbers" "LOctagonDesk$Numbers;") (by decide +kernel)) (fun _ h9 => h9) rfl dX1_combineSingles_56 ?_
            refine lv_sipush (v := nI 144) hx hb dX1_combineSingles_59 (by decide) ?_
            refine lv_iload_n hx hb dX1_combineSingles_62 rfl (lv_at hl 1 rfl) ?_
            refine nv_iadd hx hb dX1_combineSingles_63 ?_
            refine kc_i (va_runV (As := [.int (nI (144 + p1))]) (rest := []) ⟨hx, hb, hml, hown, hts⟩ (c_X0_isInfinite l G B (mu (mu μ h (.inr (1, [.ref hn, .int (nI b)]))) la (.inl (G.2 0, 158 * k + 158, .inr (.inl g1)))) hn la k g1 (144 + p1) ((mu_n ne1_2).trans ((mu_n ((Ne.symm ne0_1))).trans (hhn))) (mu_s _ _ _) (by omega) (by omega)) (cwV 1 hts gX1_combineSingles_X0_isInfinite rfl rfl rfl (by decide +kernel) ⟨Nat.le_of_ble_eq_true rfl, Nat.le_of_ble_eq_true rfl⟩) ⟨KW.blind, hP.recv hK rfl ((mu_n ne1_2).trans ((mu_n ((Ne.symm ne0_1))).trans (hhn))), fun U9 hU9 hW9 => ⟨rfl, KW.pre hBs hKK hS hP U9 hU9 hW9⟩⟩ rfl rfl hl.1 rfl (lv_room (Nat.le_of_ble_eq_true rfl)) dX1_combineSingles_64 ⟨Nat.le_of_ble_eq_true rfl, Nat.le_of_ble_eq_true rfl⟩) hS (fun r64 m64 H locs hq9 hP hz9 hS => ?_)
            obtain ⟨he9, hr64⟩ := hq9
            rw [he9] at hP
            refine lv_if_ne (tgt := 98) hx hb dX1_combineSingles_67 (by decide) (fun hc67 => ?_) (fun hc67 => ?_)
            · refine lv_iinc (v := nI (p1 + 1)) (lv' := [(1, .int (nI (p1 + 1))), (0, .ref h), (2, .int (nI q1))]) hx hb dX1_combineSingles_98 hl (k := 1) rfl (nI_add _ _) (by decide) rfl (fun ls hl => ?_)
              refine lv_goto (tgt := 41) hx hb dX1_combineSingles_101 (by decide) ?_
              exact ih41 (p1 + 1) g1 (by omega) (by omega) (hz) _ _ hP hS ls (lv_sub hl [1, 0] rfl)
            · refine lv_aload_n hx hb dX1_combineSingles_70 rfl (lv_at hl 0 rfl) ?_
              refine mw_get (C := RX1) (T := TX1) (N := 2) hx hb hts in_X1_combineSingles_X1 hown hK hP ((mu_n ne0_2).trans (mu_s _ _ _)) rfl 0 (by decide) (hts (.fieldLink RX1 16 "OctagonDesk$Shape" "numbers" "LOctagonDesk$Numbers;") (by decide +kernel)) (fun _ h9 => h9) rfl dX1_combineSingles_71 ?_
              refine lv_iload_n hx hb dX1_combineSingles_74 rfl (lv_at hl 1 rfl) ?_
              refine lv_iload_n hx hb dX1_combineSingles_75 rfl (lv_at hl 2 rfl) ?_
              refine kc_i (va_runS (As := [.int (nI p1), .int (nI q1)]) (rest := [.ref hn]) ⟨hx, hb, hml, hown, hts⟩ (c_X1_cell l G B (mu (mu μ h (.inr (1, [.ref hn, .int (nI b)]))) la (.inl (G.2 0, 158 * k + 158, .inr (.inl g1)))) p1 q1) (va_cwS 2 hts gX1_combineSingles_X1_cell rfl rfl rfl (by decide +kernel) ⟨Nat.le_of_ble_eq_true rfl, Nat.le_of_ble_eq_true rfl⟩) ⟨KW.blind, fun U9 hU9 hW9 => ⟨rfl, KW.pre hBs hKK hS hP U9 hU9 hW9⟩⟩ rfl rfl hl.1 rfl (lv_room (Nat.le_of_ble_eq_true rfl)) dX1_combineSingles_76 ⟨Nat.le_of_ble_eq_true rfl, Nat.le_of_ble_eq_true rfl⟩) hS (fun r76 m76 H locs hq9 hP hz9 hS => ?_)
              obtain ⟨he9, rfl⟩ := hq9
              rw [he9] at hP
              refine lv_sipush (v := nI 144) hx hb dX1_combineSingles_79 (by decide) ?_
              refine lv_iload_n hx hb dX1_combineSingles_82 rfl (lv_at hl 1 rfl) ?_
              refine nv_iadd hx hb dX1_combineSingles_83 ?_
              refine lv_sipush (v := nI 144) hx hb dX1_combineSingles_84 (by decide) ?_
              refine lv_iload_n hx hb dX1_combineSingles_87 rfl (lv_at hl 2 rfl) ?_
              refine nv_iadd hx hb dX1_combineSingles_88 ?_
              refine kc_v (va_runV (As := [.int (nI (p1 * 12 + q1)), .int (nI (144 + p1)), .int (nI (144 + q1))]) (rest := []) ⟨hx, hb, hml, hown, hts⟩ (c_X0_lower l G B (mu (mu μ h (.inr (1, [.ref hn, .int (nI b)]))) la (.inl (G.2 0, 158 * k + 158, .inr (.inl g1)))) hn la k g1 (p1 * 12 + q1) (144 + p1) (144 + q1) ((mu_n ne1_2).trans ((mu_n ((Ne.symm ne0_1))).trans (hhn))) (mu_s _ _ _) (by omega) (by omega) (by omega) (by omega)) (cwV 3 hts gX1_combineSingles_X0_lower rfl rfl rfl (by decide +kernel) ⟨Nat.le_of_ble_eq_true rfl, Nat.le_of_ble_eq_true rfl⟩) ⟨KW.blind, hP.recv hK rfl ((mu_n ne1_2).trans ((mu_n ((Ne.symm ne0_1))).trans (hhn))), fun U9 hU9 hW9 => ⟨rfl, KW.pre hBs hKK hS hP U9 hU9 hW9⟩⟩ rfl rfl hl.1 rfl (lv_room (Nat.le_of_ble_eq_true rfl)) dX1_combineSingles_89 ⟨Nat.le_of_ble_eq_true rfl, Nat.le_of_ble_eq_true rfl⟩) hS (fun m89 H locs hq9 hP hz9 hS => ?_)
              obtain ⟨g89, rfl, hg89⟩ := hq9
              have hP : mw G.1 vwCl B (mu (mu μ h (.inr (1, [.ref hn, .int (nI b)]))) la (.inl (G.2 0, 158 * k + 158, .inr (.inl g89)))) _ := mw_eq (mu_u _ _ _ _) hP
              refine lv_iinc (v := nI (q1 + 1)) (lv' := [(2, .int (nI (q1 + 1))), (0, .ref h), (1, .int (nI p1))]) hx hb dX1_combineSingles_92 hl (k := 2) rfl (nI_add _ _) (by decide) rfl (fun ls hl => ?_)
              refine lv_goto (tgt := 49) hx hb dX1_combineSingles_95 (by decide) ?_
              exact ih49 (q1 + 1) g89 (by omega) (by omega) (by omega) (fun h0 => by rw [hg89 h0]; exact ⟨cs_l (by omega) (by omega) (hz h0).1, fun e => ((hz h0).2 e).low (by omega) (by omega)⟩) _ _ hP hS ls (lv_sub hl [1, 2, 0] rfl)
      refine lv_iload_n hx hb dX1_combineSingles_41 rfl (lv_at hl 1 rfl) ?_
      refine lv_bipush (v := nI 12) hx hb dX1_combineSingles_42 (by decide) ?_
      refine nv_icmp_ge (tgt := 104) hx hb (by omega) (by omega) dX1_combineSingles_44 (by decide) (fun hc44 => ?_) (fun hc44 => ?_)
      · refine lv_aload_n hx hb dX1_combineSingles_104 rfl (lv_at hl 0 rfl) ?_
        refine kc_v (va_runV (As := []) (rest := []) ⟨hx, hb, hml, hown, hts⟩ (c_X1_findContradiction l G B (mu (mu μ h (.inr (1, [.ref hn, .int (nI b)]))) la (.inl (G.2 0, 158 * k + 158, .inr (.inl g1)))) h hn la k b g1  ((mu_n ne0_2).trans (mu_s _ _ _)) ((mu_n ne1_2).trans ((mu_n ((Ne.symm ne0_1))).trans (hhn))) (mu_s _ _ _) (by omega) (by omega)) (cwV 0 hts gX1_combineSingles_X1_findContradiction rfl rfl rfl (by decide +kernel) ⟨Nat.le_of_ble_eq_true rfl, Nat.le_of_ble_eq_true rfl⟩) ⟨KW.blind, hP.recv hK rfl ((mu_n ne0_2).trans (mu_s _ _ _)), fun U9 hU9 hW9 => ⟨rfl, KW.pre hBs hKK hS hP U9 hU9 hW9⟩⟩ rfl rfl hl.1 rfl (lv_room (Nat.le_of_ble_eq_true rfl)) dX1_combineSingles_105 ⟨Nat.le_of_ble_eq_true rfl, Nat.le_of_ble_eq_true rfl⟩) hS (fun m105 H locs hq9 hP hz9 hS => ?_)
        obtain ⟨b105, rfl, hb105, hg105⟩ := hq9
        have hP : mw G.1 vwCl B (mu (mu μ h (.inr (1, [.ref hn, .int (nI b105)]))) la (.inl (G.2 0, 158 * k + 158, .inr (.inl g1)))) _ := mw_eq ((mu_c _ _ ((Ne.symm ne0_2))).trans (congrArg (fun z => mu z la (.inl (G.2 0, 158 * k + 158, .inr (.inl g1)))) (mu_u _ _ _ _))) hP
        rw [hQ]
        exact W.vret hx hb hr (fun t99 ht99 hW99 => ⟨⟨mu (mu μ h (.inr (1, [.ref hn, .int (nI b105)]))) la (.inl (G.2 0, 158 * k + 158, .inr (.inl g1))), rfl, (⟨_, _, rfl, hb105, fun h0 => ⟨(hz h0).1.1.fc (hg105 h0), (hz h0).2⟩⟩), by show mw _ _ _ _ t99.heap; rw [ht99]; exact hP⟩, hS.F ht99⟩) hS.2.2 dX1_combineSingles_108
      · refine lv_iconst (v := nI 0) hx hb dX1_combineSingles_47 (by decide) ?_
        refine lv_istore_n (lv' := [(2, .int (nI 0)), (0, .ref h), (1, .int (nI p1))]) hx hb dX1_combineSingles_48 rfl hl (by decide) rfl (fun ls hl => ?_)
        exact L49 _ 0 g1 (Nat.lt_succ_self _) (by omega) (by omega) (hz) _ _ hP hS ls (lv_sub hl [1, 2, 0] rfl)
  have L10 : ∀ (N10 : Nat) (p1 : Nat) (g1 : Nat → Int64) (hN10 : 12 - p1 < N10) (hp : p1 ≤ 12) (hz : k = 0 → (Sm f g1 ∧ Al f g1 p1) ∧ ZZ f g1), ∀ (H : Heap) (locs : List Loc), mw G.1 vwCl B (mu (mu μ h (.inr (1, [.ref hn, .int (nI b)]))) la (.inl (G.2 0, 158 * k + 158, .inr (.inl g1)))) H → va_S (fun q => B ≤ q) s.heap H locs → ∀ ls : Array Slot, lv_has ls 3 [(0, .ref h), (1, .int (nI p1))] → W p l e rm_X1_combineSingles s m args below meth c H locs 0 0 Q (F0 m 10 ls []) := by
    intro N10
    induction N10 with
    | zero => intro p1 g1 hN10; exact absurd hN10 (Nat.not_lt_zero _)
    | succ N10 ih10 =>
      intro p1 g1 hN10 hp hz H locs hP hS ls hl
      refine lv_iload_n hx hb dX1_combineSingles_10 rfl (lv_at hl 1 rfl) ?_
      refine lv_bipush (v := nI 12) hx hb dX1_combineSingles_11 (by decide) ?_
      refine nv_icmp_ge (tgt := 39) hx hb (by omega) (by omega) dX1_combineSingles_13 (by decide) (fun hc13 => ?_) (fun hc13 => ?_)
      · refine lv_iconst (v := nI 0) hx hb dX1_combineSingles_39 (by decide) ?_
        refine lv_istore_n (lv' := [(1, .int (nI 0)), (0, .ref h)]) hx hb dX1_combineSingles_40 rfl hl (by decide) rfl (fun ls hl => ?_)
        exact L41 _ 0 g1 (Nat.lt_succ_self _) (by omega) (fun h0 => by obtain ⟨⟨h1, h2⟩, h3⟩ := hz h0; have e : p1 = 12 := (by omega); subst e; exact ⟨⟨(RR.rf f b).al h1, h2⟩, h3⟩) _ _ hP hS ls (lv_sub hl [1, 0] rfl)
      · refine lv_aload_n hx hb dX1_combineSingles_16 rfl (lv_at hl 0 rfl) ?_
        refine mw_get (C := RX1) (T := TX1) (N := 2) hx hb hts in_X1_combineSingles_X1 hown hK hP ((mu_n ne0_2).trans (mu_s _ _ _)) rfl 0 (by decide) (hts (.fieldLink RX1 16 "OctagonDesk$Shape" "numbers" "LOctagonDesk$Numbers;") (by decide +kernel)) (fun _ h9 => h9) rfl dX1_combineSingles_17 ?_
        refine lv_sipush (v := nI 144) hx hb dX1_combineSingles_20 (by decide) ?_
        refine lv_iload_n hx hb dX1_combineSingles_23 rfl (lv_at hl 1 rfl) ?_
        refine nv_iadd hx hb dX1_combineSingles_24 ?_
        refine lv_iload_n hx hb dX1_combineSingles_25 rfl (lv_at hl 1 rfl) ?_
        refine lv_iload_n hx hb dX1_combineSingles_26 rfl (lv_at hl 1 rfl) ?_
        refine kc_i (va_runS (As := [.int (nI p1), .int (nI p1)]) (rest := [.int (nI (144 + p1)), .ref hn]) ⟨hx, hb, hml, hown, hts⟩ (c_X1_cell l G B (mu (mu μ h (.inr (1, [.ref hn, .int (nI b)]))) la (.inl (G.2 0, 158 * k + 158, .inr (.inl g1)))) p1 p1) (va_cwS 2 hts gX1_combineSingles_X1_cell rfl rfl rfl (by decide +kernel) ⟨Nat.le_of_ble_eq_true rfl, Nat.le_of_ble_eq_true rfl⟩) ⟨KW.blind, fun U9 hU9 hW9 => ⟨rfl, KW.pre hBs hKK hS hP U9 hU9 hW9⟩⟩ rfl rfl hl.1 rfl (lv_room (Nat.le_of_ble_eq_true rfl)) dX1_combineSingles_27 ⟨Nat.le_of_ble_eq_true rfl, Nat.le_of_ble_eq_true rfl⟩) hS (fun r27 m27 H locs hq9 hP hz9 hS => ?_)
        obtain ⟨he9, rfl⟩ := hq9
        rw [he9] at hP
        refine kc_v (va_runV (As := [.int (nI (144 + p1)), .int (nI (p1 * 12 + p1))]) (rest := []) ⟨hx, hb, hml, hown, hts⟩ (c_X0_putHalf l G B (mu (mu μ h (.inr (1, [.ref hn, .int (nI b)]))) la (.inl (G.2 0, 158 * k + 158, .inr (.inl g1)))) hn la k g1 (144 + p1) (p1 * 12 + p1) ((mu_n ne1_2).trans ((mu_n ((Ne.symm ne0_1))).trans (hhn))) (mu_s _ _ _) (by omega) (by omega) (by omega)) (cwV 2 hts gX1_combineSingles_X0_putHalf rfl rfl rfl (by decide +kernel) ⟨Nat.le_of_ble_eq_true rfl, Nat.le_of_ble_eq_true rfl⟩) ⟨KW.blind, hP.recv hK rfl ((mu_n ne1_2).trans ((mu_n ((Ne.symm ne0_1))).trans (hhn))), fun U9 hU9 hW9 => ⟨rfl, KW.pre hBs hKK hS hP U9 hU9 hW9⟩⟩ rfl rfl hl.1 rfl (lv_room (Nat.le_of_ble_eq_true rfl)) dX1_combineSingles_30 ⟨Nat.le_of_ble_eq_true rfl, Nat.le_of_ble_eq_true rfl⟩) hS (fun m30 H locs hq9 hP hz9 hS => ?_)
        obtain ⟨g30, rfl, hg30⟩ := hq9
        have hP : mw G.1 vwCl B (mu (mu μ h (.inr (1, [.ref hn, .int (nI b)]))) la (.inl (G.2 0, 158 * k + 158, .inr (.inl g30)))) _ := mw_eq (mu_u _ _ _ _) hP
        refine lv_iinc (v := nI (p1 + 1)) (lv' := [(1, .int (nI (p1 + 1))), (0, .ref h)]) hx hb dX1_combineSingles_33 hl (k := 1) rfl (nI_add _ _) (by decide) rfl (fun ls hl => ?_)
        refine lv_goto (tgt := 10) hx hb dX1_combineSingles_36 (by decide) ?_
        exact ih10 (p1 + 1) g30 (by omega) (by omega) (fun h0 => by rw [hg30 h0]; exact ⟨cs_h (by omega) (hz h0).1, fun e => ((hz h0).2 e).upd (((hz h0).2 e).half (by omega))⟩) _ _ hP hS ls (lv_sub hl [1, 0] rfl)
  have hl := lv_entry ([.ref h]) (n := 3) (Nat.le_of_ble_eq_true rfl)
  have he9 : entryFrame m args 3 = entryFrame m ([.ref h] : List Value).toArray 3 := by rw [hargs]
  rw [he9, lg_entry_eq]
  generalize (lg_sl ([.ref h]) ++ List.replicate (3 - (lg_sl ([.ref h])).length) Slot.unset).toArray = ls at hl ⊢
  have hl : lv_has ls 3 [(0, .ref h)] := hl
  refine lv_aload_n hx hb dX1_combineSingles_0 rfl (lv_at hl 0 rfl) ?_
  refine mw_get (C := RX1) (T := TX1) (N := 2) hx hb hts in_X1_combineSingles_X1 hown hK hP ((mu_n ne0_2).trans (mu_s _ _ _)) rfl 1 (by decide) (hts (.fieldLink RX1 20 "OctagonDesk$Shape" "empty" "Z") (by decide +kernel)) (fun _ h9 => h9) rfl dX1_combineSingles_1 ?_
  refine lv_if_eq (tgt := 8) hx hb dX1_combineSingles_4 (by decide) (fun hc4 => ?_) (fun hc4 => ?_)
  · refine lv_iconst (v := nI 0) hx hb dX1_combineSingles_8 (by decide) ?_
    refine lv_istore_n (lv' := [(1, .int (nI 0)), (0, .ref h)]) hx hb dX1_combineSingles_9 rfl hl (by decide) rfl (fun ls hl => ?_)
    exact L10 _ 0 f (Nat.lt_succ_self _) (by omega) (fun h0 => ⟨⟨fun _ _ => rfl, fun x hx => absurd hx (by omega)⟩, fun e => e⟩) _ _ hP hS ls (lv_sub hl [1, 0] rfl)
  · rw [hQ]
    exact W.vret hx hb hr (fun t99 ht99 hW99 => ⟨⟨mu (mu μ h (.inr (1, [.ref hn, .int (nI b)]))) la (.inl (G.2 0, 158 * k + 158, .inr (.inl f))), rfl, (⟨_, _, rfl, hb1, fun h0 => ⟨RR.rf f b, fun e => e⟩⟩), by show mw _ _ _ _ t99.heap; rw [ht99]; exact hP⟩, hS.F ht99⟩) hS.2.2 dX1_combineSingles_7

abbrev rm_X1_passThrough : Room := { frames := 2, cells := 0, slots := 0, locals := 51 }
set_option maxHeartbeats 4000000 in
set_option maxRecDepth 100000 in
theorem c_X1_passThrough (l : Launch) (G : GG) (B : Nat) (μ : mp) (h hn la k b : Nat) (f : Nat → Int64) (p9 q9 : Nat) (hh : μ h = some (.inr (1, [.ref hn, .int (nI b)]))) (hhn : μ hn = some (.inr (0, [.int (nI 158), .int (nI 157), .ref la, .int (nI (158 * k))]))) (ha : μ la = some (.inl (G.2 0, 158 * k + 158, .inr (.inl f)))) (hk : k ≤ 1022) (hb1 : b ≤ 1) (hp9 : p9 < 12) (hq9a : q9 < 12) : Met l yX1_passThrough wsX1_passThrough rm_X1_passThrough (va_Pc [.ref h, .int (nI p9), .int (nI q9)] (KW G B μ)) (va_Qv (fun μ2 => ∃ (g9 : Nat → Int64) (b9 : Nat), μ2 = mu (mu μ h (.inr (1, [.ref hn, .int (nI b9)]))) la (.inl (G.2 0, 158 * k + 158, .inr (.inl g9))) ∧ b9 ≤ 1 ∧ (k = 0 → RR f g9 b b9 ∧ ZZ f g9)) (BB G B) (fun q => B ≤ q)) 0 0 (fun q => B ≤ q) := by
  refine Met.ofW (cc := cX1_passThrough) (maxL := 5) (ret := none) (by decide) rfl ?_
  intro p e s m args below meth c s₁ B9 hml hv
  obtain ⟨hargs, hBs, hP, hKK⟩ := hv
  have hx := B9.exec
  have hb := B9.bytes
  have hr := B9.returns
  have hts := atoms_spec (ws := wsX1_passThrough) B9.pre
  have hown : s.vm.findClass RX1 = some m.cls := findClass_of_methodNamed B9.named
  have hlocks := B9.notSynchronized
  have hK := hKK.k
  have hS : va_S (fun q => B ≤ q) s.heap s.heap [] := va_S.rf
  obtain ⟨Q, hQ⟩ : ∃ Q, Q = MQ below (va_Qv (fun μ2 => ∃ (g9 : Nat → Int64) (b9 : Nat), μ2 = mu (mu μ h (.inr (1, [.ref hn, .int (nI b9)]))) la (.inl (G.2 0, 158 * k + 158, .inr (.inl g9))) ∧ b9 ≤ 1 ∧ (k = 0 → RR f g9 b b9 ∧ ZZ f g9)) (BB G B) (fun q => B ≤ q)) args s 0 0 (fun q => B ≤ q) := ⟨_, rfl⟩
  rw [← hQ]
  have ne0_1 : h ≠ hn := mp_ne hh hhn (by simp)
  have ne0_2 : h ≠ la := mp_ne hh ha (by simp)
  have ne1_2 : hn ≠ la := mp_ne hhn ha (by simp)
  have in_X1_passThrough_X1 : ∀ w ∈ wsX10, w ∈ wsX1_passThrough := by decide +kernel
  have hP : mw G.1 vwCl B (mu (mu μ h (.inr (1, [.ref hn, .int (nI b)]))) la (.inl (G.2 0, 158 * k + 158, .inr (.inl f)))) s.heap := mw_eq ((congrArg (fun z => mu z la (.inl (G.2 0, 158 * k + 158, .inr (.inl f)))) (mu_i hh)).trans (mu_i ha)).symm hP
  have L54 : ∀ (N54 : Nat) (i1 : Nat) (g1 : Nat → Int64) (hN54 : 12 - i1 < N54) (hi : i1 ≤ 12) (hz : k = 0 → RR f g1 b b ∧ ZZ f g1), ∀ (H : Heap) (locs : List Loc), mw G.1 vwCl B (mu (mu μ h (.inr (1, [.ref hn, .int (nI b)]))) la (.inl (G.2 0, 158 * k + 158, .inr (.inl g1)))) H → va_S (fun q => B ≤ q) s.heap H locs → ∀ ls : Array Slot, lv_has ls 5 [(0, .ref h), (1, .int (nI p9)), (2, .int (nI q9)), (3, .int (nI i1))] → W p l e rm_X1_passThrough s m args below meth c H locs 0 0 Q (F0 m 54 ls []) := by
    intro N54
    induction N54 with
    | zero => intro i1 g1 hN54; exact absurd hN54 (Nat.not_lt_zero _)
    | succ N54 ih54 =>
      intro i1 g1 hN54 hi hz H locs hP hS ls hl
      have L86 : ∀ (N86 : Nat) (j1 : Nat) (g1 : Nat → Int64) (hN86 : 12 - j1 < N86) (hpo : i1 < 12) (hj : j1 ≤ 12) (hz : k = 0 → (RR f g1 b b ∧ SP f g1 p9 q9 i1) ∧ ZZ f g1), ∀ (H : Heap) (locs : List Loc), mw G.1 vwCl B (mu (mu μ h (.inr (1, [.ref hn, .int (nI b)]))) la (.inl (G.2 0, 158 * k + 158, .inr (.inl g1)))) H → va_S (fun q => B ≤ q) s.heap H locs → ∀ ls : Array Slot, lv_has ls 5 [(0, .ref h), (1, .int (nI p9)), (2, .int (nI q9)), (3, .int (nI i1)), (4, .int (nI j1))] → W p l e rm_X1_passThrough s m args below meth c H locs 0 0 Q (F0 m 86 ls []) := by
        intro N86
        induction N86 with
        | zero => intro j1 g1 hN86; exact absurd hN86 (Nat.not_lt_zero _)
        | succ N86 ih86 =>
          intro j1 g1 hN86 hpo hj hz H locs hP hS ls hl
          refine lv_iload hx hb dX1_passThrough_86 (lv_at hl 4 rfl) ?_
          refine lv_bipush (v := nI 12) hx hb dX1_passThrough_88 (by decide) ?_
          refine nv_icmp_ge (tgt := 137) hx hb (by omega) (by omega) dX1_passThrough_90 (by decide) (fun hc90 => ?_) (fun hc90 => ?_)
          · refine lv_iinc (v := nI (i1 + 1)) (lv' := [(3, .int (nI (i1 + 1))), (0, .ref h), (1, .int (nI p9)), (2, .int (nI q9)), (4, .int (nI j1))]) hx hb dX1_passThrough_137 hl (k := 3) rfl (nI_add _ _) (by decide) rfl (fun ls hl => ?_)
            refine lv_goto (tgt := 54) hx hb dX1_passThrough_140 (by decide) ?_
            exact ih54 (i1 + 1) g1 (by omega) (by omega) (fun h0 => ⟨(hz h0).1.1, (hz h0).2⟩) _ _ hP hS ls (lv_sub hl [1, 2, 3, 0] rfl)
          · refine lv_aload_n hx hb dX1_passThrough_93 rfl (lv_at hl 0 rfl) ?_
            refine mw_get (C := RX1) (T := TX1) (N := 2) hx hb hts in_X1_passThrough_X1 hown hK hP ((mu_n ne0_2).trans (mu_s _ _ _)) rfl 0 (by decide) (hts (.fieldLink RX1 16 "OctagonDesk$Shape" "numbers" "LOctagonDesk$Numbers;") (by decide +kernel)) (fun _ h9 => h9) rfl dX1_passThrough_94 ?_
            refine lv_sipush (v := nI 156) hx hb dX1_passThrough_97 (by decide) ?_
            refine kc_i (va_runV (As := [.int (nI 156)]) (rest := []) ⟨hx, hb, hml, hown, hts⟩ (c_X0_isInfinite l G B (mu (mu μ h (.inr (1, [.ref hn, .int (nI b)]))) la (.inl (G.2 0, 158 * k + 158, .inr (.inl g1)))) hn la k g1 156 ((mu_n ne1_2).trans ((mu_n ((Ne.symm ne0_1))).trans (hhn))) (mu_s _ _ _) (by omega) (by omega)) (cwV 1 hts gX1_passThrough_X0_isInfinite rfl rfl rfl (by decide +kernel) ⟨Nat.le_of_ble_eq_true rfl, Nat.le_of_ble_eq_true rfl⟩) ⟨KW.blind, hP.recv hK rfl ((mu_n ne1_2).trans ((mu_n ((Ne.symm ne0_1))).trans (hhn))), fun U9 hU9 hW9 => ⟨rfl, KW.pre hBs hKK hS hP U9 hU9 hW9⟩⟩ rfl rfl hl.1 rfl (lv_room (Nat.le_of_ble_eq_true rfl)) dX1_passThrough_100 ⟨Nat.le_of_ble_eq_true rfl, Nat.le_of_ble_eq_true rfl⟩) hS (fun r100 m100 H locs hq9 hP hz9 hS => ?_)
            obtain ⟨he9, hr100⟩ := hq9
            rw [he9] at hP
            refine lv_if_ne (tgt := 137) hx hb dX1_passThrough_103 (by decide) (fun hc103 => ?_) (fun hc103 => ?_)
            · refine lv_iinc (v := nI (i1 + 1)) (lv' := [(3, .int (nI (i1 + 1))), (0, .ref h), (1, .int (nI p9)), (2, .int (nI q9)), (4, .int (nI j1))]) hx hb dX1_passThrough_137 hl (k := 3) rfl (nI_add _ _) (by decide) rfl (fun ls hl => ?_)
              refine lv_goto (tgt := 54) hx hb dX1_passThrough_140 (by decide) ?_
              exact ih54 (i1 + 1) g1 (by omega) (by omega) (fun h0 => ⟨(hz h0).1.1, (hz h0).2⟩) _ _ hP hS ls (lv_sub hl [1, 2, 3, 0] rfl)
            · refine lv_aload_n hx hb dX1_passThrough_106 rfl (lv_at hl 0 rfl) ?_
              refine mw_get (C := RX1) (T := TX1) (N := 2) hx hb hts in_X1_passThrough_X1 hown hK hP ((mu_n ne0_2).trans (mu_s _ _ _)) rfl 0 (by decide) (hts (.fieldLink RX1 16 "OctagonDesk$Shape" "numbers" "LOctagonDesk$Numbers;") (by decide +kernel)) (fun _ h9 => h9) rfl dX1_passThrough_107 ?_
              refine lv_iload_n hx hb dX1_passThrough_110 rfl (lv_at hl 3 rfl) ?_
              refine lv_iload hx hb dX1_passThrough_111 (lv_at hl 4 rfl) ?_
              refine kc_i (va_runS (As := [.int (nI i1), .int (nI j1)]) (rest := [.ref hn]) ⟨hx, hb, hml, hown, hts⟩ (c_X1_cell l G B (mu (mu μ h (.inr (1, [.ref hn, .int (nI b)]))) la (.inl (G.2 0, 158 * k + 158, .inr (.inl g1)))) i1 j1) (va_cwS 2 hts gX1_passThrough_X1_cell rfl rfl rfl (by decide +kernel) ⟨Nat.le_of_ble_eq_true rfl, Nat.le_of_ble_eq_true rfl⟩) ⟨KW.blind, fun U9 hU9 hW9 => ⟨rfl, KW.pre hBs hKK hS hP U9 hU9 hW9⟩⟩ rfl rfl hl.1 rfl (lv_room (Nat.le_of_ble_eq_true rfl)) dX1_passThrough_113 ⟨Nat.le_of_ble_eq_true rfl, Nat.le_of_ble_eq_true rfl⟩) hS (fun r113 m113 H locs hq9 hP hz9 hS => ?_)
              obtain ⟨he9, rfl⟩ := hq9
              rw [he9] at hP
              refine lv_sipush (v := nI 156) hx hb dX1_passThrough_116 (by decide) ?_
              refine lv_iload_n hx hb dX1_passThrough_119 rfl (lv_at hl 2 rfl) ?_
              refine kc_i (va_runSN (As := [.int (nI q9)]) (rest := [.int (nI 156), .int (nI (i1 * 12 + j1)), .ref hn]) ⟨hx, hb, hml, hown, hts⟩ (c_X3_negation l G B (mu (mu μ h (.inr (1, [.ref hn, .int (nI b)]))) la (.inl (G.2 0, 158 * k + 158, .inr (.inl g1)))) q9 (by omega)) ⟨va_cnB 1 hts gX1_passThrough_X3_negation_n82 rfl rfl rfl hKK.2.1.1 (hts (.initialized RX3) (by decide +kernel)) (by decide +kernel) ⟨Nat.le_of_ble_eq_true rfl, Nat.le_of_ble_eq_true rfl⟩, hts (.static yX3_negation) (by decide +kernel), trivial⟩ ⟨KW.blind, fun U9 hU9 hW9 => ⟨rfl, KW.pre hBs hKK hS hP U9 hU9 hW9⟩⟩ rfl rfl hl.1 rfl (lv_room (Nat.le_of_ble_eq_true rfl)) dX1_passThrough_120 ⟨Nat.le_of_ble_eq_true rfl, Nat.le_of_ble_eq_true rfl⟩) hS (fun r120 m120 H locs hq9 hP hz9 hS => ?_)
              obtain ⟨he9, rfl⟩ := hq9
              rw [he9] at hP
              have hne120 := ne_lt (p := q9) (by omega)
              refine lv_iload hx hb dX1_passThrough_123 (lv_at hl 4 rfl) ?_
              refine kc_i (va_runS (As := [.int (nI (ne q9)), .int (nI j1)]) (rest := [.int (nI 156), .int (nI (i1 * 12 + j1)), .ref hn]) ⟨hx, hb, hml, hown, hts⟩ (c_X1_cell l G B (mu (mu μ h (.inr (1, [.ref hn, .int (nI b)]))) la (.inl (G.2 0, 158 * k + 158, .inr (.inl g1)))) (ne q9) j1) (va_cwS 2 hts gX1_passThrough_X1_cell rfl rfl rfl (by decide +kernel) ⟨Nat.le_of_ble_eq_true rfl, Nat.le_of_ble_eq_true rfl⟩) ⟨KW.blind, fun U9 hU9 hW9 => ⟨rfl, KW.pre hBs hKK hS hP U9 hU9 hW9⟩⟩ rfl rfl hl.1 rfl (lv_room (Nat.le_of_ble_eq_true rfl)) dX1_passThrough_125 ⟨Nat.le_of_ble_eq_true rfl, Nat.le_of_ble_eq_true rfl⟩) hS (fun r125 m125 H locs hq9 hP hz9 hS => ?_)
              obtain ⟨he9, rfl⟩ := hq9
              rw [he9] at hP
              refine kc_v (va_runV (As := [.int (nI (i1 * 12 + j1)), .int (nI 156), .int (nI ((ne q9) * 12 + j1))]) (rest := []) ⟨hx, hb, hml, hown, hts⟩ (c_X0_lower l G B (mu (mu μ h (.inr (1, [.ref hn, .int (nI b)]))) la (.inl (G.2 0, 158 * k + 158, .inr (.inl g1)))) hn la k g1 (i1 * 12 + j1) 156 ((ne q9) * 12 + j1) ((mu_n ne1_2).trans ((mu_n ((Ne.symm ne0_1))).trans (hhn))) (mu_s _ _ _) (by omega) (by omega) (by omega) (by omega)) (cwV 3 hts gX1_passThrough_X0_lower rfl rfl rfl (by decide +kernel) ⟨Nat.le_of_ble_eq_true rfl, Nat.le_of_ble_eq_true rfl⟩) ⟨KW.blind, hP.recv hK rfl ((mu_n ne1_2).trans ((mu_n ((Ne.symm ne0_1))).trans (hhn))), fun U9 hU9 hW9 => ⟨rfl, KW.pre hBs hKK hS hP U9 hU9 hW9⟩⟩ rfl rfl hl.1 rfl (lv_room (Nat.le_of_ble_eq_true rfl)) dX1_passThrough_128 ⟨Nat.le_of_ble_eq_true rfl, Nat.le_of_ble_eq_true rfl⟩) hS (fun m128 H locs hq9 hP hz9 hS => ?_)
              obtain ⟨g128, rfl, hg128⟩ := hq9
              have hP : mw G.1 vwCl B (mu (mu μ h (.inr (1, [.ref hn, .int (nI b)]))) la (.inl (G.2 0, 158 * k + 158, .inr (.inl g128)))) _ := mw_eq (mu_u _ _ _ _) hP
              refine lv_iinc (v := nI (j1 + 1)) (lv' := [(4, .int (nI (j1 + 1))), (0, .ref h), (1, .int (nI p9)), (2, .int (nI q9)), (3, .int (nI i1))]) hx hb dX1_passThrough_131 hl (k := 4) rfl (nI_add _ _) (by decide) rfl (fun ls hl => ?_)
              refine lv_goto (tgt := 86) hx hb dX1_passThrough_134 (by decide) ?_
              exact ih86 (j1 + 1) g128 (by omega) (by omega) (by omega) (fun h0 => by rw [hg128 h0]; exact ⟨pt_1 (by omega) (by omega) (by omega) (by omega) (hz h0).1, fun e => ((hz h0).2 e).low (by omega) (by omega)⟩) _ _ hP hS ls (lv_sub hl [1, 2, 3, 4, 0] rfl)
      refine lv_iload_n hx hb dX1_passThrough_54 rfl (lv_at hl 3 rfl) ?_
      refine lv_bipush (v := nI 12) hx hb dX1_passThrough_55 (by decide) ?_
      refine nv_icmp_ge (tgt := 143) hx hb (by omega) (by omega) dX1_passThrough_57 (by decide) (fun hc57 => ?_) (fun hc57 => ?_)
      · rw [hQ]
        exact W.vret hx hb hr (fun t99 ht99 hW99 => ⟨⟨mu (mu μ h (.inr (1, [.ref hn, .int (nI b)]))) la (.inl (G.2 0, 158 * k + 158, .inr (.inl g1))), rfl, (⟨_, _, rfl, hb1, hz⟩), by show mw _ _ _ _ t99.heap; rw [ht99]; exact hP⟩, hS.F ht99⟩) hS.2.2 dX1_passThrough_143
      · refine lv_aload_n hx hb dX1_passThrough_60 rfl (lv_at hl 0 rfl) ?_
        refine mw_get (C := RX1) (T := TX1) (N := 2) hx hb hts in_X1_passThrough_X1 hown hK hP ((mu_n ne0_2).trans (mu_s _ _ _)) rfl 0 (by decide) (hts (.fieldLink RX1 16 "OctagonDesk$Shape" "numbers" "LOctagonDesk$Numbers;") (by decide +kernel)) (fun _ h9 => h9) rfl dX1_passThrough_61 ?_
        refine lv_sipush (v := nI 156) hx hb dX1_passThrough_64 (by decide) ?_
        refine lv_iload_n hx hb dX1_passThrough_67 rfl (lv_at hl 3 rfl) ?_
        refine lv_iload_n hx hb dX1_passThrough_68 rfl (lv_at hl 1 rfl) ?_
        refine kc_i (va_runSN (As := [.int (nI p9)]) (rest := [.int (nI i1), .int (nI 156), .ref hn]) ⟨hx, hb, hml, hown, hts⟩ (c_X3_negation l G B (mu (mu μ h (.inr (1, [.ref hn, .int (nI b)]))) la (.inl (G.2 0, 158 * k + 158, .inr (.inl g1)))) p9 (by omega)) ⟨va_cnB 1 hts gX1_passThrough_X3_negation_n82 rfl rfl rfl hKK.2.1.1 (hts (.initialized RX3) (by decide +kernel)) (by decide +kernel) ⟨Nat.le_of_ble_eq_true rfl, Nat.le_of_ble_eq_true rfl⟩, hts (.static yX3_negation) (by decide +kernel), trivial⟩ ⟨KW.blind, fun U9 hU9 hW9 => ⟨rfl, KW.pre hBs hKK hS hP U9 hU9 hW9⟩⟩ rfl rfl hl.1 rfl (lv_room (Nat.le_of_ble_eq_true rfl)) dX1_passThrough_69 ⟨Nat.le_of_ble_eq_true rfl, Nat.le_of_ble_eq_true rfl⟩) hS (fun r69 m69 H locs hq9 hP hz9 hS => ?_)
        obtain ⟨he9, rfl⟩ := hq9
        rw [he9] at hP
        have hne69 := ne_lt (p := p9) (by omega)
        refine kc_i (va_runS (As := [.int (nI i1), .int (nI (ne p9))]) (rest := [.int (nI 156), .ref hn]) ⟨hx, hb, hml, hown, hts⟩ (c_X1_cell l G B (mu (mu μ h (.inr (1, [.ref hn, .int (nI b)]))) la (.inl (G.2 0, 158 * k + 158, .inr (.inl g1)))) i1 (ne p9)) (va_cwS 2 hts gX1_passThrough_X1_cell rfl rfl rfl (by decide +kernel) ⟨Nat.le_of_ble_eq_true rfl, Nat.le_of_ble_eq_true rfl⟩) ⟨KW.blind, fun U9 hU9 hW9 => ⟨rfl, KW.pre hBs hKK hS hP U9 hU9 hW9⟩⟩ rfl rfl hl.1 rfl (lv_room (Nat.le_of_ble_eq_true rfl)) dX1_passThrough_72 ⟨Nat.le_of_ble_eq_true rfl, Nat.le_of_ble_eq_true rfl⟩) hS (fun r72 m72 H locs hq9 hP hz9 hS => ?_)
        obtain ⟨he9, rfl⟩ := hq9
        rw [he9] at hP
        refine lv_iload_n hx hb dX1_passThrough_75 rfl (lv_at hl 1 rfl) ?_
        refine lv_iload_n hx hb dX1_passThrough_76 rfl (lv_at hl 2 rfl) ?_
        refine kc_i (va_runS (As := [.int (nI p9), .int (nI q9)]) (rest := [.int (nI (i1 * 12 + (ne p9))), .int (nI 156), .ref hn]) ⟨hx, hb, hml, hown, hts⟩ (c_X1_cell l G B (mu (mu μ h (.inr (1, [.ref hn, .int (nI b)]))) la (.inl (G.2 0, 158 * k + 158, .inr (.inl g1)))) p9 q9) (va_cwS 2 hts gX1_passThrough_X1_cell rfl rfl rfl (by decide +kernel) ⟨Nat.le_of_ble_eq_true rfl, Nat.le_of_ble_eq_true rfl⟩) ⟨KW.blind, fun U9 hU9 hW9 => ⟨rfl, KW.pre hBs hKK hS hP U9 hU9 hW9⟩⟩ rfl rfl hl.1 rfl (lv_room (Nat.le_of_ble_eq_true rfl)) dX1_passThrough_77 ⟨Nat.le_of_ble_eq_true rfl, Nat.le_of_ble_eq_true rfl⟩) hS (fun r77 m77 H locs hq9 hP hz9 hS => ?_)
        obtain ⟨he9, rfl⟩ := hq9
        rw [he9] at hP
        refine kc_v (va_runV (As := [.int (nI 156), .int (nI (i1 * 12 + (ne p9))), .int (nI (p9 * 12 + q9))]) (rest := []) ⟨hx, hb, hml, hown, hts⟩ (c_X0_putSum l G B (mu (mu μ h (.inr (1, [.ref hn, .int (nI b)]))) la (.inl (G.2 0, 158 * k + 158, .inr (.inl g1)))) hn la k g1 156 (i1 * 12 + (ne p9)) (p9 * 12 + q9) ((mu_n ne1_2).trans ((mu_n ((Ne.symm ne0_1))).trans (hhn))) (mu_s _ _ _) (by omega) (by omega) (by omega) (by omega)) (cwV 3 hts gX1_passThrough_X0_putSum rfl rfl rfl (by decide +kernel) ⟨Nat.le_of_ble_eq_true rfl, Nat.le_of_ble_eq_true rfl⟩) ⟨KW.blind, hP.recv hK rfl ((mu_n ne1_2).trans ((mu_n ((Ne.symm ne0_1))).trans (hhn))), fun U9 hU9 hW9 => ⟨rfl, KW.pre hBs hKK hS hP U9 hU9 hW9⟩⟩ rfl rfl hl.1 rfl (lv_room (Nat.le_of_ble_eq_true rfl)) dX1_passThrough_80 ⟨Nat.le_of_ble_eq_true rfl, Nat.le_of_ble_eq_true rfl⟩) hS (fun m80 H locs hq9 hP hz9 hS => ?_)
        obtain ⟨g80, rfl, hg80⟩ := hq9
        have hP : mw G.1 vwCl B (mu (mu μ h (.inr (1, [.ref hn, .int (nI b)]))) la (.inl (G.2 0, 158 * k + 158, .inr (.inl g80)))) _ := mw_eq (mu_u _ _ _ _) hP
        refine lv_iconst (v := nI 0) hx hb dX1_passThrough_83 (by decide) ?_
        refine lv_istore (lv' := [(4, .int (nI 0)), (0, .ref h), (1, .int (nI p9)), (2, .int (nI q9)), (3, .int (nI i1))]) hx hb dX1_passThrough_84 hl (by decide) rfl (fun ls hl => ?_)
        exact L86 _ 0 g80 (Nat.lt_succ_self _) (by omega) (by omega) (fun h0 => by rw [hg80 h0]; exact ⟨pt_0 (by omega) (by omega) (by omega) (hz h0).1, fun e => ((hz h0).2 e).upd (((hz h0).2 e).sum (by omega) (by omega))⟩) _ _ hP hS ls (lv_sub hl [1, 2, 3, 4, 0] rfl)
  have hl := lv_entry ([.ref h, .int (nI p9), .int (nI q9)]) (n := 5) (Nat.le_of_ble_eq_true rfl)
  have he9 : entryFrame m args 5 = entryFrame m ([.ref h, .int (nI p9), .int (nI q9)] : List Value).toArray 5 := by rw [hargs]
  rw [he9, lg_entry_eq]
  generalize (lg_sl ([.ref h, .int (nI p9), .int (nI q9)]) ++ List.replicate (5 - (lg_sl ([.ref h, .int (nI p9), .int (nI q9)])).length) Slot.unset).toArray = ls at hl ⊢
  have hl : lv_has ls 5 [(0, .ref h), (1, .int (nI p9)), (2, .int (nI q9))] := hl
  refine lv_aload_n hx hb dX1_passThrough_0 rfl (lv_at hl 0 rfl) ?_
  refine mw_get (C := RX1) (T := TX1) (N := 2) hx hb hts in_X1_passThrough_X1 hown hK hP ((mu_n ne0_2).trans (mu_s _ _ _)) rfl 0 (by decide) (hts (.fieldLink RX1 16 "OctagonDesk$Shape" "numbers" "LOctagonDesk$Numbers;") (by decide +kernel)) (fun _ h9 => h9) rfl dX1_passThrough_1 ?_
  refine lv_sipush (v := nI 156) hx hb dX1_passThrough_4 (by decide) ?_
  refine lv_iload_n hx hb dX1_passThrough_7 rfl (lv_at hl 1 rfl) ?_
  refine lv_iload_n hx hb dX1_passThrough_8 rfl (lv_at hl 2 rfl) ?_
  refine kc_i (va_runS (As := [.int (nI p9), .int (nI q9)]) (rest := [.int (nI 156), .ref hn]) ⟨hx, hb, hml, hown, hts⟩ (c_X1_cell l G B (mu (mu μ h (.inr (1, [.ref hn, .int (nI b)]))) la (.inl (G.2 0, 158 * k + 158, .inr (.inl f)))) p9 q9) (va_cwS 2 hts gX1_passThrough_X1_cell rfl rfl rfl (by decide +kernel) ⟨Nat.le_of_ble_eq_true rfl, Nat.le_of_ble_eq_true rfl⟩) ⟨KW.blind, fun U9 hU9 hW9 => ⟨rfl, KW.pre hBs hKK hS hP U9 hU9 hW9⟩⟩ rfl rfl hl.1 rfl (lv_room (Nat.le_of_ble_eq_true rfl)) dX1_passThrough_9 ⟨Nat.le_of_ble_eq_true rfl, Nat.le_of_ble_eq_true rfl⟩) hS (fun r9 m9 H locs hq9 hP hz9 hS => ?_)
  obtain ⟨he9, rfl⟩ := hq9
  rw [he9] at hP
  refine lv_iload_n hx hb dX1_passThrough_12 rfl (lv_at hl 2 rfl) ?_
  refine kc_i (va_runSN (As := [.int (nI q9)]) (rest := [.int (nI (p9 * 12 + q9)), .int (nI 156), .ref hn]) ⟨hx, hb, hml, hown, hts⟩ (c_X3_negation l G B (mu (mu μ h (.inr (1, [.ref hn, .int (nI b)]))) la (.inl (G.2 0, 158 * k + 158, .inr (.inl f)))) q9 (by omega)) ⟨va_cnB 1 hts gX1_passThrough_X3_negation_n82 rfl rfl rfl hKK.2.1.1 (hts (.initialized RX3) (by decide +kernel)) (by decide +kernel) ⟨Nat.le_of_ble_eq_true rfl, Nat.le_of_ble_eq_true rfl⟩, hts (.static yX3_negation) (by decide +kernel), trivial⟩ ⟨KW.blind, fun U9 hU9 hW9 => ⟨rfl, KW.pre hBs hKK hS hP U9 hU9 hW9⟩⟩ rfl rfl hl.1 rfl (lv_room (Nat.le_of_ble_eq_true rfl)) dX1_passThrough_13 ⟨Nat.le_of_ble_eq_true rfl, Nat.le_of_ble_eq_true rfl⟩) hS (fun r13 m13 H locs hq9 hP hz9 hS => ?_)
  obtain ⟨he9, rfl⟩ := hq9
  rw [he9] at hP
  have hne13 := ne_lt (p := q9) (by omega)
  refine lv_iload_n hx hb dX1_passThrough_16 rfl (lv_at hl 1 rfl) ?_
  refine kc_i (va_runSN (As := [.int (nI p9)]) (rest := [.int (nI (ne q9)), .int (nI (p9 * 12 + q9)), .int (nI 156), .ref hn]) ⟨hx, hb, hml, hown, hts⟩ (c_X3_negation l G B (mu (mu μ h (.inr (1, [.ref hn, .int (nI b)]))) la (.inl (G.2 0, 158 * k + 158, .inr (.inl f)))) p9 (by omega)) ⟨va_cnB 1 hts gX1_passThrough_X3_negation_n82 rfl rfl rfl hKK.2.1.1 (hts (.initialized RX3) (by decide +kernel)) (by decide +kernel) ⟨Nat.le_of_ble_eq_true rfl, Nat.le_of_ble_eq_true rfl⟩, hts (.static yX3_negation) (by decide +kernel), trivial⟩ ⟨KW.blind, fun U9 hU9 hW9 => ⟨rfl, KW.pre hBs hKK hS hP U9 hU9 hW9⟩⟩ rfl rfl hl.1 rfl (lv_room (Nat.le_of_ble_eq_true rfl)) dX1_passThrough_17 ⟨Nat.le_of_ble_eq_true rfl, Nat.le_of_ble_eq_true rfl⟩) hS (fun r17 m17 H locs hq9 hP hz9 hS => ?_)
  obtain ⟨he9, rfl⟩ := hq9
  rw [he9] at hP
  have hne17 := ne_lt (p := p9) (by omega)
  refine kc_i (va_runS (As := [.int (nI (ne q9)), .int (nI (ne p9))]) (rest := [.int (nI (p9 * 12 + q9)), .int (nI 156), .ref hn]) ⟨hx, hb, hml, hown, hts⟩ (c_X1_cell l G B (mu (mu μ h (.inr (1, [.ref hn, .int (nI b)]))) la (.inl (G.2 0, 158 * k + 158, .inr (.inl f)))) (ne q9) (ne p9)) (va_cwS 2 hts gX1_passThrough_X1_cell rfl rfl rfl (by decide +kernel) ⟨Nat.le_of_ble_eq_true rfl, Nat.le_of_ble_eq_true rfl⟩) ⟨KW.blind, fun U9 hU9 hW9 => ⟨rfl, KW.pre hBs hKK hS hP U9 hU9 hW9⟩⟩ rfl rfl hl.1 rfl (lv_room (Nat.le_of_ble_eq_true rfl)) dX1_passThrough_20 ⟨Nat.le_of_ble_eq_true rfl, Nat.le_of_ble_eq_true rfl⟩) hS (fun r20 m20 H locs hq9 hP hz9 hS => ?_)
  obtain ⟨he9, rfl⟩ := hq9
  rw [he9] at hP
  refine kc_v (va_runV (As := [.int (nI 156), .int (nI (p9 * 12 + q9)), .int (nI ((ne q9) * 12 + (ne p9)))]) (rest := []) ⟨hx, hb, hml, hown, hts⟩ (c_X0_putSum l G B (mu (mu μ h (.inr (1, [.ref hn, .int (nI b)]))) la (.inl (G.2 0, 158 * k + 158, .inr (.inl f)))) hn la k f 156 (p9 * 12 + q9) ((ne q9) * 12 + (ne p9)) ((mu_n ne1_2).trans ((mu_n ((Ne.symm ne0_1))).trans (hhn))) (mu_s _ _ _) (by omega) (by omega) (by omega) (by omega)) (cwV 3 hts gX1_passThrough_X0_putSum rfl rfl rfl (by decide +kernel) ⟨Nat.le_of_ble_eq_true rfl, Nat.le_of_ble_eq_true rfl⟩) ⟨KW.blind, hP.recv hK rfl ((mu_n ne1_2).trans ((mu_n ((Ne.symm ne0_1))).trans (hhn))), fun U9 hU9 hW9 => ⟨rfl, KW.pre hBs hKK hS hP U9 hU9 hW9⟩⟩ rfl rfl hl.1 rfl (lv_room (Nat.le_of_ble_eq_true rfl)) dX1_passThrough_23 ⟨Nat.le_of_ble_eq_true rfl, Nat.le_of_ble_eq_true rfl⟩) hS (fun m23 H locs hq9 hP hz9 hS => ?_)
  obtain ⟨g23, rfl, hg23⟩ := hq9
  have hP : mw G.1 vwCl B (mu (mu μ h (.inr (1, [.ref hn, .int (nI b)]))) la (.inl (G.2 0, 158 * k + 158, .inr (.inl g23)))) _ := mw_eq (mu_u _ _ _ _) hP
  refine lv_aload_n hx hb dX1_passThrough_26 rfl (lv_at hl 0 rfl) ?_
  refine mw_get (C := RX1) (T := TX1) (N := 2) hx hb hts in_X1_passThrough_X1 hown hK hP ((mu_n ne0_2).trans (mu_s _ _ _)) rfl 1 (by decide) (hts (.fieldLink RX1 20 "OctagonDesk$Shape" "empty" "Z") (by decide +kernel)) (fun _ h9 => h9) rfl dX1_passThrough_27 ?_
  refine lv_if_ne (tgt := 46) hx hb dX1_passThrough_30 (by decide) (fun hc30 => ?_) (fun hc30 => ?_)
  · refine lv_aload_n hx hb dX1_passThrough_46 rfl (lv_at hl 0 rfl) ?_
    refine lv_iconst (v := nI 1) hx hb dX1_passThrough_47 (by decide) ?_
    refine mw_put (ty := .boolean) (v := .int (nI 1)) (C := RX1) (T := TX1) (N := 2) hx hb hts in_X1_passThrough_X1 tyX1 tyX1_ok nmX1 hown hK hP hS ((mu_n ne0_2).trans (mu_s _ _ _)) rfl 1 (by decide) (hts (.fieldLink RX1 20 "OctagonDesk$Shape" "empty" "Z") (by decide +kernel)) (fun _ h9 => h9) rfl (by decide +kernel) (by first | rfl | decide) (by first | rfl | decide) (Nat.le_of_ble_eq_true rfl) dX1_passThrough_48 (fun H locs hP hS => ?_)
    have hP : mw G.1 vwCl B (mu (mu μ h (.inr (1, [.ref hn, .int (nI 1)]))) la (.inl (G.2 0, 158 * k + 158, .inr (.inl g23)))) _ := mw_eq ((mu_c _ _ ((Ne.symm ne0_2))).trans (congrArg (fun z => mu z la (.inl (G.2 0, 158 * k + 158, .inr (.inl g23)))) (mu_u _ _ _ _))) hP
    rw [hQ]
    exact W.vret hx hb hr (fun t99 ht99 hW99 => ⟨⟨mu (mu μ h (.inr (1, [.ref hn, .int (nI 1)]))) la (.inl (G.2 0, 158 * k + 158, .inr (.inl g23))), rfl, (⟨_, _, rfl, by omega, fun h0 => ⟨by first | exact pt_n (by omega) (by omega) h0 (hg23 h0) hr40 hc43 | (have e : b = 1 := nb_1 hb1 hc30; subst e; rw [hg23 h0]; exact (RR.rf f 1).al ((Sm.rf f).upd (by omega) _)), fun e => by rw [hg23 h0]; exact e.upd (e.sum (by omega) (by omega))⟩⟩), by show mw _ _ _ _ t99.heap; rw [ht99]; exact hP⟩, hS.F ht99⟩) hS.2.2 dX1_passThrough_51
  · refine lv_aload_n hx hb dX1_passThrough_33 rfl (lv_at hl 0 rfl) ?_
    refine mw_get (C := RX1) (T := TX1) (N := 2) hx hb hts in_X1_passThrough_X1 hown hK hP ((mu_n ne0_2).trans (mu_s _ _ _)) rfl 0 (by decide) (hts (.fieldLink RX1 16 "OctagonDesk$Shape" "numbers" "LOctagonDesk$Numbers;") (by decide +kernel)) (fun _ h9 => h9) rfl dX1_passThrough_34 ?_
    refine lv_sipush (v := nI 156) hx hb dX1_passThrough_37 (by decide) ?_
    refine kc_i (va_runV (As := [.int (nI 156)]) (rest := []) ⟨hx, hb, hml, hown, hts⟩ (c_X0_isNegative l G B (mu (mu μ h (.inr (1, [.ref hn, .int (nI b)]))) la (.inl (G.2 0, 158 * k + 158, .inr (.inl g23)))) hn la k g23 156 ((mu_n ne1_2).trans ((mu_n ((Ne.symm ne0_1))).trans (hhn))) (mu_s _ _ _) (by omega) (by omega)) (cwV 1 hts gX1_passThrough_X0_isNegative rfl rfl rfl (by decide +kernel) ⟨Nat.le_of_ble_eq_true rfl, Nat.le_of_ble_eq_true rfl⟩) ⟨KW.blind, hP.recv hK rfl ((mu_n ne1_2).trans ((mu_n ((Ne.symm ne0_1))).trans (hhn))), fun U9 hU9 hW9 => ⟨rfl, KW.pre hBs hKK hS hP U9 hU9 hW9⟩⟩ rfl rfl hl.1 rfl (lv_room (Nat.le_of_ble_eq_true rfl)) dX1_passThrough_40 ⟨Nat.le_of_ble_eq_true rfl, Nat.le_of_ble_eq_true rfl⟩) hS (fun r40 m40 H locs hq9 hP hz9 hS => ?_)
    obtain ⟨he9, hr40⟩ := hq9
    rw [he9] at hP
    refine lv_if_eq (tgt := 52) hx hb dX1_passThrough_43 (by decide) (fun hc43 => ?_) (fun hc43 => ?_)
    · refine lv_iconst (v := nI 0) hx hb dX1_passThrough_52 (by decide) ?_
      refine lv_istore_n (lv' := [(3, .int (nI 0)), (0, .ref h), (1, .int (nI p9)), (2, .int (nI q9))]) hx hb dX1_passThrough_53 rfl hl (by decide) rfl (fun ls hl => ?_)
      exact L54 _ 0 g23 (Nat.lt_succ_self _) (by omega) (fun h0 => by rw [hg23 h0]; exact ⟨(RR.rf f b).al ((Sm.rf f).upd (by omega) _), fun e => e.upd (e.sum (by omega) (by omega))⟩) _ _ hP hS ls (lv_sub hl [1, 2, 3, 0] rfl)
    · refine lv_aload_n hx hb dX1_passThrough_46 rfl (lv_at hl 0 rfl) ?_
      refine lv_iconst (v := nI 1) hx hb dX1_passThrough_47 (by decide) ?_
      refine mw_put (ty := .boolean) (v := .int (nI 1)) (C := RX1) (T := TX1) (N := 2) hx hb hts in_X1_passThrough_X1 tyX1 tyX1_ok nmX1 hown hK hP hS ((mu_n ne0_2).trans (mu_s _ _ _)) rfl 1 (by decide) (hts (.fieldLink RX1 20 "OctagonDesk$Shape" "empty" "Z") (by decide +kernel)) (fun _ h9 => h9) rfl (by decide +kernel) (by first | rfl | decide) (by first | rfl | decide) (Nat.le_of_ble_eq_true rfl) dX1_passThrough_48 (fun H locs hP hS => ?_)
      have hP : mw G.1 vwCl B (mu (mu μ h (.inr (1, [.ref hn, .int (nI 1)]))) la (.inl (G.2 0, 158 * k + 158, .inr (.inl g23)))) _ := mw_eq ((mu_c _ _ ((Ne.symm ne0_2))).trans (congrArg (fun z => mu z la (.inl (G.2 0, 158 * k + 158, .inr (.inl g23)))) (mu_u _ _ _ _))) hP
      rw [hQ]
      exact W.vret hx hb hr (fun t99 ht99 hW99 => ⟨⟨mu (mu μ h (.inr (1, [.ref hn, .int (nI 1)]))) la (.inl (G.2 0, 158 * k + 158, .inr (.inl g23))), rfl, (⟨_, _, rfl, by omega, fun h0 => ⟨by first | exact pt_n (by omega) (by omega) h0 (hg23 h0) hr40 hc43 | (have e : b = 1 := nb_1 hb1 hc30; subst e; rw [hg23 h0]; exact (RR.rf f 1).al ((Sm.rf f).upd (by omega) _)), fun e => by rw [hg23 h0]; exact e.upd (e.sum (by omega) (by omega))⟩⟩), by show mw _ _ _ _ t99.heap; rw [ht99]; exact hP⟩, hS.F ht99⟩) hS.2.2 dX1_passThrough_51

abbrev rm_X1_holdToSpare : Room := { frames := 3, cells := 0, slots := 0, locals := 75 }
set_option maxHeartbeats 4000000 in
set_option maxRecDepth 100000 in
theorem c_X1_holdToSpare (l : Launch) (G : GG) (B : Nat) (μ : mp) (h hn la k b : Nat) (f : Nat → Int64) (p9 q9 : Nat) (hh : μ h = some (.inr (1, [.ref hn, .int (nI b)]))) (hhn : μ hn = some (.inr (0, [.int (nI 158), .int (nI 157), .ref la, .int (nI (158 * k))]))) (ha : μ la = some (.inl (G.2 0, 158 * k + 158, .inr (.inl f)))) (hk : k ≤ 1022) (hb1 : b ≤ 1) (hp9 : p9 < 12) (hq9a : q9 < 12) : Met l yX1_holdToSpare wsX1_holdToSpare rm_X1_holdToSpare (va_Pc [.ref h, .int (nI p9), .int (nI q9)] (KW G B μ)) (va_Qv (fun μ2 => ∃ (g9 : Nat → Int64) (b9 : Nat), μ2 = mu (mu μ h (.inr (1, [.ref hn, .int (nI b9)]))) la (.inl (G.2 0, 158 * k + 158, .inr (.inl g9))) ∧ b9 ≤ 1 ∧ (k = 0 → RR (hs f p9 q9 b) g9 b b9 ∧ ZZ f g9)) (BB G B) (fun q => B ≤ q)) 0 0 (fun q => B ≤ q) := by
  refine Met.ofW (cc := cX1_holdToSpare) (maxL := 3) (ret := none) (by decide) rfl ?_
  intro p e s m args below meth c s₁ B9 hml hv
  obtain ⟨hargs, hBs, hP, hKK⟩ := hv
  have hx := B9.exec
  have hb := B9.bytes
  have hr := B9.returns
  have hts := atoms_spec (ws := wsX1_holdToSpare) B9.pre
  have hown : s.vm.findClass RX1 = some m.cls := findClass_of_methodNamed B9.named
  have hlocks := B9.notSynchronized
  have hK := hKK.k
  have hS : va_S (fun q => B ≤ q) s.heap s.heap [] := va_S.rf
  obtain ⟨Q, hQ⟩ : ∃ Q, Q = MQ below (va_Qv (fun μ2 => ∃ (g9 : Nat → Int64) (b9 : Nat), μ2 = mu (mu μ h (.inr (1, [.ref hn, .int (nI b9)]))) la (.inl (G.2 0, 158 * k + 158, .inr (.inl g9))) ∧ b9 ≤ 1 ∧ (k = 0 → RR (hs f p9 q9 b) g9 b b9 ∧ ZZ f g9)) (BB G B) (fun q => B ≤ q)) args s 0 0 (fun q => B ≤ q) := ⟨_, rfl⟩
  rw [← hQ]
  have ne0_1 : h ≠ hn := mp_ne hh hhn (by simp)
  have ne0_2 : h ≠ la := mp_ne hh ha (by simp)
  have ne1_2 : hn ≠ la := mp_ne hhn ha (by simp)
  have in_X1_holdToSpare_X1 : ∀ w ∈ wsX10, w ∈ wsX1_holdToSpare := by decide +kernel
  have hP : mw G.1 vwCl B (mu (mu μ h (.inr (1, [.ref hn, .int (nI b)]))) la (.inl (G.2 0, 158 * k + 158, .inr (.inl f)))) s.heap := mw_eq ((congrArg (fun z => mu z la (.inl (G.2 0, 158 * k + 158, .inr (.inl f)))) (mu_i hh)).trans (mu_i ha)).symm hP
  have hl := lv_entry ([.ref h, .int (nI p9), .int (nI q9)]) (n := 3) (Nat.le_of_ble_eq_true rfl)
  have he9 : entryFrame m args 3 = entryFrame m ([.ref h, .int (nI p9), .int (nI q9)] : List Value).toArray 3 := by rw [hargs]
  rw [he9, lg_entry_eq]
  generalize (lg_sl ([.ref h, .int (nI p9), .int (nI q9)]) ++ List.replicate (3 - (lg_sl ([.ref h, .int (nI p9), .int (nI q9)])).length) Slot.unset).toArray = ls at hl ⊢
  have hl : lv_has ls 3 [(0, .ref h), (1, .int (nI p9)), (2, .int (nI q9))] := hl
  refine lv_aload_n hx hb dX1_holdToSpare_0 rfl (lv_at hl 0 rfl) ?_
  refine mw_get (C := RX1) (T := TX1) (N := 2) hx hb hts in_X1_holdToSpare_X1 hown hK hP ((mu_n ne0_2).trans (mu_s _ _ _)) rfl 1 (by decide) (hts (.fieldLink RX1 20 "OctagonDesk$Shape" "empty" "Z") (by decide +kernel)) (fun _ h9 => h9) rfl dX1_holdToSpare_1 ?_
  refine lv_if_ne (tgt := 29) hx hb dX1_holdToSpare_4 (by decide) (fun hc4 => ?_) (fun hc4 => ?_)
  · rw [hQ]
    exact W.vret hx hb hr (fun t99 ht99 hW99 => ⟨⟨mu (mu μ h (.inr (1, [.ref hn, .int (nI b)]))) la (.inl (G.2 0, 158 * k + 158, .inr (.inl f))), rfl, (⟨_, _, rfl, hb1, fun h0 => by refine ⟨?_, fun e => e⟩; rw [hs, if_neg (by rintro ⟨e1, e2⟩; first | exact absurd (nb_1 hb1 hc4) (by omega) | (have e3 := hr23 h0; rw [if_pos e2] at e3; rw [e3] at hc26; exact absurd hc26 (by decide)))]; exact RR.rf f b⟩), by show mw _ _ _ _ t99.heap; rw [ht99]; exact hP⟩, hS.F ht99⟩) hS.2.2 dX1_holdToSpare_29
  · refine lv_aload_n hx hb dX1_holdToSpare_7 rfl (lv_at hl 0 rfl) ?_
    refine mw_get (C := RX1) (T := TX1) (N := 2) hx hb hts in_X1_holdToSpare_X1 hown hK hP ((mu_n ne0_2).trans (mu_s _ _ _)) rfl 0 (by decide) (hts (.fieldLink RX1 16 "OctagonDesk$Shape" "numbers" "LOctagonDesk$Numbers;") (by decide +kernel)) (fun _ h9 => h9) rfl dX1_holdToSpare_8 ?_
    refine lv_sipush (v := nI 156) hx hb dX1_holdToSpare_11 (by decide) ?_
    refine lv_aload_n hx hb dX1_holdToSpare_14 rfl (lv_at hl 0 rfl) ?_
    refine mw_get (C := RX1) (T := TX1) (N := 2) hx hb hts in_X1_holdToSpare_X1 hown hK hP ((mu_n ne0_2).trans (mu_s _ _ _)) rfl 0 (by decide) (hts (.fieldLink RX1 16 "OctagonDesk$Shape" "numbers" "LOctagonDesk$Numbers;") (by decide +kernel)) (fun _ h9 => h9) rfl dX1_holdToSpare_15 ?_
    refine lv_iload_n hx hb dX1_holdToSpare_18 rfl (lv_at hl 1 rfl) ?_
    refine lv_iload_n hx hb dX1_holdToSpare_19 rfl (lv_at hl 2 rfl) ?_
    refine kc_i (va_runS (As := [.int (nI p9), .int (nI q9)]) (rest := [.ref hn, .int (nI 156), .ref hn]) ⟨hx, hb, hml, hown, hts⟩ (c_X1_cell l G B (mu (mu μ h (.inr (1, [.ref hn, .int (nI b)]))) la (.inl (G.2 0, 158 * k + 158, .inr (.inl f)))) p9 q9) (va_cwS 2 hts gX1_holdToSpare_X1_cell rfl rfl rfl (by decide +kernel) ⟨Nat.le_of_ble_eq_true rfl, Nat.le_of_ble_eq_true rfl⟩) ⟨KW.blind, fun U9 hU9 hW9 => ⟨rfl, KW.pre hBs hKK hS hP U9 hU9 hW9⟩⟩ rfl rfl hl.1 rfl (lv_room (Nat.le_of_ble_eq_true rfl)) dX1_holdToSpare_20 ⟨Nat.le_of_ble_eq_true rfl, Nat.le_of_ble_eq_true rfl⟩) hS (fun r20 m20 H locs hq9 hP hz9 hS => ?_)
    obtain ⟨he9, rfl⟩ := hq9
    rw [he9] at hP
    refine kc_i (va_runV (As := [.int (nI 156), .ref hn, .int (nI (p9 * 12 + q9))]) (rest := []) ⟨hx, hb, hml, hown, hts⟩ (c_X0_isLess l G B (mu (mu μ h (.inr (1, [.ref hn, .int (nI b)]))) la (.inl (G.2 0, 158 * k + 158, .inr (.inl f)))) hn la k f hn la f 156 (p9 * 12 + q9) ((mu_n ne1_2).trans ((mu_n ((Ne.symm ne0_1))).trans (hhn))) (mu_s _ _ _) ((mu_n ne1_2).trans ((mu_n ((Ne.symm ne0_1))).trans (hhn))) (mu_s _ _ _) (by omega) (by omega) (by omega)) (cwV 3 hts gX1_holdToSpare_X0_isLess rfl rfl rfl (by decide +kernel) ⟨Nat.le_of_ble_eq_true rfl, Nat.le_of_ble_eq_true rfl⟩) ⟨KW.blind, hP.recv hK rfl ((mu_n ne1_2).trans ((mu_n ((Ne.symm ne0_1))).trans (hhn))), fun U9 hU9 hW9 => ⟨rfl, KW.pre hBs hKK hS hP U9 hU9 hW9⟩⟩ rfl rfl hl.1 rfl (lv_room (Nat.le_of_ble_eq_true rfl)) dX1_holdToSpare_23 ⟨Nat.le_of_ble_eq_true rfl, Nat.le_of_ble_eq_true rfl⟩) hS (fun r23 m23 H locs hq9 hP hz9 hS => ?_)
    obtain ⟨he9, hbr23, hr23⟩ := hq9
    rw [he9] at hP
    refine lv_if_ne (tgt := 30) hx hb dX1_holdToSpare_26 (by decide) (fun hc26 => ?_) (fun hc26 => ?_)
    · refine lv_aload_n hx hb dX1_holdToSpare_30 rfl (lv_at hl 0 rfl) ?_
      refine mw_get (C := RX1) (T := TX1) (N := 2) hx hb hts in_X1_holdToSpare_X1 hown hK hP ((mu_n ne0_2).trans (mu_s _ _ _)) rfl 0 (by decide) (hts (.fieldLink RX1 16 "OctagonDesk$Shape" "numbers" "LOctagonDesk$Numbers;") (by decide +kernel)) (fun _ h9 => h9) rfl dX1_holdToSpare_31 ?_
      refine lv_iload_n hx hb dX1_holdToSpare_34 rfl (lv_at hl 1 rfl) ?_
      refine lv_iload_n hx hb dX1_holdToSpare_35 rfl (lv_at hl 2 rfl) ?_
      refine kc_i (va_runS (As := [.int (nI p9), .int (nI q9)]) (rest := [.ref hn]) ⟨hx, hb, hml, hown, hts⟩ (c_X1_cell l G B (mu (mu μ h (.inr (1, [.ref hn, .int (nI b)]))) la (.inl (G.2 0, 158 * k + 158, .inr (.inl f)))) p9 q9) (va_cwS 2 hts gX1_holdToSpare_X1_cell rfl rfl rfl (by decide +kernel) ⟨Nat.le_of_ble_eq_true rfl, Nat.le_of_ble_eq_true rfl⟩) ⟨KW.blind, fun U9 hU9 hW9 => ⟨rfl, KW.pre hBs hKK hS hP U9 hU9 hW9⟩⟩ rfl rfl hl.1 rfl (lv_room (Nat.le_of_ble_eq_true rfl)) dX1_holdToSpare_36 ⟨Nat.le_of_ble_eq_true rfl, Nat.le_of_ble_eq_true rfl⟩) hS (fun r36 m36 H locs hq9 hP hz9 hS => ?_)
      obtain ⟨he9, rfl⟩ := hq9
      rw [he9] at hP
      refine lv_aload_n hx hb dX1_holdToSpare_39 rfl (lv_at hl 0 rfl) ?_
      refine mw_get (C := RX1) (T := TX1) (N := 2) hx hb hts in_X1_holdToSpare_X1 hown hK hP ((mu_n ne0_2).trans (mu_s _ _ _)) rfl 0 (by decide) (hts (.fieldLink RX1 16 "OctagonDesk$Shape" "numbers" "LOctagonDesk$Numbers;") (by decide +kernel)) (fun _ h9 => h9) rfl dX1_holdToSpare_40 ?_
      refine lv_sipush (v := nI 156) hx hb dX1_holdToSpare_43 (by decide) ?_
      refine kc_v (va_runV (As := [.int (nI (p9 * 12 + q9)), .ref hn, .int (nI 156)]) (rest := []) ⟨hx, hb, hml, hown, hts⟩ (c_X0_put_s l G B (mu (mu μ h (.inr (1, [.ref hn, .int (nI b)]))) la (.inl (G.2 0, 158 * k + 158, .inr (.inl f)))) hn la k f (p9 * 12 + q9) 156 ((mu_n ne1_2).trans ((mu_n ((Ne.symm ne0_1))).trans (hhn))) (mu_s _ _ _) (by omega) (by omega) (by omega)) (cwV 3 hts gX1_holdToSpare_X0_put rfl rfl rfl (by decide +kernel) ⟨Nat.le_of_ble_eq_true rfl, Nat.le_of_ble_eq_true rfl⟩) ⟨KW.blind, hP.recv hK rfl ((mu_n ne1_2).trans ((mu_n ((Ne.symm ne0_1))).trans (hhn))), fun U9 hU9 hW9 => ⟨rfl, KW.pre hBs hKK hS hP U9 hU9 hW9⟩⟩ rfl rfl hl.1 rfl (lv_room (Nat.le_of_ble_eq_true rfl)) dX1_holdToSpare_46 ⟨Nat.le_of_ble_eq_true rfl, Nat.le_of_ble_eq_true rfl⟩) hS (fun m46 H locs hq9 hP hz9 hS => ?_)
      obtain ⟨g46, rfl, hg46⟩ := hq9
      have hP : mw G.1 vwCl B (mu (mu μ h (.inr (1, [.ref hn, .int (nI b)]))) la (.inl (G.2 0, 158 * k + 158, .inr (.inl g46)))) _ := mw_eq (mu_u _ _ _ _) hP
      refine lv_aload_n hx hb dX1_holdToSpare_49 rfl (lv_at hl 0 rfl) ?_
      refine mw_get (C := RX1) (T := TX1) (N := 2) hx hb hts in_X1_holdToSpare_X1 hown hK hP ((mu_n ne0_2).trans (mu_s _ _ _)) rfl 0 (by decide) (hts (.fieldLink RX1 16 "OctagonDesk$Shape" "numbers" "LOctagonDesk$Numbers;") (by decide +kernel)) (fun _ h9 => h9) rfl dX1_holdToSpare_50 ?_
      refine lv_iload_n hx hb dX1_holdToSpare_53 rfl (lv_at hl 2 rfl) ?_
      refine lv_iload_n hx hb dX1_holdToSpare_54 rfl (lv_at hl 1 rfl) ?_
      refine kc_i (va_runS (As := [.int (nI q9), .int (nI p9)]) (rest := [.ref hn]) ⟨hx, hb, hml, hown, hts⟩ (c_X1_cell l G B (mu (mu μ h (.inr (1, [.ref hn, .int (nI b)]))) la (.inl (G.2 0, 158 * k + 158, .inr (.inl g46)))) q9 p9) (va_cwS 2 hts gX1_holdToSpare_X1_cell rfl rfl rfl (by decide +kernel) ⟨Nat.le_of_ble_eq_true rfl, Nat.le_of_ble_eq_true rfl⟩) ⟨KW.blind, fun U9 hU9 hW9 => ⟨rfl, KW.pre hBs hKK hS hP U9 hU9 hW9⟩⟩ rfl rfl hl.1 rfl (lv_room (Nat.le_of_ble_eq_true rfl)) dX1_holdToSpare_55 ⟨Nat.le_of_ble_eq_true rfl, Nat.le_of_ble_eq_true rfl⟩) hS (fun r55 m55 H locs hq9 hP hz9 hS => ?_)
      obtain ⟨he9, rfl⟩ := hq9
      rw [he9] at hP
      refine lv_aload_n hx hb dX1_holdToSpare_58 rfl (lv_at hl 0 rfl) ?_
      refine mw_get (C := RX1) (T := TX1) (N := 2) hx hb hts in_X1_holdToSpare_X1 hown hK hP ((mu_n ne0_2).trans (mu_s _ _ _)) rfl 0 (by decide) (hts (.fieldLink RX1 16 "OctagonDesk$Shape" "numbers" "LOctagonDesk$Numbers;") (by decide +kernel)) (fun _ h9 => h9) rfl dX1_holdToSpare_59 ?_
      refine lv_sipush (v := nI 156) hx hb dX1_holdToSpare_62 (by decide) ?_
      refine kc_v (va_runV (As := [.int (nI (q9 * 12 + p9)), .ref hn, .int (nI 156)]) (rest := []) ⟨hx, hb, hml, hown, hts⟩ (c_X0_put_s l G B (mu (mu μ h (.inr (1, [.ref hn, .int (nI b)]))) la (.inl (G.2 0, 158 * k + 158, .inr (.inl g46)))) hn la k g46 (q9 * 12 + p9) 156 ((mu_n ne1_2).trans ((mu_n ((Ne.symm ne0_1))).trans (hhn))) (mu_s _ _ _) (by omega) (by omega) (by omega)) (cwV 3 hts gX1_holdToSpare_X0_put rfl rfl rfl (by decide +kernel) ⟨Nat.le_of_ble_eq_true rfl, Nat.le_of_ble_eq_true rfl⟩) ⟨KW.blind, hP.recv hK rfl ((mu_n ne1_2).trans ((mu_n ((Ne.symm ne0_1))).trans (hhn))), fun U9 hU9 hW9 => ⟨rfl, KW.pre hBs hKK hS hP U9 hU9 hW9⟩⟩ rfl rfl hl.1 rfl (lv_room (Nat.le_of_ble_eq_true rfl)) dX1_holdToSpare_65 ⟨Nat.le_of_ble_eq_true rfl, Nat.le_of_ble_eq_true rfl⟩) hS (fun m65 H locs hq9 hP hz9 hS => ?_)
      obtain ⟨g65, rfl, hg65⟩ := hq9
      have hP : mw G.1 vwCl B (mu (mu μ h (.inr (1, [.ref hn, .int (nI b)]))) la (.inl (G.2 0, 158 * k + 158, .inr (.inl g65)))) _ := mw_eq (mu_u _ _ _ _) hP
      refine lv_aload_n hx hb dX1_holdToSpare_68 rfl (lv_at hl 0 rfl) ?_
      refine lv_iload_n hx hb dX1_holdToSpare_69 rfl (lv_at hl 1 rfl) ?_
      refine lv_iload_n hx hb dX1_holdToSpare_70 rfl (lv_at hl 2 rfl) ?_
      refine kc_v (va_runV (As := [.int (nI p9), .int (nI q9)]) (rest := []) ⟨hx, hb, hml, hown, hts⟩ (c_X1_passThrough l G B (mu (mu μ h (.inr (1, [.ref hn, .int (nI b)]))) la (.inl (G.2 0, 158 * k + 158, .inr (.inl g65)))) h hn la k b g65 p9 q9 ((mu_n ne0_2).trans (mu_s _ _ _)) ((mu_n ne1_2).trans ((mu_n ((Ne.symm ne0_1))).trans (hhn))) (mu_s _ _ _) (by omega) (by omega) (by omega) (by omega)) (cwV 2 hts gX1_holdToSpare_X1_passThrough rfl rfl rfl (by decide +kernel) ⟨Nat.le_of_ble_eq_true rfl, Nat.le_of_ble_eq_true rfl⟩) ⟨KW.blind, hP.recv hK rfl ((mu_n ne0_2).trans (mu_s _ _ _)), fun U9 hU9 hW9 => ⟨rfl, KW.pre hBs hKK hS hP U9 hU9 hW9⟩⟩ rfl rfl hl.1 rfl (lv_room (Nat.le_of_ble_eq_true rfl)) dX1_holdToSpare_71 ⟨Nat.le_of_ble_eq_true rfl, Nat.le_of_ble_eq_true rfl⟩) hS (fun m71 H locs hq9 hP hz9 hS => ?_)
      obtain ⟨g71, b71, rfl, hb71, hg71⟩ := hq9
      have hP : mw G.1 vwCl B (mu (mu μ h (.inr (1, [.ref hn, .int (nI b71)]))) la (.inl (G.2 0, 158 * k + 158, .inr (.inl g71)))) _ := mw_eq ((congrArg (fun z => mu z la (.inl (G.2 0, 158 * k + 158, .inr (.inl g71)))) ((mu_c _ _ ((Ne.symm ne0_2))).trans (congrArg (fun z => mu z la (.inl (G.2 0, 158 * k + 158, .inr (.inl g65)))) (mu_u _ _ _ _)))).trans (mu_u _ _ _ _)) hP
      refine lv_iload_n hx hb dX1_holdToSpare_74 rfl (lv_at hl 1 rfl) ?_
      refine lv_iload_n hx hb dX1_holdToSpare_75 rfl (lv_at hl 2 rfl) ?_
      refine nv_icmp_eq (tgt := 85) hx hb (by omega) (by omega) dX1_holdToSpare_76 (by decide) (fun hc76 => ?_) (fun hc76 => ?_)
      · refine lv_aload_n hx hb dX1_holdToSpare_85 rfl (lv_at hl 0 rfl) ?_
        refine kc_v (va_runV (As := []) (rest := []) ⟨hx, hb, hml, hown, hts⟩ (c_X1_combineSingles l G B (mu (mu μ h (.inr (1, [.ref hn, .int (nI b71)]))) la (.inl (G.2 0, 158 * k + 158, .inr (.inl g71)))) h hn la k b71 g71  ((mu_n ne0_2).trans (mu_s _ _ _)) ((mu_n ne1_2).trans ((mu_n ((Ne.symm ne0_1))).trans (hhn))) (mu_s _ _ _) (by omega) (by omega)) (cwV 0 hts gX1_holdToSpare_X1_combineSingles rfl rfl rfl (by decide +kernel) ⟨Nat.le_of_ble_eq_true rfl, Nat.le_of_ble_eq_true rfl⟩) ⟨KW.blind, hP.recv hK rfl ((mu_n ne0_2).trans (mu_s _ _ _)), fun U9 hU9 hW9 => ⟨rfl, KW.pre hBs hKK hS hP U9 hU9 hW9⟩⟩ rfl rfl hl.1 rfl (lv_room (Nat.le_of_ble_eq_true rfl)) dX1_holdToSpare_86 ⟨Nat.le_of_ble_eq_true rfl, Nat.le_of_ble_eq_true rfl⟩) hS (fun m86 H locs hq9 hP hz9 hS => ?_)
        obtain ⟨g86, b86, rfl, hb86, hg86⟩ := hq9
        have hP : mw G.1 vwCl B (mu (mu μ h (.inr (1, [.ref hn, .int (nI b86)]))) la (.inl (G.2 0, 158 * k + 158, .inr (.inl g86)))) _ := mw_eq ((congrArg (fun z => mu z la (.inl (G.2 0, 158 * k + 158, .inr (.inl g86)))) ((mu_c _ _ ((Ne.symm ne0_2))).trans (congrArg (fun z => mu z la (.inl (G.2 0, 158 * k + 158, .inr (.inl g71)))) (mu_u _ _ _ _)))).trans (mu_u _ _ _ _)) hP
        rw [hQ]
        exact W.vret hx hb hr (fun t99 ht99 hW99 => ⟨⟨mu (mu μ h (.inr (1, [.ref hn, .int (nI b86)]))) la (.inl (G.2 0, 158 * k + 158, .inr (.inl g86))), rfl, (⟨_, _, rfl, hb86, fun h0 => by have e1 : b = 0 := nb_0 hb1 hc4; have e3 := hr23 h0; have e2 : f 156 < f (p9 * 12 + q9) := (by by_cases h9 : f 156 < f (p9 * 12 + q9); exact h9; rw [if_neg h9] at e3; exact absurd e3 hc26); have e4 : hs f p9 q9 b = g65 := (by rw [hs, if_pos ⟨e1, e2⟩, hg65 h0, hg46 h0, pk_uLn (show (156 : Nat) ≠ p9 * 12 + q9 by omega)]); rw [e4]; have zs : Za f → Za g65 := (fun e => by rw [hg65 h0, hg46 h0]; have e9 := e 156 (by omega); exact ((e.upd e9).upd ((e.upd e9) 156 (by omega)))); exact ⟨(hg71 h0).1.tr (hg86 h0).1, fun e => (hg86 h0).2 ((hg71 h0).2 (zs e))⟩⟩), by show mw _ _ _ _ t99.heap; rw [ht99]; exact hP⟩, hS.F ht99⟩) hS.2.2 dX1_holdToSpare_89
      · refine lv_aload_n hx hb dX1_holdToSpare_79 rfl (lv_at hl 0 rfl) ?_
        refine lv_iload_n hx hb dX1_holdToSpare_80 rfl (lv_at hl 2 rfl) ?_
        refine lv_iload_n hx hb dX1_holdToSpare_81 rfl (lv_at hl 1 rfl) ?_
        refine kc_v (va_runV (As := [.int (nI q9), .int (nI p9)]) (rest := []) ⟨hx, hb, hml, hown, hts⟩ (c_X1_passThrough l G B (mu (mu μ h (.inr (1, [.ref hn, .int (nI b71)]))) la (.inl (G.2 0, 158 * k + 158, .inr (.inl g71)))) h hn la k b71 g71 q9 p9 ((mu_n ne0_2).trans (mu_s _ _ _)) ((mu_n ne1_2).trans ((mu_n ((Ne.symm ne0_1))).trans (hhn))) (mu_s _ _ _) (by omega) (by omega) (by omega) (by omega)) (cwV 2 hts gX1_holdToSpare_X1_passThrough rfl rfl rfl (by decide +kernel) ⟨Nat.le_of_ble_eq_true rfl, Nat.le_of_ble_eq_true rfl⟩) ⟨KW.blind, hP.recv hK rfl ((mu_n ne0_2).trans (mu_s _ _ _)), fun U9 hU9 hW9 => ⟨rfl, KW.pre hBs hKK hS hP U9 hU9 hW9⟩⟩ rfl rfl hl.1 rfl (lv_room (Nat.le_of_ble_eq_true rfl)) dX1_holdToSpare_82 ⟨Nat.le_of_ble_eq_true rfl, Nat.le_of_ble_eq_true rfl⟩) hS (fun m82 H locs hq9 hP hz9 hS => ?_)
        obtain ⟨g82, b82, rfl, hb82, hg82⟩ := hq9
        have hP : mw G.1 vwCl B (mu (mu μ h (.inr (1, [.ref hn, .int (nI b82)]))) la (.inl (G.2 0, 158 * k + 158, .inr (.inl g82)))) _ := mw_eq ((congrArg (fun z => mu z la (.inl (G.2 0, 158 * k + 158, .inr (.inl g82)))) ((mu_c _ _ ((Ne.symm ne0_2))).trans (congrArg (fun z => mu z la (.inl (G.2 0, 158 * k + 158, .inr (.inl g71)))) (mu_u _ _ _ _)))).trans (mu_u _ _ _ _)) hP
        refine lv_aload_n hx hb dX1_holdToSpare_85 rfl (lv_at hl 0 rfl) ?_
        refine kc_v (va_runV (As := []) (rest := []) ⟨hx, hb, hml, hown, hts⟩ (c_X1_combineSingles l G B (mu (mu μ h (.inr (1, [.ref hn, .int (nI b82)]))) la (.inl (G.2 0, 158 * k + 158, .inr (.inl g82)))) h hn la k b82 g82  ((mu_n ne0_2).trans (mu_s _ _ _)) ((mu_n ne1_2).trans ((mu_n ((Ne.symm ne0_1))).trans (hhn))) (mu_s _ _ _) (by omega) (by omega)) (cwV 0 hts gX1_holdToSpare_X1_combineSingles rfl rfl rfl (by decide +kernel) ⟨Nat.le_of_ble_eq_true rfl, Nat.le_of_ble_eq_true rfl⟩) ⟨KW.blind, hP.recv hK rfl ((mu_n ne0_2).trans (mu_s _ _ _)), fun U9 hU9 hW9 => ⟨rfl, KW.pre hBs hKK hS hP U9 hU9 hW9⟩⟩ rfl rfl hl.1 rfl (lv_room (Nat.le_of_ble_eq_true rfl)) dX1_holdToSpare_86 ⟨Nat.le_of_ble_eq_true rfl, Nat.le_of_ble_eq_true rfl⟩) hS (fun m86 H locs hq9 hP hz9 hS => ?_)
        obtain ⟨g86, b86, rfl, hb86, hg86⟩ := hq9
        have hP : mw G.1 vwCl B (mu (mu μ h (.inr (1, [.ref hn, .int (nI b86)]))) la (.inl (G.2 0, 158 * k + 158, .inr (.inl g86)))) _ := mw_eq ((congrArg (fun z => mu z la (.inl (G.2 0, 158 * k + 158, .inr (.inl g86)))) ((mu_c _ _ ((Ne.symm ne0_2))).trans (congrArg (fun z => mu z la (.inl (G.2 0, 158 * k + 158, .inr (.inl g82)))) (mu_u _ _ _ _)))).trans (mu_u _ _ _ _)) hP
        rw [hQ]
        exact W.vret hx hb hr (fun t99 ht99 hW99 => ⟨⟨mu (mu μ h (.inr (1, [.ref hn, .int (nI b86)]))) la (.inl (G.2 0, 158 * k + 158, .inr (.inl g86))), rfl, (⟨_, _, rfl, hb86, fun h0 => by have e1 : b = 0 := nb_0 hb1 hc4; have e3 := hr23 h0; have e2 : f 156 < f (p9 * 12 + q9) := (by by_cases h9 : f 156 < f (p9 * 12 + q9); exact h9; rw [if_neg h9] at e3; exact absurd e3 hc26); have e4 : hs f p9 q9 b = g65 := (by rw [hs, if_pos ⟨e1, e2⟩, hg65 h0, hg46 h0, pk_uLn (show (156 : Nat) ≠ p9 * 12 + q9 by omega)]); rw [e4]; have zs : Za f → Za g65 := (fun e => by rw [hg65 h0, hg46 h0]; have e9 := e 156 (by omega); exact ((e.upd e9).upd ((e.upd e9) 156 (by omega)))); exact ⟨((hg71 h0).1.tr (hg82 h0).1).tr (hg86 h0).1, fun e => (hg86 h0).2 ((hg82 h0).2 ((hg71 h0).2 (zs e)))⟩⟩), by show mw _ _ _ _ t99.heap; rw [ht99]; exact hP⟩, hS.F ht99⟩) hS.2.2 dX1_holdToSpare_89
    · rw [hQ]
      exact W.vret hx hb hr (fun t99 ht99 hW99 => ⟨⟨mu (mu μ h (.inr (1, [.ref hn, .int (nI b)]))) la (.inl (G.2 0, 158 * k + 158, .inr (.inl f))), rfl, (⟨_, _, rfl, hb1, fun h0 => by refine ⟨?_, fun e => e⟩; rw [hs, if_neg (by rintro ⟨e1, e2⟩; first | exact absurd (nb_1 hb1 hc4) (by omega) | (have e3 := hr23 h0; rw [if_pos e2] at e3; rw [e3] at hc26; exact absurd hc26 (by decide)))]; exact RR.rf f b⟩), by show mw _ _ _ _ t99.heap; rw [ht99]; exact hP⟩, hS.F ht99⟩) hS.2.2 dX1_holdToSpare_29
