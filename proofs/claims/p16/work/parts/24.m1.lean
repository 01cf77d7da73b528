abbrev rn_X4_lessen : Room := { frames := 1, cells := 0, slots := 0, locals := 25 }
set_option maxHeartbeats 4000000 in
set_option maxRecDepth 100000 in
theorem m_X4_lessen (l : Launch) (G : GG) (B : Nat) (μ : mp) (md ab av c1 c2 c3 c4 c5 c6 c7 c8 c9 fl st : Nat) (f : Nat → Int64) (v : Nat → Int32) (s9 p9 q9 : Nat) (x9 : Int64) (hm : μ md = some (.inr (4, [.int (nI fl), .ref ab, .ref av, .int (nI st), .ref c1, .ref c2, .ref c3, .ref c4, .ref c5, .ref c6, .ref c7, .ref c8, .ref c9]))) (hab : μ ab = some (.inl (G.2 0, 3744, .inr (.inl f)))) (hav : μ av = some (.inl (G.2 2, 26, .inl v))) (hs9 : s9 < 26) (hp9 : p9 < 12) (hq9a : q9 < 12) (hsy : Sym f) (hvb : VB v) : Met l yX4_lessen wsX4_lessen rn_X4_lessen (va_Pc [.ref md, .int (nI s9), .int (nI p9), .int (nI q9), .long x9] (KW G B μ)) (va_Qi (fun r μ2 => ∃ (b9 : Nat) (g9 : Nat → Int64) (w9 : Nat → Int32), r = nI b9 ∧ b9 ≤ 1 ∧ μ2 = mu (mu μ ab (.inl (G.2 0, 3744, .inr (.inl g9)))) av (.inl (G.2 2, 26, .inl w9)) ∧ (Sym g9 ∧ VB w9) ∧ msum g9 s9 144 + b9 ≤ msum f s9 144) (BB G B) (fun q => B ≤ q)) 0 0 (fun q => B ≤ q) := by
  refine Met.ofW (cc := cX4_lessen) (maxL := 8) (ret := (some .boolean)) (by decide) rfl ?_
  intro p e s m args below meth c s₁ B9 hml hv
  obtain ⟨hargs, hBs, hP, hKK⟩ := hv
  have hx := B9.exec
  have hb := B9.bytes
  have hr := B9.returns
  have hts := atoms_spec (ws := wsX4_lessen) B9.pre
  have hown : s.vm.findClass RX4 = some m.cls := findClass_of_methodNamed B9.named
  have hlocks := B9.notSynchronized
  have hK := hKK.k
  have hS : va_S (fun q => B ≤ q) s.heap s.heap [] := va_S.rf
  obtain ⟨Q, hQ⟩ : ∃ Q, Q = MQ below (va_Qi (fun r μ2 => ∃ (b9 : Nat) (g9 : Nat → Int64) (w9 : Nat → Int32), r = nI b9 ∧ b9 ≤ 1 ∧ μ2 = mu (mu μ ab (.inl (G.2 0, 3744, .inr (.inl g9)))) av (.inl (G.2 2, 26, .inl w9)) ∧ (Sym g9 ∧ VB w9) ∧ msum g9 s9 144 + b9 ≤ msum f s9 144) (BB G B) (fun q => B ≤ q)) args s 0 0 (fun q => B ≤ q) := ⟨_, rfl⟩
  rw [← hQ]
  have ne0_1 : md ≠ ab := mp_ne hm hab (by simp)
  have ne0_2 : md ≠ av := mp_ne hm hav (by simp)
  have in_X4_lessen_X4 : ∀ w ∈ wsX40, w ∈ wsX4_lessen := by decide +kernel
  have hP : mw G.1 vwCl B (mu (mu μ ab (.inl (G.2 0, 3744, .inr (.inl f)))) av (.inl (G.2 2, 26, .inl v))) s.heap := mw_eq ((congrArg (fun z => mu z av (.inl (G.2 2, 26, .inl v))) (mu_i hab)).trans (mu_i hav)).symm hP
  have L62 : ∀ (y9 : Int64), ∀ (H : Heap) (locs : List Loc), mw G.1 vwCl B (mu (mu μ ab (.inl (G.2 0, 3744, .inr (.inl f)))) av (.inl (G.2 2, 26, .inl v))) H → va_S (fun q => B ≤ q) s.heap H locs → ∀ ls : Array Slot, lv_has ls 8 [(0, .ref md), (1, .int (nI s9)), (2, .int (nI p9)), (3, .int (nI q9))] → W p l e rn_X4_lessen s m args below meth c H locs 0 0 Q (F0 m 62 ls [.long y9]) := by
    intro y9  H locs hP hS ls hl
    refine lv_lstore (lv' := [(6, .long y9), (0, .ref md), (1, .int (nI s9)), (2, .int (nI p9)), (3, .int (nI q9))]) hx hb dX4_lessen_62 hl (by decide) rfl (fun ls hl => ?_)
    refine lv_lload hx hb dX4_lessen_64 (lv_at hl 0 rfl) ?_
    refine lv_aload_n hx hb dX4_lessen_66 rfl (lv_at hl 1 rfl) ?_
    refine lv_iload_n hx hb dX4_lessen_67 rfl (lv_at hl 2 rfl) ?_
    refine lv_iload_n hx hb dX4_lessen_68 rfl (lv_at hl 3 rfl) ?_
    refine lv_iload_n hx hb dX4_lessen_69 rfl (lv_at hl 4 rfl) ?_
    refine kc_l (va_runV (As := [.int (nI s9), .int (nI p9), .int (nI q9)]) (rest := [.long y9]) ⟨hx, hb, hml, hown, hts⟩ (c_X4_get l G B (mu (mu μ ab (.inl (G.2 0, 3744, .inr (.inl f)))) av (.inl (G.2 2, 26, .inl v))) md ab av c1 c2 c3 c4 c5 c6 c7 c8 c9 fl st f v s9 p9 q9 ((mu_n ne0_2).trans ((mu_n ne0_1).trans (hm))) ((mu_n ((mp_ne hab hav (by simp)))).trans (mu_s _ _ _)) (mu_s _ _ _) (by omega) (by omega) (by omega)) (cwV 3 hts gX4_lessen_X4_get rfl rfl rfl (by decide +kernel) ⟨Nat.le_of_ble_eq_true rfl, Nat.le_of_ble_eq_true rfl⟩) ⟨KW.blind, hP.recv hK rfl ((mu_n ne0_2).trans ((mu_n ne0_1).trans (hm))), fun U9 hU9 hW9 => ⟨rfl, KW.pre hBs hKK hS hP U9 hU9 hW9⟩⟩ rfl rfl hl.1 rfl (lv_room (Nat.le_of_ble_eq_true rfl)) dX4_lessen_70 ⟨(Nat.le_of_ble_eq_true rfl), (Nat.le_of_ble_eq_true rfl)⟩) hS (fun r70 m70 H locs hq9 hP hz9 hS => ?_)
    obtain ⟨he9, hr70⟩ := hq9
    rw [he9] at hP
    refine nl_if_lt (tgt := 79) hx hb dX4_lessen_73 dX4_lessen_74 (by decide) (fun hc73 => ?_) (fun hc73 => ?_)
    · refine lv_aload_n hx hb dX4_lessen_79 rfl (lv_at hl 1 rfl) ?_
      refine lv_iload_n hx hb dX4_lessen_80 rfl (lv_at hl 2 rfl) ?_
      refine lv_iload_n hx hb dX4_lessen_81 rfl (lv_at hl 3 rfl) ?_
      refine lv_iload_n hx hb dX4_lessen_82 rfl (lv_at hl 4 rfl) ?_
      refine lv_lload hx hb dX4_lessen_83 (lv_at hl 0 rfl) ?_
      refine kc_v (va_runV (As := [.int (nI s9), .int (nI p9), .int (nI q9), .long y9]) (rest := []) ⟨hx, hb, hml, hown, hts⟩ (c_X4_set l G B (mu (mu μ ab (.inl (G.2 0, 3744, .inr (.inl f)))) av (.inl (G.2 2, 26, .inl v))) md ab av c1 c2 c3 c4 c5 c6 c7 c8 c9 fl st f v s9 p9 q9 y9 ((mu_n ne0_2).trans ((mu_n ne0_1).trans (hm))) ((mu_n ((mp_ne hab hav (by simp)))).trans (mu_s _ _ _)) (mu_s _ _ _) (by omega) (by omega) (by omega)) (cwV 4 hts gX4_lessen_X4_set rfl rfl rfl (by decide +kernel) ⟨Nat.le_of_ble_eq_true rfl, Nat.le_of_ble_eq_true rfl⟩) ⟨KW.blind, hP.recv hK rfl ((mu_n ne0_2).trans ((mu_n ne0_1).trans (hm))), fun U9 hU9 hW9 => ⟨rfl, KW.pre hBs hKK hS hP U9 hU9 hW9⟩⟩ rfl rfl hl.1 rfl (lv_room (Nat.le_of_ble_eq_true rfl)) dX4_lessen_85 ⟨(Nat.le_of_ble_eq_true rfl), (Nat.le_of_ble_eq_true rfl)⟩) hS (fun m85 H locs hq9 hP hz9 hS => ?_)
      rw [hq9] at hP
      have hP : mw G.1 vwCl B (mu (mu μ ab (.inl (G.2 0, 3744, .inr (.inl (stf f s9 p9 q9 y9))))) av (.inl (G.2 2, 26, .inl v))) _ := mw_eq ((mu_c _ _ ((mp_ne hav hab (by simp)))).trans (congrArg (fun z => mu z av (.inl (G.2 2, 26, .inl v))) (mu_u _ _ _ _))) hP
      refine lv_iconst (v := nI 1) hx hb dX4_lessen_88 (by decide) ?_
      rw [hQ]
      exact W.zret (v := nI 1) (ty := .boolean) hx hb hr (by first | rfl | decide) (fun t99 ht99 hW99 => ⟨⟨nI 1, mu (mu μ ab (.inl (G.2 0, 3744, .inr (.inl (stf f s9 p9 q9 y9))))) av (.inl (G.2 2, 26, .inl v)), rfl, (⟨1, _, _, rfl, by omega, rfl, ⟨(hsy.st (by omega) (by omega)), hvb⟩, ls_g hsy hs9 hp9 hq9a (by rw [← hr70]; exact hc73)⟩), by show mw _ _ _ _ t99.heap; rw [ht99]; exact hP⟩, hS.F ht99⟩) hS.2.2 dX4_lessen_89
    · refine lv_iconst (v := nI 0) hx hb dX4_lessen_77 (by decide) ?_
      rw [hQ]
      exact W.zret (v := nI 0) (ty := .boolean) hx hb hr (by first | rfl | decide) (fun t99 ht99 hW99 => ⟨⟨nI 0, mu (mu μ ab (.inl (G.2 0, 3744, .inr (.inl f)))) av (.inl (G.2 2, 26, .inl v)), rfl, (⟨0, _, _, rfl, by omega, rfl, ⟨hsy, hvb⟩, Nat.le_refl _⟩), by show mw _ _ _ _ t99.heap; rw [ht99]; exact hP⟩, hS.F ht99⟩) hS.2.2 dX4_lessen_78
  have hl := lv_entry ([.ref md, .int (nI s9), .int (nI p9), .int (nI q9), .long x9]) (n := 8) (Nat.le_of_ble_eq_true rfl)
  have he9 : entryFrame m args 8 = entryFrame m ([.ref md, .int (nI s9), .int (nI p9), .int (nI q9), .long x9] : List Value).toArray 8 := by rw [hargs]
  rw [he9, lg_entry_eq]
  generalize (lg_sl ([.ref md, .int (nI s9), .int (nI p9), .int (nI q9), .long x9]) ++ List.replicate (8 - (lg_sl ([.ref md, .int (nI s9), .int (nI p9), .int (nI q9), .long x9])).length) Slot.unset).toArray = ls at hl ⊢
  have hl : lv_has ls 8 [(0, .ref md), (1, .int (nI s9)), (2, .int (nI p9)), (3, .int (nI q9)), (4, .long x9)] := hl
  refine lv_lload hx hb dX4_lessen_0 (lv_at hl 4 rfl) ?_
  refine lv_ldc2 (v := (9223372036854775807)) hx hb hown (hts (.constantLong RX4 45 (9223372036854775807)) (by decide +kernel)) dX4_lessen_2 ?_
  refine nl_if_ne (tgt := 11) hx hb dX4_lessen_5 dX4_lessen_6 (by decide) (fun hc5 => ?_) (fun hc5 => ?_)
  · refine lv_iload_n hx hb dX4_lessen_11 rfl (lv_at hl 3 rfl) ?_
    refine lv_iload_n hx hb dX4_lessen_12 rfl (lv_at hl 2 rfl) ?_
    refine kc_i (va_runS (As := [.int (nI p9)]) (rest := [.int (nI q9)]) ⟨hx, hb, hml, hown, hts⟩ (c_X4_minus l G B (mu (mu μ ab (.inl (G.2 0, 3744, .inr (.inl f)))) av (.inl (G.2 2, 26, .inl v))) p9 (by omega)) (va_cwS 1 hts gX4_lessen_X4_minus rfl rfl rfl (by decide +kernel) ⟨Nat.le_of_ble_eq_true rfl, Nat.le_of_ble_eq_true rfl⟩) ⟨KW.blind, fun U9 hU9 hW9 => ⟨rfl, KW.pre hBs hKK hS hP U9 hU9 hW9⟩⟩ rfl rfl hl.1 rfl (lv_room (Nat.le_of_ble_eq_true rfl)) dX4_lessen_13 ⟨(Nat.le_of_ble_eq_true rfl), (Nat.le_of_ble_eq_true rfl)⟩) hS (fun r13 m13 H locs hq9 hP hz9 hS => ?_)
    obtain ⟨he9, rfl⟩ := hq9
    rw [he9] at hP
    have hne13 := ne_lt (p := p9) (by omega)
    refine nv_icmp_ne (tgt := 48) hx hb (by omega) (by omega) dX4_lessen_16 (by decide) (fun hc16 => ?_) (fun hc16 => ?_)
    · refine lv_iload_n hx hb dX4_lessen_48 rfl (lv_at hl 2 rfl) ?_
      refine lv_iload_n hx hb dX4_lessen_49 rfl (lv_at hl 3 rfl) ?_
      refine nv_icmp_ne (tgt := 60) hx hb (by omega) (by omega) dX4_lessen_50 (by decide) (fun hc50 => ?_) (fun hc50 => ?_)
      · refine lv_lload hx hb dX4_lessen_60 (lv_at hl 4 rfl) ?_
        exact L62 x9  _ _ hP hS ls (lv_sub hl [0, 1, 2, 3] rfl)
      · refine lv_lload hx hb dX4_lessen_53 (lv_at hl 4 rfl) ?_
        refine lv_iconst (v := nI 1) hx hb dX4_lessen_55 (by decide) ?_
        refine lv_lshr (v := x9 >>> ((nI 1).toInt64 &&& 63)) hx hb dX4_lessen_56 rfl ?_
        refine lv_goto (tgt := 62) hx hb dX4_lessen_57 (by decide) ?_
        exact L62 (x9 >>> ((nI 1).toInt64 &&& 63))  _ _ hP hS ls (lv_sub hl [0, 1, 2, 3] rfl)
    · refine lv_aload_n hx hb dX4_lessen_19 rfl (lv_at hl 0 rfl) ?_
      refine mw_get (C := RX4) (T := TX4) (N := 13) hx hb hts in_X4_lessen_X4 hown hK hP ((mu_n ne0_2).trans ((mu_n ne0_1).trans (hm))) rfl 2 (by decide) (hts (.fieldLink RX4 13 "OctagonDeskModel" "isVoid" "[Z") (by decide +kernel)) (fun _ h9 => h9) rfl dX4_lessen_20 ?_
      refine lv_iload_n hx hb dX4_lessen_23 rfl (lv_at hl 1 rfl) ?_
      refine lv_aload_n hx hb dX4_lessen_24 rfl (lv_at hl 0 rfl) ?_
      refine mw_get (C := RX4) (T := TX4) (N := 13) hx hb hts in_X4_lessen_X4 hown hK hP ((mu_n ne0_2).trans ((mu_n ne0_1).trans (hm))) rfl 2 (by decide) (hts (.fieldLink RX4 13 "OctagonDeskModel" "isVoid" "[Z") (by decide +kernel)) (fun _ h9 => h9) rfl dX4_lessen_25 ?_
      refine lv_iload_n hx hb dX4_lessen_28 rfl (lv_at hl 1 rfl) ?_
      refine mw_zald hx hb hK hP 2 (mu_s _ _ _) rfl (by omega) (by omega) dX4_lessen_29 ?_
      refine lv_if_ne (tgt := 40) hx hb dX4_lessen_30 (by decide) (fun hc30 => ?_) (fun hc30 => ?_)
      · refine lv_iconst (v := nI 1) hx hb dX4_lessen_40 (by decide) ?_
        refine lv_goto (tgt := 45) hx hb dX4_lessen_41 (by decide) ?_
        refine mw_zast hx hb hK hP hS 2 (mu_s _ _ _) rfl (by decide) (by omega) (by omega) dX4_lessen_45 (fun H locs hP hS => ?_)
        have hP : mw G.1 vwCl B (mu (mu μ ab (.inl (G.2 0, 3744, .inr (.inl f)))) av (.inl (G.2 2, 26, .inl (upd v s9 (nI 1))))) _ := mw_eq (mu_u _ _ _ _) hP
        refine lv_iconst (v := nI 0) hx hb dX4_lessen_46 (by decide) ?_
        rw [hQ]
        exact W.zret (v := nI 0) (ty := .boolean) hx hb hr (by first | rfl | decide) (fun t99 ht99 hW99 => ⟨⟨nI 0, mu (mu μ ab (.inl (G.2 0, 3744, .inr (.inl f)))) av (.inl (G.2 2, 26, .inl (upd v s9 (nI 1)))), rfl, (⟨0, _, _, rfl, by omega, rfl, ⟨hsy, (VB.u hvb (Or.inr rfl))⟩, Nat.le_refl _⟩), by show mw _ _ _ _ t99.heap; rw [ht99]; exact hP⟩, hS.F ht99⟩) hS.2.2 dX4_lessen_47
      · refine lv_lload hx hb dX4_lessen_33 (lv_at hl 4 rfl) ?_
        refine lv_lconst (v := 0) hx hb dX4_lessen_35 (by decide) ?_
        refine nl_if_ge (tgt := 44) hx hb dX4_lessen_36 dX4_lessen_37 (by decide) (fun hc36 => ?_) (fun hc36 => ?_)
        · refine lv_iconst (v := nI 0) hx hb dX4_lessen_44 (by decide) ?_
          refine mw_zast hx hb hK hP hS 2 (mu_s _ _ _) rfl (by decide) (by omega) (by omega) dX4_lessen_45 (fun H locs hP hS => ?_)
          have hP : mw G.1 vwCl B (mu (mu μ ab (.inl (G.2 0, 3744, .inr (.inl f)))) av (.inl (G.2 2, 26, .inl (upd v s9 (nI 0))))) _ := mw_eq (mu_u _ _ _ _) hP
          refine lv_iconst (v := nI 0) hx hb dX4_lessen_46 (by decide) ?_
          rw [hQ]
          exact W.zret (v := nI 0) (ty := .boolean) hx hb hr (by first | rfl | decide) (fun t99 ht99 hW99 => ⟨⟨nI 0, mu (mu μ ab (.inl (G.2 0, 3744, .inr (.inl f)))) av (.inl (G.2 2, 26, .inl (upd v s9 (nI 0)))), rfl, (⟨0, _, _, rfl, by omega, rfl, ⟨hsy, (VB.u hvb (Or.inl rfl))⟩, Nat.le_refl _⟩), by show mw _ _ _ _ t99.heap; rw [ht99]; exact hP⟩, hS.F ht99⟩) hS.2.2 dX4_lessen_47
        · refine lv_iconst (v := nI 1) hx hb dX4_lessen_40 (by decide) ?_
          refine lv_goto (tgt := 45) hx hb dX4_lessen_41 (by decide) ?_
          refine mw_zast hx hb hK hP hS 2 (mu_s _ _ _) rfl (by decide) (by omega) (by omega) dX4_lessen_45 (fun H locs hP hS => ?_)
          have hP : mw G.1 vwCl B (mu (mu μ ab (.inl (G.2 0, 3744, .inr (.inl f)))) av (.inl (G.2 2, 26, .inl (upd v s9 (nI 1))))) _ := mw_eq (mu_u _ _ _ _) hP
          refine lv_iconst (v := nI 0) hx hb dX4_lessen_46 (by decide) ?_
          rw [hQ]
          exact W.zret (v := nI 0) (ty := .boolean) hx hb hr (by first | rfl | decide) (fun t99 ht99 hW99 => ⟨⟨nI 0, mu (mu μ ab (.inl (G.2 0, 3744, .inr (.inl f)))) av (.inl (G.2 2, 26, .inl (upd v s9 (nI 1)))), rfl, (⟨0, _, _, rfl, by omega, rfl, ⟨hsy, (VB.u hvb (Or.inr rfl))⟩, Nat.le_refl _⟩), by show mw _ _ _ _ t99.heap; rw [ht99]; exact hP⟩, hS.F ht99⟩) hS.2.2 dX4_lessen_47
  · refine lv_iconst (v := nI 0) hx hb dX4_lessen_9 (by decide) ?_
    rw [hQ]
    exact W.zret (v := nI 0) (ty := .boolean) hx hb hr (by first | rfl | decide) (fun t99 ht99 hW99 => ⟨⟨nI 0, mu (mu μ ab (.inl (G.2 0, 3744, .inr (.inl f)))) av (.inl (G.2 2, 26, .inl v)), rfl, (⟨0, _, _, rfl, by omega, rfl, ⟨hsy, hvb⟩, Nat.le_refl _⟩), by show mw _ _ _ _ t99.heap; rw [ht99]; exact hP⟩, hS.F ht99⟩) hS.2.2 dX4_lessen_10

abbrev rn_X4_close : Room := { frames := 2, cells := 0, slots := 0, locals := 52 }
set_option maxHeartbeats 4000000 in
set_option maxRecDepth 100000 in
theorem m_X4_close (l : Launch) (G : GG) (B : Nat) (μ : mp) (md ab av c1 c2 c3 c4 c5 c6 c7 c8 c9 fl st : Nat) (f : Nat → Int64) (v : Nat → Int32) (s9 : Nat) (hm : μ md = some (.inr (4, [.int (nI fl), .ref ab, .ref av, .int (nI st), .ref c1, .ref c2, .ref c3, .ref c4, .ref c5, .ref c6, .ref c7, .ref c8, .ref c9]))) (hab : μ ab = some (.inl (G.2 0, 3744, .inr (.inl f)))) (hav : μ av = some (.inl (G.2 2, 26, .inl v))) (hs9 : s9 < 26) (hsy : Sym f) (hvb : VB v) : Met l yX4_close wsX4_close rn_X4_close (va_Pc [.ref md, .int (nI s9)] (KW G B μ)) (va_Qv (fun μ2 => ∃ (g9 : Nat → Int64) (w9 : Nat → Int32), μ2 = mu (mu μ ab (.inl (G.2 0, 3744, .inr (.inl g9)))) av (.inl (G.2 2, 26, .inl w9)) ∧ Sym g9 ∧ VB w9) (BB G B) (fun q => B ≤ q)) 0 0 (fun q => B ≤ q) := by
  refine Met.ofW (cc := cX4_close) (maxL := 8) (ret := none) (by decide) rfl ?_
  intro p e s m args below meth c s₁ B9 hml hv
  obtain ⟨hargs, hBs, hP, hKK⟩ := hv
  have hx := B9.exec
  have hb := B9.bytes
  have hr := B9.returns
  have hts := atoms_spec (ws := wsX4_close) B9.pre
  have hown : s.vm.findClass RX4 = some m.cls := findClass_of_methodNamed B9.named
  have hlocks := B9.notSynchronized
  have hK := hKK.k
  have hS : va_S (fun q => B ≤ q) s.heap s.heap [] := va_S.rf
  obtain ⟨Q, hQ⟩ : ∃ Q, Q = MQ below (va_Qv (fun μ2 => ∃ (g9 : Nat → Int64) (w9 : Nat → Int32), μ2 = mu (mu μ ab (.inl (G.2 0, 3744, .inr (.inl g9)))) av (.inl (G.2 2, 26, .inl w9)) ∧ Sym g9 ∧ VB w9) (BB G B) (fun q => B ≤ q)) args s 0 0 (fun q => B ≤ q) := ⟨_, rfl⟩
  rw [← hQ]
  have ne0_1 : md ≠ ab := mp_ne hm hab (by simp)
  have ne0_2 : md ≠ av := mp_ne hm hav (by simp)
  have in_X4_close_X4 : ∀ w ∈ wsX40, w ∈ wsX4_close := by decide +kernel
  have hP : mw G.1 vwCl B (mu (mu μ ab (.inl (G.2 0, 3744, .inr (.inl f)))) av (.inl (G.2 2, 26, .inl v))) s.heap := mw_eq ((congrArg (fun z => mu z av (.inl (G.2 2, 26, .inl v))) (mu_i hab)).trans (mu_i hav)).symm hP
  have L15 : ∀ (N15 : Nat) (m0 : Nat) (f0 : Nat → Int64) (v0 : Nat → Int32) (hN15 : msum f0 s9 144 + m0 < N15) (hm0 : m0 ≤ 1) (hsy0 : Sym f0) (hvb0 : VB v0), ∀ (H : Heap) (locs : List Loc), mw G.1 vwCl B (mu (mu μ ab (.inl (G.2 0, 3744, .inr (.inl f0)))) av (.inl (G.2 2, 26, .inl v0))) H → va_S (fun q => B ≤ q) s.heap H locs → ∀ ls : Array Slot, lv_has ls 8 [(0, .ref md), (1, .int (nI s9)), (2, .int (nI m0))] → W p l e rn_X4_close s m args below meth c H locs 0 0 Q (F0 m 15 ls []) := by
    intro N15
    induction N15 with
    | zero => intro m0 f0 v0 hN15; exact absurd hN15 (Nat.not_lt_zero _)
    | succ N15 ih15 =>
      intro m0 f0 v0 hN15 hm0 hsy0 hvb0 H locs hP hS ls hl
      have L23 : ∀ (N23 : Nat) (p1 : Nat) (m1 : Nat) (f1 : Nat → Int64) (v1 : Nat → Int32) (hN23 : 12 - p1 < N23) (hp1 : p1 ≤ 12) (hm01 : m0 = 1) (hm1 : m1 ≤ 1) (hsy1 : Sym f1) (hvb1 : VB v1) (hle : msum f1 s9 144 + m1 ≤ msum f0 s9 144), ∀ (H : Heap) (locs : List Loc), mw G.1 vwCl B (mu (mu μ ab (.inl (G.2 0, 3744, .inr (.inl f1)))) av (.inl (G.2 2, 26, .inl v1))) H → va_S (fun q => B ≤ q) s.heap H locs → ∀ ls : Array Slot, lv_has ls 8 [(0, .ref md), (1, .int (nI s9)), (2, .int (nI m1)), (3, .int (nI p1))] → W p l e rn_X4_close s m args below meth c H locs 0 0 Q (F0 m 23 ls []) := by
        intro N23
        induction N23 with
        | zero => intro p1 m1 f1 v1 hN23; exact absurd hN23 (Nat.not_lt_zero _)
        | succ N23 ih23 =>
          intro p1 m1 f1 v1 hN23 hp1 hm01 hm1 hsy1 hvb1 hle H locs hP hS ls hl
          have L32 : ∀ (N32 : Nat) (q1 : Nat) (m1 : Nat) (f1 : Nat → Int64) (v1 : Nat → Int32) (hN32 : 12 - q1 < N32) (hpo : p1 < 12) (hq1 : q1 ≤ 12) (hm1 : m1 ≤ 1) (hsy1 : Sym f1) (hvb1 : VB v1) (hle : msum f1 s9 144 + m1 ≤ msum f0 s9 144), ∀ (H : Heap) (locs : List Loc), mw G.1 vwCl B (mu (mu μ ab (.inl (G.2 0, 3744, .inr (.inl f1)))) av (.inl (G.2 2, 26, .inl v1))) H → va_S (fun q => B ≤ q) s.heap H locs → ∀ ls : Array Slot, lv_has ls 8 [(0, .ref md), (1, .int (nI s9)), (2, .int (nI m1)), (3, .int (nI p1)), (4, .int (nI q1))] → W p l e rn_X4_close s m args below meth c H locs 0 0 Q (F0 m 32 ls []) := by
            intro N32
            induction N32 with
            | zero => intro q1 m1 f1 v1 hN32; exact absurd hN32 (Nat.not_lt_zero _)
            | succ N32 ih32 =>
              intro q1 m1 f1 v1 hN32 hpo hq1 hm1 hsy1 hvb1 hle H locs hP hS ls hl
              have L100 : ∀ (N100 : Nat) (r1 : Nat) (m1 : Nat) (f1 : Nat → Int64) (v1 : Nat → Int32) (hN100 : 12 - r1 < N100) (hpq : (p1 < 12 ∧ q1 < 12)) (hr1 : r1 ≤ 12) (hm1 : m1 ≤ 1) (hsy1 : Sym f1) (hvb1 : VB v1) (hle : msum f1 s9 144 + m1 ≤ msum f0 s9 144), ∀ (H : Heap) (locs : List Loc), mw G.1 vwCl B (mu (mu μ ab (.inl (G.2 0, 3744, .inr (.inl f1)))) av (.inl (G.2 2, 26, .inl v1))) H → va_S (fun q => B ≤ q) s.heap H locs → ∀ ls : Array Slot, lv_has ls 8 [(0, .ref md), (1, .int (nI s9)), (2, .int (nI m1)), (3, .int (nI p1)), (4, .int (nI q1)), (6, .int (nI r1))] → W p l e rn_X4_close s m args below meth c H locs 0 0 Q (F0 m 100 ls []) := by
                intro N100
                induction N100 with
                | zero => intro r1 m1 f1 v1 hN100; exact absurd hN100 (Nat.not_lt_zero _)
                | succ N100 ih100 =>
                  intro r1 m1 f1 v1 hN100 hpq hr1 hm1 hsy1 hvb1 hle H locs hP hS ls hl
                  refine lv_iload hx hb dX4_close_100 (lv_at hl 5 rfl) ?_
                  refine lv_bipush (v := nI 12) hx hb dX4_close_102 (by decide) ?_
                  refine nv_icmp_ge (tgt := 161) hx hb (by omega) (by omega) dX4_close_104 (by decide) (fun hc104 => ?_) (fun hc104 => ?_)
                  · refine lv_iinc (v := nI (q1 + 1)) (lv' := [(4, .int (nI (q1 + 1))), (0, .ref md), (1, .int (nI s9)), (2, .int (nI m1)), (3, .int (nI p1)), (6, .int (nI r1))]) hx hb dX4_close_161 hl (k := 4) rfl (nI_add _ _) (by decide) rfl (fun ls hl => ?_)
                    refine lv_goto (tgt := 32) hx hb dX4_close_164 (by decide) ?_
                    exact ih32 (q1 + 1) m1 f1 v1 (by omega) (by omega) (by omega) (by omega) (hsy1) (hvb1) (by first | omega | (have h1 := nb_1 hm1 hc83; omega) | (have h1 := nb_1 hb69 hc72; omega) | (have h1 := nb_1 hm1 hc141; omega) | (have h1 := nb_1 hb135 hc146; omega) | (have h1 := nb_0 hm1 hc83; omega) | (have h1 := nb_0 hm1 hc141; omega)) _ _ hP hS ls (lv_sub hl [1, 2, 3, 4, 0] rfl)
                  · refine lv_aload_n hx hb dX4_close_107 rfl (lv_at hl 0 rfl) ?_
                    refine lv_iload_n hx hb dX4_close_108 rfl (lv_at hl 1 rfl) ?_
                    refine lv_iload_n hx hb dX4_close_109 rfl (lv_at hl 3 rfl) ?_
                    refine lv_iload hx hb dX4_close_110 (lv_at hl 4 rfl) ?_
                    refine lv_aload_n hx hb dX4_close_112 rfl (lv_at hl 0 rfl) ?_
                    refine lv_iload_n hx hb dX4_close_113 rfl (lv_at hl 1 rfl) ?_
                    refine lv_iload_n hx hb dX4_close_114 rfl (lv_at hl 3 rfl) ?_
                    refine lv_iload hx hb dX4_close_115 (lv_at hl 5 rfl) ?_
                    refine kc_l (va_runV (As := [.int (nI s9), .int (nI p1), .int (nI r1)]) (rest := [.int (nI q1), .int (nI p1), .int (nI s9), .ref md]) ⟨hx, hb, hml, hown, hts⟩ (c_X4_sumOf l G B (mu (mu μ ab (.inl (G.2 0, 3744, .inr (.inl f1)))) av (.inl (G.2 2, 26, .inl v1))) md ab av c1 c2 c3 c4 c5 c6 c7 c8 c9 fl st f1 v1 s9 p1 r1 ((mu_n ne0_2).trans ((mu_n ne0_1).trans (hm))) ((mu_n ((mp_ne hab hav (by simp)))).trans (mu_s _ _ _)) (mu_s _ _ _) (by omega) (by omega) (by omega)) (cwV 3 hts gX4_close_X4_sumOf rfl rfl rfl (by decide +kernel) ⟨Nat.le_of_ble_eq_true rfl, Nat.le_of_ble_eq_true rfl⟩) ⟨KW.blind, hP.recv hK rfl ((mu_n ne0_2).trans ((mu_n ne0_1).trans (hm))), fun U9 hU9 hW9 => ⟨rfl, KW.pre hBs hKK hS hP U9 hU9 hW9⟩⟩ rfl rfl hl.1 rfl (lv_room (Nat.le_of_ble_eq_true rfl)) dX4_close_117 ⟨(Nat.le_of_ble_eq_true rfl), (Nat.le_of_ble_eq_true rfl)⟩) hS (fun r117 m117 H locs hq9 hP hz9 hS => ?_)
                    obtain ⟨he9, hr117⟩ := hq9
                    rw [he9] at hP
                    refine lv_aload_n hx hb dX4_close_120 rfl (lv_at hl 0 rfl) ?_
                    refine lv_iload_n hx hb dX4_close_121 rfl (lv_at hl 1 rfl) ?_
                    refine lv_iload hx hb dX4_close_122 (lv_at hl 5 rfl) ?_
                    refine kc_i (va_runS (As := [.int (nI r1)]) (rest := [.int (nI s9), .ref md, .long r117, .int (nI q1), .int (nI p1), .int (nI s9), .ref md]) ⟨hx, hb, hml, hown, hts⟩ (c_X4_minus l G B (mu (mu μ ab (.inl (G.2 0, 3744, .inr (.inl f1)))) av (.inl (G.2 2, 26, .inl v1))) r1 (by omega)) (va_cwS 1 hts gX4_close_X4_minus rfl rfl rfl (by decide +kernel) ⟨Nat.le_of_ble_eq_true rfl, Nat.le_of_ble_eq_true rfl⟩) ⟨KW.blind, fun U9 hU9 hW9 => ⟨rfl, KW.pre hBs hKK hS hP U9 hU9 hW9⟩⟩ rfl rfl hl.1 rfl (lv_room (Nat.le_of_ble_eq_true rfl)) dX4_close_124 ⟨(Nat.le_of_ble_eq_true rfl), (Nat.le_of_ble_eq_true rfl)⟩) hS (fun r124 m124 H locs hq9 hP hz9 hS => ?_)
                    obtain ⟨he9, rfl⟩ := hq9
                    rw [he9] at hP
                    have hne124 := ne_lt (p := r1) (by omega)
                    refine lv_iload hx hb dX4_close_127 (lv_at hl 4 rfl) ?_
                    refine kc_l (va_runV (As := [.int (nI s9), .int (nI (ne r1)), .int (nI q1)]) (rest := [.long r117, .int (nI q1), .int (nI p1), .int (nI s9), .ref md]) ⟨hx, hb, hml, hown, hts⟩ (c_X4_sumOf l G B (mu (mu μ ab (.inl (G.2 0, 3744, .inr (.inl f1)))) av (.inl (G.2 2, 26, .inl v1))) md ab av c1 c2 c3 c4 c5 c6 c7 c8 c9 fl st f1 v1 s9 (ne r1) q1 ((mu_n ne0_2).trans ((mu_n ne0_1).trans (hm))) ((mu_n ((mp_ne hab hav (by simp)))).trans (mu_s _ _ _)) (mu_s _ _ _) (by omega) (by omega) (by omega)) (cwV 3 hts gX4_close_X4_sumOf rfl rfl rfl (by decide +kernel) ⟨Nat.le_of_ble_eq_true rfl, Nat.le_of_ble_eq_true rfl⟩) ⟨KW.blind, hP.recv hK rfl ((mu_n ne0_2).trans ((mu_n ne0_1).trans (hm))), fun U9 hU9 hW9 => ⟨rfl, KW.pre hBs hKK hS hP U9 hU9 hW9⟩⟩ rfl rfl hl.1 rfl (lv_room (Nat.le_of_ble_eq_true rfl)) dX4_close_129 ⟨(Nat.le_of_ble_eq_true rfl), (Nat.le_of_ble_eq_true rfl)⟩) hS (fun r129 m129 H locs hq9 hP hz9 hS => ?_)
                    obtain ⟨he9, hr129⟩ := hq9
                    rw [he9] at hP
                    refine kc_l (va_runS (As := [.long r117, .long r129]) (rest := [.int (nI q1), .int (nI p1), .int (nI s9), .ref md]) ⟨hx, hb, hml, hown, hts⟩ (c_X4_sum l G B (mu (mu μ ab (.inl (G.2 0, 3744, .inr (.inl f1)))) av (.inl (G.2 2, 26, .inl v1))) r117 r129) (va_cwS 2 hts gX4_close_X4_sum rfl rfl rfl (by decide +kernel) ⟨Nat.le_of_ble_eq_true rfl, Nat.le_of_ble_eq_true rfl⟩) ⟨KW.blind, fun U9 hU9 hW9 => ⟨rfl, KW.pre hBs hKK hS hP U9 hU9 hW9⟩⟩ rfl rfl hl.1 rfl (lv_room (Nat.le_of_ble_eq_true rfl)) dX4_close_132 ⟨(Nat.le_of_ble_eq_true rfl), (Nat.le_of_ble_eq_true rfl)⟩) hS (fun r132 m132 H locs hq9 hP hz9 hS => ?_)
                    obtain ⟨he9, hr132⟩ := hq9
                    rw [he9] at hP
                    refine kc_i (va_runV (As := [.int (nI s9), .int (nI p1), .int (nI q1), .long r132]) (rest := []) ⟨hx, hb, hml, hown, hts⟩ (m_X4_lessen l G B (mu (mu μ ab (.inl (G.2 0, 3744, .inr (.inl f1)))) av (.inl (G.2 2, 26, .inl v1))) md ab av c1 c2 c3 c4 c5 c6 c7 c8 c9 fl st f1 v1 s9 p1 q1 r132 ((mu_n ne0_2).trans ((mu_n ne0_1).trans (hm))) ((mu_n ((mp_ne hab hav (by simp)))).trans (mu_s _ _ _)) (mu_s _ _ _) (by omega) (by omega) (by omega) hsy1 hvb1) (cwV 4 hts gX4_close_X4_lessen rfl rfl rfl (by decide +kernel) ⟨Nat.le_of_ble_eq_true rfl, Nat.le_of_ble_eq_true rfl⟩) ⟨KW.blind, hP.recv hK rfl ((mu_n ne0_2).trans ((mu_n ne0_1).trans (hm))), fun U9 hU9 hW9 => ⟨rfl, KW.pre hBs hKK hS hP U9 hU9 hW9⟩⟩ rfl rfl hl.1 rfl (lv_room (Nat.le_of_ble_eq_true rfl)) dX4_close_135 ⟨(Nat.le_of_ble_eq_true rfl), (Nat.le_of_ble_eq_true rfl)⟩) hS (fun r135 m135 H locs hq9 hP hz9 hS => ?_)
                    obtain ⟨b135, f135, v135, hb9, hb135, he135, ⟨hsy135, hvb135⟩, hle135⟩ := hq9
                    subst hb9
                    rw [he135] at hP
                    have hP : mw G.1 vwCl B (mu (mu μ ab (.inl (G.2 0, 3744, .inr (.inl f135)))) av (.inl (G.2 2, 26, .inl v135))) _ := mw_eq ((congrArg (fun z => mu z av (.inl (G.2 2, 26, .inl v135))) ((mu_c _ _ ((mp_ne hav hab (by simp)))).trans (congrArg (fun z => mu z av (.inl (G.2 2, 26, .inl v1))) (mu_u _ _ _ _)))).trans (mu_u _ _ _ _)) hP
                    refine lv_istore (lv' := [(7, .int (nI b135)), (0, .ref md), (1, .int (nI s9)), (2, .int (nI m1)), (3, .int (nI p1)), (4, .int (nI q1)), (6, .int (nI r1))]) hx hb dX4_close_138 hl (by decide) rfl (fun ls hl => ?_)
                    refine lv_iload_n hx hb dX4_close_140 rfl (lv_at hl 3 rfl) ?_
                    refine lv_if_ne (tgt := 149) hx hb dX4_close_141 (by decide) (fun hc141 => ?_) (fun hc141 => ?_)
                    · refine lv_iconst (v := nI 1) hx hb dX4_close_149 (by decide) ?_
                      refine lv_goto (tgt := 154) hx hb dX4_close_150 (by decide) ?_
                      refine lv_istore_n (lv' := [(2, .int (nI 1)), (7, .int (nI b135)), (0, .ref md), (1, .int (nI s9)), (3, .int (nI p1)), (4, .int (nI q1)), (6, .int (nI r1))]) hx hb dX4_close_154 rfl hl (by decide) rfl (fun ls hl => ?_)
                      refine lv_iinc (v := nI (r1 + 1)) (lv' := [(6, .int (nI (r1 + 1))), (2, .int (nI 1)), (7, .int (nI b135)), (0, .ref md), (1, .int (nI s9)), (3, .int (nI p1)), (4, .int (nI q1))]) hx hb dX4_close_155 hl (k := 6) rfl (nI_add _ _) (by decide) rfl (fun ls hl => ?_)
                      refine lv_goto (tgt := 100) hx hb dX4_close_158 (by decide) ?_
                      exact ih100 (r1 + 1) 1 f135 v135 (by omega) (by omega) (by omega) (by omega) (hsy135) (hvb135) (by first | omega | (have h1 := nb_1 hm1 hc83; omega) | (have h1 := nb_1 hb69 hc72; omega) | (have h1 := nb_1 hm1 hc141; omega) | (have h1 := nb_1 hb135 hc146; omega) | (have h1 := nb_0 hm1 hc83; omega) | (have h1 := nb_0 hm1 hc141; omega)) _ _ hP hS ls (lv_sub hl [3, 4, 1, 5, 6, 0] rfl)
                    · refine lv_iload hx hb dX4_close_144 (lv_at hl 0 rfl) ?_
                      refine lv_if_eq (tgt := 153) hx hb dX4_close_146 (by decide) (fun hc146 => ?_) (fun hc146 => ?_)
                      · refine lv_iconst (v := nI 0) hx hb dX4_close_153 (by decide) ?_
                        refine lv_istore_n (lv' := [(2, .int (nI 0)), (7, .int (nI b135)), (0, .ref md), (1, .int (nI s9)), (3, .int (nI p1)), (4, .int (nI q1)), (6, .int (nI r1))]) hx hb dX4_close_154 rfl hl (by decide) rfl (fun ls hl => ?_)
                        refine lv_iinc (v := nI (r1 + 1)) (lv' := [(6, .int (nI (r1 + 1))), (2, .int (nI 0)), (7, .int (nI b135)), (0, .ref md), (1, .int (nI s9)), (3, .int (nI p1)), (4, .int (nI q1))]) hx hb dX4_close_155 hl (k := 6) rfl (nI_add _ _) (by decide) rfl (fun ls hl => ?_)
                        refine lv_goto (tgt := 100) hx hb dX4_close_158 (by decide) ?_
                        exact ih100 (r1 + 1) 0 f135 v135 (by omega) (by omega) (by omega) (by omega) (hsy135) (hvb135) (by first | omega | (have h1 := nb_1 hm1 hc83; omega) | (have h1 := nb_1 hb69 hc72; omega) | (have h1 := nb_1 hm1 hc141; omega) | (have h1 := nb_1 hb135 hc146; omega) | (have h1 := nb_0 hm1 hc83; omega) | (have h1 := nb_0 hm1 hc141; omega)) _ _ hP hS ls (lv_sub hl [3, 4, 1, 5, 6, 0] rfl)
                      · refine lv_iconst (v := nI 1) hx hb dX4_close_149 (by decide) ?_
                        refine lv_goto (tgt := 154) hx hb dX4_close_150 (by decide) ?_
                        refine lv_istore_n (lv' := [(2, .int (nI 1)), (7, .int (nI b135)), (0, .ref md), (1, .int (nI s9)), (3, .int (nI p1)), (4, .int (nI q1)), (6, .int (nI r1))]) hx hb dX4_close_154 rfl hl (by decide) rfl (fun ls hl => ?_)
                        refine lv_iinc (v := nI (r1 + 1)) (lv' := [(6, .int (nI (r1 + 1))), (2, .int (nI 1)), (7, .int (nI b135)), (0, .ref md), (1, .int (nI s9)), (3, .int (nI p1)), (4, .int (nI q1))]) hx hb dX4_close_155 hl (k := 6) rfl (nI_add _ _) (by decide) rfl (fun ls hl => ?_)
                        refine lv_goto (tgt := 100) hx hb dX4_close_158 (by decide) ?_
                        exact ih100 (r1 + 1) 1 f135 v135 (by omega) (by omega) (by omega) (by omega) (hsy135) (hvb135) (by first | omega | (have h1 := nb_1 hm1 hc83; omega) | (have h1 := nb_1 hb69 hc72; omega) | (have h1 := nb_1 hm1 hc141; omega) | (have h1 := nb_1 hb135 hc146; omega) | (have h1 := nb_0 hm1 hc83; omega) | (have h1 := nb_0 hm1 hc141; omega)) _ _ hP hS ls (lv_sub hl [3, 4, 1, 5, 6, 0] rfl)
              refine lv_iload hx hb dX4_close_32 (lv_at hl 4 rfl) ?_
              refine lv_bipush (v := nI 12) hx hb dX4_close_34 (by decide) ?_
              refine nv_icmp_ge (tgt := 167) hx hb (by omega) (by omega) dX4_close_36 (by decide) (fun hc36 => ?_) (fun hc36 => ?_)
              · refine lv_iinc (v := nI (p1 + 1)) (lv' := [(3, .int (nI (p1 + 1))), (0, .ref md), (1, .int (nI s9)), (2, .int (nI m1)), (4, .int (nI q1))]) hx hb dX4_close_167 hl (k := 3) rfl (nI_add _ _) (by decide) rfl (fun ls hl => ?_)
                refine lv_goto (tgt := 23) hx hb dX4_close_170 (by decide) ?_
                exact ih23 (p1 + 1) m1 f1 v1 (by omega) (by omega) (by first | exact hm01 | exact nb_1 hm0 hc16) (by omega) (hsy1) (hvb1) (by first | omega | (have h1 := nb_1 hm1 hc83; omega) | (have h1 := nb_1 hb69 hc72; omega) | (have h1 := nb_1 hm1 hc141; omega) | (have h1 := nb_1 hb135 hc146; omega) | (have h1 := nb_0 hm1 hc83; omega) | (have h1 := nb_0 hm1 hc141; omega)) _ _ hP hS ls (lv_sub hl [1, 2, 3, 0] rfl)
              · refine lv_iload_n hx hb dX4_close_39 rfl (lv_at hl 3 rfl) ?_
                refine lv_iload hx hb dX4_close_40 (lv_at hl 4 rfl) ?_
                refine nv_icmp_eq (tgt := 79) hx hb (by omega) (by omega) dX4_close_42 (by decide) (fun hc42 => ?_) (fun hc42 => ?_)
                · refine lv_iconst (v := nI 0) hx hb dX4_close_79 (by decide) ?_
                  refine lv_istore (lv' := [(5, .int (nI 0)), (0, .ref md), (1, .int (nI s9)), (2, .int (nI m1)), (3, .int (nI p1)), (4, .int (nI q1))]) hx hb dX4_close_80 hl (by decide) rfl (fun ls hl => ?_)
                  refine lv_iload_n hx hb dX4_close_82 rfl (lv_at hl 3 rfl) ?_
                  refine lv_if_ne (tgt := 91) hx hb dX4_close_83 (by decide) (fun hc83 => ?_) (fun hc83 => ?_)
                  · refine lv_iconst (v := nI 1) hx hb dX4_close_91 (by decide) ?_
                    refine lv_goto (tgt := 96) hx hb dX4_close_92 (by decide) ?_
                    refine lv_istore_n (lv' := [(2, .int (nI 1)), (5, .int (nI 0)), (0, .ref md), (1, .int (nI s9)), (3, .int (nI p1)), (4, .int (nI q1))]) hx hb dX4_close_96 rfl hl (by decide) rfl (fun ls hl => ?_)
                    refine lv_iconst (v := nI 0) hx hb dX4_close_97 (by decide) ?_
                    refine lv_istore (lv' := [(6, .int (nI 0)), (2, .int (nI 1)), (5, .int (nI 0)), (0, .ref md), (1, .int (nI s9)), (3, .int (nI p1)), (4, .int (nI q1))]) hx hb dX4_close_98 hl (by decide) rfl (fun ls hl => ?_)
                    exact L100 _ 0 1 f1 v1 (Nat.lt_succ_self _) (by omega) (by omega) (by omega) (hsy1) (hvb1) (by first | omega | (have h1 := nb_1 hm1 hc83; omega) | (have h1 := nb_1 hb69 hc72; omega) | (have h1 := nb_1 hm1 hc141; omega) | (have h1 := nb_1 hb135 hc146; omega) | (have h1 := nb_0 hm1 hc83; omega) | (have h1 := nb_0 hm1 hc141; omega)) _ _ hP hS ls (lv_sub hl [3, 4, 1, 5, 6, 0] rfl)
                  · refine lv_iload hx hb dX4_close_86 (lv_at hl 0 rfl) ?_
                    refine lv_if_eq (tgt := 95) hx hb dX4_close_88 (by decide) (fun hc88 => ?_) (fun hc88 => ?_)
                    · refine lv_iconst (v := nI 0) hx hb dX4_close_95 (by decide) ?_
                      refine lv_istore_n (lv' := [(2, .int (nI 0)), (5, .int (nI 0)), (0, .ref md), (1, .int (nI s9)), (3, .int (nI p1)), (4, .int (nI q1))]) hx hb dX4_close_96 rfl hl (by decide) rfl (fun ls hl => ?_)
                      refine lv_iconst (v := nI 0) hx hb dX4_close_97 (by decide) ?_
                      refine lv_istore (lv' := [(6, .int (nI 0)), (2, .int (nI 0)), (5, .int (nI 0)), (0, .ref md), (1, .int (nI s9)), (3, .int (nI p1)), (4, .int (nI q1))]) hx hb dX4_close_98 hl (by decide) rfl (fun ls hl => ?_)
                      exact L100 _ 0 0 f1 v1 (Nat.lt_succ_self _) (by omega) (by omega) (by omega) (hsy1) (hvb1) (by first | omega | (have h1 := nb_1 hm1 hc83; omega) | (have h1 := nb_1 hb69 hc72; omega) | (have h1 := nb_1 hm1 hc141; omega) | (have h1 := nb_1 hb135 hc146; omega) | (have h1 := nb_0 hm1 hc83; omega) | (have h1 := nb_0 hm1 hc141; omega)) _ _ hP hS ls (lv_sub hl [3, 4, 1, 5, 6, 0] rfl)
                    · exact absurd rfl hc88
                · refine lv_aload_n hx hb dX4_close_45 rfl (lv_at hl 0 rfl) ?_
                  refine lv_iload_n hx hb dX4_close_46 rfl (lv_at hl 1 rfl) ?_
                  refine lv_iload_n hx hb dX4_close_47 rfl (lv_at hl 3 rfl) ?_
                  refine lv_iload hx hb dX4_close_48 (lv_at hl 4 rfl) ?_
                  refine lv_aload_n hx hb dX4_close_50 rfl (lv_at hl 0 rfl) ?_
                  refine lv_iload_n hx hb dX4_close_51 rfl (lv_at hl 1 rfl) ?_
                  refine lv_iload_n hx hb dX4_close_52 rfl (lv_at hl 3 rfl) ?_
                  refine lv_iload_n hx hb dX4_close_53 rfl (lv_at hl 3 rfl) ?_
                  refine kc_l (va_runV (As := [.int (nI s9), .int (nI p1), .int (nI p1)]) (rest := [.int (nI q1), .int (nI p1), .int (nI s9), .ref md]) ⟨hx, hb, hml, hown, hts⟩ (c_X4_get l G B (mu (mu μ ab (.inl (G.2 0, 3744, .inr (.inl f1)))) av (.inl (G.2 2, 26, .inl v1))) md ab av c1 c2 c3 c4 c5 c6 c7 c8 c9 fl st f1 v1 s9 p1 p1 ((mu_n ne0_2).trans ((mu_n ne0_1).trans (hm))) ((mu_n ((mp_ne hab hav (by simp)))).trans (mu_s _ _ _)) (mu_s _ _ _) (by omega) (by omega) (by omega)) (cwV 3 hts gX4_close_X4_get rfl rfl rfl (by decide +kernel) ⟨Nat.le_of_ble_eq_true rfl, Nat.le_of_ble_eq_true rfl⟩) ⟨KW.blind, hP.recv hK rfl ((mu_n ne0_2).trans ((mu_n ne0_1).trans (hm))), fun U9 hU9 hW9 => ⟨rfl, KW.pre hBs hKK hS hP U9 hU9 hW9⟩⟩ rfl rfl hl.1 rfl (lv_room (Nat.le_of_ble_eq_true rfl)) dX4_close_54 ⟨(Nat.le_of_ble_eq_true rfl), (Nat.le_of_ble_eq_true rfl)⟩) hS (fun r54 m54 H locs hq9 hP hz9 hS => ?_)
                  obtain ⟨he9, hr54⟩ := hq9
                  rw [he9] at hP
                  refine lv_aload_n hx hb dX4_close_57 rfl (lv_at hl 0 rfl) ?_
                  refine lv_iload_n hx hb dX4_close_58 rfl (lv_at hl 1 rfl) ?_
                  refine lv_iload hx hb dX4_close_59 (lv_at hl 4 rfl) ?_
                  refine lv_iload hx hb dX4_close_61 (lv_at hl 4 rfl) ?_
                  refine kc_l (va_runV (As := [.int (nI s9), .int (nI q1), .int (nI q1)]) (rest := [.long r54, .int (nI q1), .int (nI p1), .int (nI s9), .ref md]) ⟨hx, hb, hml, hown, hts⟩ (c_X4_get l G B (mu (mu μ ab (.inl (G.2 0, 3744, .inr (.inl f1)))) av (.inl (G.2 2, 26, .inl v1))) md ab av c1 c2 c3 c4 c5 c6 c7 c8 c9 fl st f1 v1 s9 q1 q1 ((mu_n ne0_2).trans ((mu_n ne0_1).trans (hm))) ((mu_n ((mp_ne hab hav (by simp)))).trans (mu_s _ _ _)) (mu_s _ _ _) (by omega) (by omega) (by omega)) (cwV 3 hts gX4_close_X4_get rfl rfl rfl (by decide +kernel) ⟨Nat.le_of_ble_eq_true rfl, Nat.le_of_ble_eq_true rfl⟩) ⟨KW.blind, hP.recv hK rfl ((mu_n ne0_2).trans ((mu_n ne0_1).trans (hm))), fun U9 hU9 hW9 => ⟨rfl, KW.pre hBs hKK hS hP U9 hU9 hW9⟩⟩ rfl rfl hl.1 rfl (lv_room (Nat.le_of_ble_eq_true rfl)) dX4_close_63 ⟨(Nat.le_of_ble_eq_true rfl), (Nat.le_of_ble_eq_true rfl)⟩) hS (fun r63 m63 H locs hq9 hP hz9 hS => ?_)
                  obtain ⟨he9, hr63⟩ := hq9
                  rw [he9] at hP
                  refine kc_l (va_runS (As := [.long r54, .long r63]) (rest := [.int (nI q1), .int (nI p1), .int (nI s9), .ref md]) ⟨hx, hb, hml, hown, hts⟩ (c_X4_sum l G B (mu (mu μ ab (.inl (G.2 0, 3744, .inr (.inl f1)))) av (.inl (G.2 2, 26, .inl v1))) r54 r63) (va_cwS 2 hts gX4_close_X4_sum rfl rfl rfl (by decide +kernel) ⟨Nat.le_of_ble_eq_true rfl, Nat.le_of_ble_eq_true rfl⟩) ⟨KW.blind, fun U9 hU9 hW9 => ⟨rfl, KW.pre hBs hKK hS hP U9 hU9 hW9⟩⟩ rfl rfl hl.1 rfl (lv_room (Nat.le_of_ble_eq_true rfl)) dX4_close_66 ⟨(Nat.le_of_ble_eq_true rfl), (Nat.le_of_ble_eq_true rfl)⟩) hS (fun r66 m66 H locs hq9 hP hz9 hS => ?_)
                  obtain ⟨he9, hr66⟩ := hq9
                  rw [he9] at hP
                  refine kc_i (va_runV (As := [.int (nI s9), .int (nI p1), .int (nI q1), .long r66]) (rest := []) ⟨hx, hb, hml, hown, hts⟩ (m_X4_lessen l G B (mu (mu μ ab (.inl (G.2 0, 3744, .inr (.inl f1)))) av (.inl (G.2 2, 26, .inl v1))) md ab av c1 c2 c3 c4 c5 c6 c7 c8 c9 fl st f1 v1 s9 p1 q1 r66 ((mu_n ne0_2).trans ((mu_n ne0_1).trans (hm))) ((mu_n ((mp_ne hab hav (by simp)))).trans (mu_s _ _ _)) (mu_s _ _ _) (by omega) (by omega) (by omega) hsy1 hvb1) (cwV 4 hts gX4_close_X4_lessen rfl rfl rfl (by decide +kernel) ⟨Nat.le_of_ble_eq_true rfl, Nat.le_of_ble_eq_true rfl⟩) ⟨KW.blind, hP.recv hK rfl ((mu_n ne0_2).trans ((mu_n ne0_1).trans (hm))), fun U9 hU9 hW9 => ⟨rfl, KW.pre hBs hKK hS hP U9 hU9 hW9⟩⟩ rfl rfl hl.1 rfl (lv_room (Nat.le_of_ble_eq_true rfl)) dX4_close_69 ⟨(Nat.le_of_ble_eq_true rfl), (Nat.le_of_ble_eq_true rfl)⟩) hS (fun r69 m69 H locs hq9 hP hz9 hS => ?_)
                  obtain ⟨b69, f69, v69, hb9, hb69, he69, ⟨hsy69, hvb69⟩, hle69⟩ := hq9
                  subst hb9
                  rw [he69] at hP
                  have hP : mw G.1 vwCl B (mu (mu μ ab (.inl (G.2 0, 3744, .inr (.inl f69)))) av (.inl (G.2 2, 26, .inl v69))) _ := mw_eq ((congrArg (fun z => mu z av (.inl (G.2 2, 26, .inl v69))) ((mu_c _ _ ((mp_ne hav hab (by simp)))).trans (congrArg (fun z => mu z av (.inl (G.2 2, 26, .inl v1))) (mu_u _ _ _ _)))).trans (mu_u _ _ _ _)) hP
                  refine lv_if_eq (tgt := 79) hx hb dX4_close_72 (by decide) (fun hc72 => ?_) (fun hc72 => ?_)
                  · refine lv_iconst (v := nI 0) hx hb dX4_close_79 (by decide) ?_
                    refine lv_istore (lv' := [(5, .int (nI 0)), (0, .ref md), (1, .int (nI s9)), (2, .int (nI m1)), (3, .int (nI p1)), (4, .int (nI q1))]) hx hb dX4_close_80 hl (by decide) rfl (fun ls hl => ?_)
                    refine lv_iload_n hx hb dX4_close_82 rfl (lv_at hl 3 rfl) ?_
                    refine lv_if_ne (tgt := 91) hx hb dX4_close_83 (by decide) (fun hc83 => ?_) (fun hc83 => ?_)
                    · refine lv_iconst (v := nI 1) hx hb dX4_close_91 (by decide) ?_
                      refine lv_goto (tgt := 96) hx hb dX4_close_92 (by decide) ?_
                      refine lv_istore_n (lv' := [(2, .int (nI 1)), (5, .int (nI 0)), (0, .ref md), (1, .int (nI s9)), (3, .int (nI p1)), (4, .int (nI q1))]) hx hb dX4_close_96 rfl hl (by decide) rfl (fun ls hl => ?_)
                      refine lv_iconst (v := nI 0) hx hb dX4_close_97 (by decide) ?_
                      refine lv_istore (lv' := [(6, .int (nI 0)), (2, .int (nI 1)), (5, .int (nI 0)), (0, .ref md), (1, .int (nI s9)), (3, .int (nI p1)), (4, .int (nI q1))]) hx hb dX4_close_98 hl (by decide) rfl (fun ls hl => ?_)
                      exact L100 _ 0 1 f69 v69 (Nat.lt_succ_self _) (by omega) (by omega) (by omega) (hsy69) (hvb69) (by first | omega | (have h1 := nb_1 hm1 hc83; omega) | (have h1 := nb_1 hb69 hc72; omega) | (have h1 := nb_1 hm1 hc141; omega) | (have h1 := nb_1 hb135 hc146; omega) | (have h1 := nb_0 hm1 hc83; omega) | (have h1 := nb_0 hm1 hc141; omega)) _ _ hP hS ls (lv_sub hl [3, 4, 1, 5, 6, 0] rfl)
                    · refine lv_iload hx hb dX4_close_86 (lv_at hl 0 rfl) ?_
                      refine lv_if_eq (tgt := 95) hx hb dX4_close_88 (by decide) (fun hc88 => ?_) (fun hc88 => ?_)
                      · refine lv_iconst (v := nI 0) hx hb dX4_close_95 (by decide) ?_
                        refine lv_istore_n (lv' := [(2, .int (nI 0)), (5, .int (nI 0)), (0, .ref md), (1, .int (nI s9)), (3, .int (nI p1)), (4, .int (nI q1))]) hx hb dX4_close_96 rfl hl (by decide) rfl (fun ls hl => ?_)
                        refine lv_iconst (v := nI 0) hx hb dX4_close_97 (by decide) ?_
                        refine lv_istore (lv' := [(6, .int (nI 0)), (2, .int (nI 0)), (5, .int (nI 0)), (0, .ref md), (1, .int (nI s9)), (3, .int (nI p1)), (4, .int (nI q1))]) hx hb dX4_close_98 hl (by decide) rfl (fun ls hl => ?_)
                        exact L100 _ 0 0 f69 v69 (Nat.lt_succ_self _) (by omega) (by omega) (by omega) (hsy69) (hvb69) (by first | omega | (have h1 := nb_1 hm1 hc83; omega) | (have h1 := nb_1 hb69 hc72; omega) | (have h1 := nb_1 hm1 hc141; omega) | (have h1 := nb_1 hb135 hc146; omega) | (have h1 := nb_0 hm1 hc83; omega) | (have h1 := nb_0 hm1 hc141; omega)) _ _ hP hS ls (lv_sub hl [3, 4, 1, 5, 6, 0] rfl)
                      · exact absurd rfl hc88
                  · refine lv_iconst (v := nI 1) hx hb dX4_close_75 (by decide) ?_
                    refine lv_goto (tgt := 80) hx hb dX4_close_76 (by decide) ?_
                    refine lv_istore (lv' := [(5, .int (nI 1)), (0, .ref md), (1, .int (nI s9)), (2, .int (nI m1)), (3, .int (nI p1)), (4, .int (nI q1))]) hx hb dX4_close_80 hl (by decide) rfl (fun ls hl => ?_)
                    refine lv_iload_n hx hb dX4_close_82 rfl (lv_at hl 3 rfl) ?_
                    refine lv_if_ne (tgt := 91) hx hb dX4_close_83 (by decide) (fun hc83 => ?_) (fun hc83 => ?_)
                    · refine lv_iconst (v := nI 1) hx hb dX4_close_91 (by decide) ?_
                      refine lv_goto (tgt := 96) hx hb dX4_close_92 (by decide) ?_
                      refine lv_istore_n (lv' := [(2, .int (nI 1)), (5, .int (nI 1)), (0, .ref md), (1, .int (nI s9)), (3, .int (nI p1)), (4, .int (nI q1))]) hx hb dX4_close_96 rfl hl (by decide) rfl (fun ls hl => ?_)
                      refine lv_iconst (v := nI 0) hx hb dX4_close_97 (by decide) ?_
                      refine lv_istore (lv' := [(6, .int (nI 0)), (2, .int (nI 1)), (5, .int (nI 1)), (0, .ref md), (1, .int (nI s9)), (3, .int (nI p1)), (4, .int (nI q1))]) hx hb dX4_close_98 hl (by decide) rfl (fun ls hl => ?_)
                      exact L100 _ 0 1 f69 v69 (Nat.lt_succ_self _) (by omega) (by omega) (by omega) (hsy69) (hvb69) (by first | omega | (have h1 := nb_1 hm1 hc83; omega) | (have h1 := nb_1 hb69 hc72; omega) | (have h1 := nb_1 hm1 hc141; omega) | (have h1 := nb_1 hb135 hc146; omega) | (have h1 := nb_0 hm1 hc83; omega) | (have h1 := nb_0 hm1 hc141; omega)) _ _ hP hS ls (lv_sub hl [3, 4, 1, 5, 6, 0] rfl)
                    · refine lv_iload hx hb dX4_close_86 (lv_at hl 0 rfl) ?_
                      refine lv_if_eq (tgt := 95) hx hb dX4_close_88 (by decide) (fun hc88 => ?_) (fun hc88 => ?_)
                      · exact absurd hc88 (by decide)
                      · refine lv_iconst (v := nI 1) hx hb dX4_close_91 (by decide) ?_
                        refine lv_goto (tgt := 96) hx hb dX4_close_92 (by decide) ?_
                        refine lv_istore_n (lv' := [(2, .int (nI 1)), (5, .int (nI 1)), (0, .ref md), (1, .int (nI s9)), (3, .int (nI p1)), (4, .int (nI q1))]) hx hb dX4_close_96 rfl hl (by decide) rfl (fun ls hl => ?_)
                        refine lv_iconst (v := nI 0) hx hb dX4_close_97 (by decide) ?_
                        refine lv_istore (lv' := [(6, .int (nI 0)), (2, .int (nI 1)), (5, .int (nI 1)), (0, .ref md), (1, .int (nI s9)), (3, .int (nI p1)), (4, .int (nI q1))]) hx hb dX4_close_98 hl (by decide) rfl (fun ls hl => ?_)
                        exact L100 _ 0 1 f69 v69 (Nat.lt_succ_self _) (by omega) (by omega) (by omega) (hsy69) (hvb69) (by first | omega | (have h1 := nb_1 hm1 hc83; omega) | (have h1 := nb_1 hb69 hc72; omega) | (have h1 := nb_1 hm1 hc141; omega) | (have h1 := nb_1 hb135 hc146; omega) | (have h1 := nb_0 hm1 hc83; omega) | (have h1 := nb_0 hm1 hc141; omega)) _ _ hP hS ls (lv_sub hl [3, 4, 1, 5, 6, 0] rfl)
          refine lv_iload_n hx hb dX4_close_23 rfl (lv_at hl 3 rfl) ?_
          refine lv_bipush (v := nI 12) hx hb dX4_close_24 (by decide) ?_
          refine nv_icmp_ge (tgt := 173) hx hb (by omega) (by omega) dX4_close_26 (by decide) (fun hc26 => ?_) (fun hc26 => ?_)
          · refine lv_iload_n hx hb dX4_close_173 rfl (lv_at hl 2 rfl) ?_
            refine lv_if_eq (tgt := 190) hx hb dX4_close_174 (by decide) (fun hc174 => ?_) (fun hc174 => ?_)
            · refine lv_iconst (v := nI 0) hx hb dX4_close_190 (by decide) ?_
              refine lv_istore_n (lv' := [(2, .int (nI 0)), (0, .ref md), (1, .int (nI s9)), (3, .int (nI p1))]) hx hb dX4_close_191 rfl hl (by decide) rfl (fun ls hl => ?_)
              refine lv_goto (tgt := 15) hx hb dX4_close_192 (by decide) ?_
              exact ih15 0 f1 v1 (by first | (have h2 := nb_1 hm1 hc174; omega) | omega) (by omega) (hsy1) (hvb1) _ _ hP hS ls (lv_sub hl [1, 2, 0] rfl)
            · refine lv_aload_n hx hb dX4_close_177 rfl (lv_at hl 0 rfl) ?_
              refine mw_get (C := RX4) (T := TX4) (N := 13) hx hb hts in_X4_close_X4 hown hK hP ((mu_n ne0_2).trans ((mu_n ne0_1).trans (hm))) rfl 2 (by decide) (hts (.fieldLink RX4 13 "OctagonDeskModel" "isVoid" "[Z") (by decide +kernel)) (fun _ h9 => h9) rfl dX4_close_178 ?_
              refine lv_iload_n hx hb dX4_close_181 rfl (lv_at hl 1 rfl) ?_
              have hvs := hvb1 s9
              refine mw_zald hx hb hK hP 2 (mu_s _ _ _) rfl (by omega) (by omega) dX4_close_182 ?_
              refine lv_if_ne (tgt := 190) hx hb dX4_close_183 (by decide) (fun hc183 => ?_) (fun hc183 => ?_)
              · refine lv_iconst (v := nI 0) hx hb dX4_close_190 (by decide) ?_
                refine lv_istore_n (lv' := [(2, .int (nI 0)), (0, .ref md), (1, .int (nI s9)), (3, .int (nI p1))]) hx hb dX4_close_191 rfl hl (by decide) rfl (fun ls hl => ?_)
                refine lv_goto (tgt := 15) hx hb dX4_close_192 (by decide) ?_
                exact ih15 0 f1 v1 (by first | (have h2 := nb_1 hm1 hc174; omega) | omega) (by omega) (hsy1) (hvb1) _ _ hP hS ls (lv_sub hl [1, 2, 0] rfl)
              · refine lv_iconst (v := nI 1) hx hb dX4_close_186 (by decide) ?_
                refine lv_goto (tgt := 191) hx hb dX4_close_187 (by decide) ?_
                refine lv_istore_n (lv' := [(2, .int (nI 1)), (0, .ref md), (1, .int (nI s9)), (3, .int (nI p1))]) hx hb dX4_close_191 rfl hl (by decide) rfl (fun ls hl => ?_)
                refine lv_goto (tgt := 15) hx hb dX4_close_192 (by decide) ?_
                exact ih15 1 f1 v1 (by first | (have h2 := nb_1 hm1 hc174; omega) | omega) (by omega) (hsy1) (hvb1) _ _ hP hS ls (lv_sub hl [1, 2, 0] rfl)
          · refine lv_iconst (v := nI 0) hx hb dX4_close_29 (by decide) ?_
            refine lv_istore (lv' := [(4, .int (nI 0)), (0, .ref md), (1, .int (nI s9)), (2, .int (nI m1)), (3, .int (nI p1))]) hx hb dX4_close_30 hl (by decide) rfl (fun ls hl => ?_)
            exact L32 _ 0 m1 f1 v1 (Nat.lt_succ_self _) (by omega) (by omega) (by omega) (hsy1) (hvb1) (by first | omega | (have h1 := nb_1 hm1 hc83; omega) | (have h1 := nb_1 hb69 hc72; omega) | (have h1 := nb_1 hm1 hc141; omega) | (have h1 := nb_1 hb135 hc146; omega) | (have h1 := nb_0 hm1 hc83; omega) | (have h1 := nb_0 hm1 hc141; omega)) _ _ hP hS ls (lv_sub hl [1, 2, 3, 4, 0] rfl)
      refine lv_iload_n hx hb dX4_close_15 rfl (lv_at hl 2 rfl) ?_
      refine lv_if_eq (tgt := 195) hx hb dX4_close_16 (by decide) (fun hc16 => ?_) (fun hc16 => ?_)
      · rw [hQ]
        exact W.vret hx hb hr (fun t99 ht99 hW99 => ⟨⟨mu (mu μ ab (.inl (G.2 0, 3744, .inr (.inl f0)))) av (.inl (G.2 2, 26, .inl v0)), rfl, (⟨_, _, rfl, hsy0, hvb0⟩), by show mw _ _ _ _ t99.heap; rw [ht99]; exact hP⟩, hS.F ht99⟩) hS.2.2 dX4_close_195
      · refine lv_iconst (v := nI 0) hx hb dX4_close_19 (by decide) ?_
        refine lv_istore_n (lv' := [(2, .int (nI 0)), (0, .ref md), (1, .int (nI s9))]) hx hb dX4_close_20 rfl hl (by decide) rfl (fun ls hl => ?_)
        refine lv_iconst (v := nI 0) hx hb dX4_close_21 (by decide) ?_
        refine lv_istore_n (lv' := [(3, .int (nI 0)), (2, .int (nI 0)), (0, .ref md), (1, .int (nI s9))]) hx hb dX4_close_22 rfl hl (by decide) rfl (fun ls hl => ?_)
        exact L23 _ 0 0 f0 v0 (Nat.lt_succ_self _) (by omega) (by first | exact hm01 | exact nb_1 hm0 hc16) (by omega) (hsy0) (hvb0) (by first | omega | (have h1 := nb_1 hm1 hc83; omega) | (have h1 := nb_1 hb69 hc72; omega) | (have h1 := nb_1 hm1 hc141; omega) | (have h1 := nb_1 hb135 hc146; omega) | (have h1 := nb_0 hm1 hc83; omega) | (have h1 := nb_0 hm1 hc141; omega)) _ _ hP hS ls (lv_sub hl [2, 3, 1, 0] rfl)
  have hl := lv_entry ([.ref md, .int (nI s9)]) (n := 8) (Nat.le_of_ble_eq_true rfl)
  have he9 : entryFrame m args 8 = entryFrame m ([.ref md, .int (nI s9)] : List Value).toArray 8 := by rw [hargs]
  rw [he9, lg_entry_eq]
  generalize (lg_sl ([.ref md, .int (nI s9)]) ++ List.replicate (8 - (lg_sl ([.ref md, .int (nI s9)])).length) Slot.unset).toArray = ls at hl ⊢
  have hl : lv_has ls 8 [(0, .ref md), (1, .int (nI s9))] := hl
  refine lv_aload_n hx hb dX4_close_0 rfl (lv_at hl 0 rfl) ?_
  refine mw_get (C := RX4) (T := TX4) (N := 13) hx hb hts in_X4_close_X4 hown hK hP ((mu_n ne0_2).trans ((mu_n ne0_1).trans (hm))) rfl 2 (by decide) (hts (.fieldLink RX4 13 "OctagonDeskModel" "isVoid" "[Z") (by decide +kernel)) (fun _ h9 => h9) rfl dX4_close_1 ?_
  refine lv_iload_n hx hb dX4_close_4 rfl (lv_at hl 1 rfl) ?_
  have hvs := hvb s9
  refine mw_zald hx hb hK hP 2 (mu_s _ _ _) rfl (by omega) (by omega) dX4_close_5 ?_
  refine lv_if_ne (tgt := 13) hx hb dX4_close_6 (by decide) (fun hc6 => ?_) (fun hc6 => ?_)
  · refine lv_iconst (v := nI 0) hx hb dX4_close_13 (by decide) ?_
    refine lv_istore_n (lv' := [(2, .int (nI 0)), (0, .ref md), (1, .int (nI s9))]) hx hb dX4_close_14 rfl hl (by decide) rfl (fun ls hl => ?_)
    exact L15 _ 0 f v (Nat.lt_succ_self _) (by omega) (hsy) (hvb) _ _ hP hS ls (lv_sub hl [1, 2, 0] rfl)
  · refine lv_iconst (v := nI 1) hx hb dX4_close_9 (by decide) ?_
    refine lv_goto (tgt := 14) hx hb dX4_close_10 (by decide) ?_
    refine lv_istore_n (lv' := [(2, .int (nI 1)), (0, .ref md), (1, .int (nI s9))]) hx hb dX4_close_14 rfl hl (by decide) rfl (fun ls hl => ?_)
    exact L15 _ 1 f v (Nat.lt_succ_self _) (by omega) (hsy) (hvb) _ _ hP hS ls (lv_sub hl [1, 2, 0] rfl)

abbrev rn_X4_drop : Room := { frames := 1, cells := 0, slots := 0, locals := 25 }
set_option maxHeartbeats 4000000 in
set_option maxRecDepth 100000 in
theorem m_X4_drop (l : Launch) (G : GG) (B : Nat) (μ : mp) (md ab av c1 c2 c3 c4 c5 c6 c7 c8 c9 fl st : Nat) (f : Nat → Int64) (v : Nat → Int32) (s9 i9 : Nat) (hm : μ md = some (.inr (4, [.int (nI fl), .ref ab, .ref av, .int (nI st), .ref c1, .ref c2, .ref c3, .ref c4, .ref c5, .ref c6, .ref c7, .ref c8, .ref c9]))) (hab : μ ab = some (.inl (G.2 0, 3744, .inr (.inl f)))) (hav : μ av = some (.inl (G.2 2, 26, .inl v))) (hs9 : s9 < 26) (hi9 : i9 < 6) (hsy : Sym f) : Met l yX4_drop wsX4_drop rn_X4_drop (va_Pc [.ref md, .int (nI s9), .int (nI i9)] (KW G B μ)) (va_Qv (fun μ2 => ∃ g9 : Nat → Int64, μ2 = mu μ ab (.inl (G.2 0, 3744, .inr (.inl g9))) ∧ Sym g9) (BB G B) (fun q => B ≤ q)) 0 0 (fun q => B ≤ q) := by
  refine Met.ofW (cc := cX4_drop) (maxL := 4) (ret := none) (by decide) rfl ?_
  intro p e s m args below meth c s₁ B9 hml hv
  obtain ⟨hargs, hBs, hP, hKK⟩ := hv
  have hx := B9.exec
  have hb := B9.bytes
  have hr := B9.returns
  have hts := atoms_spec (ws := wsX4_drop) B9.pre
  have hown : s.vm.findClass RX4 = some m.cls := findClass_of_methodNamed B9.named
  have hlocks := B9.notSynchronized
  have hK := hKK.k
  have hS : va_S (fun q => B ≤ q) s.heap s.heap [] := va_S.rf
  obtain ⟨Q, hQ⟩ : ∃ Q, Q = MQ below (va_Qv (fun μ2 => ∃ g9 : Nat → Int64, μ2 = mu μ ab (.inl (G.2 0, 3744, .inr (.inl g9))) ∧ Sym g9) (BB G B) (fun q => B ≤ q)) args s 0 0 (fun q => B ≤ q) := ⟨_, rfl⟩
  rw [← hQ]
  have ne0_1 : md ≠ ab := mp_ne hm hab (by simp)
  have ne0_2 : md ≠ av := mp_ne hm hav (by simp)
  have hP : mw G.1 vwCl B (mu μ ab (.inl (G.2 0, 3744, .inr (.inl f)))) s.heap := mw_eq (mu_i hab).symm hP
  have L2 : ∀ (N2 : Nat) (p1 : Nat) (g1 : Nat → Int64) (hN2 : 12 - p1 < N2) (hp1 : p1 ≤ 12) (hA : Sym g1), ∀ (H : Heap) (locs : List Loc), mw G.1 vwCl B (mu μ ab (.inl (G.2 0, 3744, .inr (.inl g1)))) H → va_S (fun q => B ≤ q) s.heap H locs → ∀ ls : Array Slot, lv_has ls 4 [(0, .ref md), (1, .int (nI s9)), (2, .int (nI i9)), (3, .int (nI p1))] → W p l e rn_X4_drop s m args below meth c H locs 0 0 Q (F0 m 2 ls []) := by
    intro N2
    induction N2 with
    | zero => intro p1 g1 hN2; exact absurd hN2 (Nat.not_lt_zero _)
    | succ N2 ih2 =>
      intro p1 g1 hN2 hp1 hA H locs hP hS ls hl
      refine lv_iload_n hx hb dX4_drop_2 rfl (lv_at hl 3 rfl) ?_
      refine lv_bipush (v := nI 12) hx hb dX4_drop_3 (by decide) ?_
      refine nv_icmp_ge (tgt := 40) hx hb (by omega) (by omega) dX4_drop_5 (by decide) (fun hc5 => ?_) (fun hc5 => ?_)
      · rw [hQ]
        exact W.vret hx hb hr (fun t99 ht99 hW99 => ⟨⟨mu μ ab (.inl (G.2 0, 3744, .inr (.inl g1))), rfl, (⟨_, rfl, hA⟩), by show mw _ _ _ _ t99.heap; rw [ht99]; exact hP⟩, hS.F ht99⟩) hS.2.2 dX4_drop_40
      · refine lv_aload_n hx hb dX4_drop_8 rfl (lv_at hl 0 rfl) ?_
        refine lv_iload_n hx hb dX4_drop_9 rfl (lv_at hl 1 rfl) ?_
        refine lv_iconst (v := nI 2) hx hb dX4_drop_10 (by decide) ?_
        refine lv_iload_n hx hb dX4_drop_11 rfl (lv_at hl 2 rfl) ?_
        refine nv_imul hx hb dX4_drop_12 ?_
        refine lv_iload_n hx hb dX4_drop_13 rfl (lv_at hl 3 rfl) ?_
        refine lv_ldc2 (v := (9223372036854775807)) hx hb hown (hts (.constantLong RX4 45 (9223372036854775807)) (by decide +kernel)) dX4_drop_14 ?_
        refine kc_v (va_runV (As := [.int (nI s9), .int (nI (2 * i9)), .int (nI p1), .long 9223372036854775807]) (rest := []) ⟨hx, hb, hml, hown, hts⟩ (c_X4_set l G B (mu μ ab (.inl (G.2 0, 3744, .inr (.inl g1)))) md ab av c1 c2 c3 c4 c5 c6 c7 c8 c9 fl st g1 v s9 (2 * i9) p1 9223372036854775807 ((mu_n ne0_1).trans (hm)) (mu_s _ _ _) ((mu_n ((mp_ne hav hab (by simp)))).trans (hav)) (by omega) (by omega) (by omega)) (cwV 4 hts gX4_drop_X4_set rfl rfl rfl (by decide +kernel) ⟨Nat.le_of_ble_eq_true rfl, Nat.le_of_ble_eq_true rfl⟩) ⟨KW.blind, hP.recv hK rfl ((mu_n ne0_1).trans (hm)), fun U9 hU9 hW9 => ⟨rfl, KW.pre hBs hKK hS hP U9 hU9 hW9⟩⟩ rfl rfl hl.1 rfl (lv_room (Nat.le_of_ble_eq_true rfl)) dX4_drop_17 ⟨(Nat.le_of_ble_eq_true rfl), (Nat.le_of_ble_eq_true rfl)⟩) hS (fun m17 H locs hq9 hP hz9 hS => ?_)
        rw [hq9] at hP
        have hP : mw G.1 vwCl B (mu μ ab (.inl (G.2 0, 3744, .inr (.inl (stf g1 s9 (2 * i9) p1 9223372036854775807))))) _ := mw_eq (mu_u _ _ _ _) hP
        refine lv_aload_n hx hb dX4_drop_20 rfl (lv_at hl 0 rfl) ?_
        refine lv_iload_n hx hb dX4_drop_21 rfl (lv_at hl 1 rfl) ?_
        refine lv_iconst (v := nI 2) hx hb dX4_drop_22 (by decide) ?_
        refine lv_iload_n hx hb dX4_drop_23 rfl (lv_at hl 2 rfl) ?_
        refine nv_imul hx hb dX4_drop_24 ?_
        refine lv_iconst (v := nI 1) hx hb dX4_drop_25 (by decide) ?_
        refine nv_iadd hx hb dX4_drop_26 ?_
        refine lv_iload_n hx hb dX4_drop_27 rfl (lv_at hl 3 rfl) ?_
        refine lv_ldc2 (v := (9223372036854775807)) hx hb hown (hts (.constantLong RX4 45 (9223372036854775807)) (by decide +kernel)) dX4_drop_28 ?_
        refine kc_v (va_runV (As := [.int (nI s9), .int (nI ((2 * i9) + 1)), .int (nI p1), .long 9223372036854775807]) (rest := []) ⟨hx, hb, hml, hown, hts⟩ (c_X4_set l G B (mu μ ab (.inl (G.2 0, 3744, .inr (.inl (stf g1 s9 (2 * i9) p1 9223372036854775807))))) md ab av c1 c2 c3 c4 c5 c6 c7 c8 c9 fl st (stf g1 s9 (2 * i9) p1 9223372036854775807) v s9 ((2 * i9) + 1) p1 9223372036854775807 ((mu_n ne0_1).trans (hm)) (mu_s _ _ _) ((mu_n ((mp_ne hav hab (by simp)))).trans (hav)) (by omega) (by omega) (by omega)) (cwV 4 hts gX4_drop_X4_set rfl rfl rfl (by decide +kernel) ⟨Nat.le_of_ble_eq_true rfl, Nat.le_of_ble_eq_true rfl⟩) ⟨KW.blind, hP.recv hK rfl ((mu_n ne0_1).trans (hm)), fun U9 hU9 hW9 => ⟨rfl, KW.pre hBs hKK hS hP U9 hU9 hW9⟩⟩ rfl rfl hl.1 rfl (lv_room (Nat.le_of_ble_eq_true rfl)) dX4_drop_31 ⟨(Nat.le_of_ble_eq_true rfl), (Nat.le_of_ble_eq_true rfl)⟩) hS (fun m31 H locs hq9 hP hz9 hS => ?_)
        rw [hq9] at hP
        have hP : mw G.1 vwCl B (mu μ ab (.inl (G.2 0, 3744, .inr (.inl (stf (stf g1 s9 (2 * i9) p1 9223372036854775807) s9 ((2 * i9) + 1) p1 9223372036854775807))))) _ := mw_eq (mu_u _ _ _ _) hP
        refine lv_iinc (v := nI (p1 + 1)) (lv' := [(3, .int (nI (p1 + 1))), (0, .ref md), (1, .int (nI s9)), (2, .int (nI i9))]) hx hb dX4_drop_34 hl (k := 3) rfl (nI_add _ _) (by decide) rfl (fun ls hl => ?_)
        refine lv_goto (tgt := 2) hx hb dX4_drop_37 (by decide) ?_
        exact ih2 (p1 + 1) (stf (stf g1 s9 (2 * i9) p1 9223372036854775807) s9 ((2 * i9) + 1) p1 9223372036854775807) (by omega) (by omega) (((hA.st (by omega) (by omega)).st (by omega) (by omega))) _ _ hP hS ls (lv_sub hl [1, 2, 3, 0] rfl)
  have hl := lv_entry ([.ref md, .int (nI s9), .int (nI i9)]) (n := 4) (Nat.le_of_ble_eq_true rfl)
  have he9 : entryFrame m args 4 = entryFrame m ([.ref md, .int (nI s9), .int (nI i9)] : List Value).toArray 4 := by rw [hargs]
  rw [he9, lg_entry_eq]
  generalize (lg_sl ([.ref md, .int (nI s9), .int (nI i9)]) ++ List.replicate (4 - (lg_sl ([.ref md, .int (nI s9), .int (nI i9)])).length) Slot.unset).toArray = ls at hl ⊢
  have hl : lv_has ls 4 [(0, .ref md), (1, .int (nI s9)), (2, .int (nI i9))] := hl
  refine lv_iconst (v := nI 0) hx hb dX4_drop_0 (by decide) ?_
  refine lv_istore_n (lv' := [(3, .int (nI 0)), (0, .ref md), (1, .int (nI s9)), (2, .int (nI i9))]) hx hb dX4_drop_1 rfl hl (by decide) rfl (fun ls hl => ?_)
  exact L2 _ 0 f (Nat.lt_succ_self _) (by omega) (hsy) _ _ hP hS ls (lv_sub hl [1, 2, 3, 0] rfl)

abbrev rn_X4_shift : Room := { frames := 1, cells := 0, slots := 0, locals := 25 }
set_option maxHeartbeats 4000000 in
set_option maxRecDepth 100000 in
theorem m_X4_shift (l : Launch) (G : GG) (B : Nat) (μ : mp) (md ab av c1 c2 c3 c4 c5 c6 c7 c8 c9 fl st : Nat) (f : Nat → Int64) (v : Nat → Int32) (s9 a9 b9 : Nat) (x9 : Int64) (hm : μ md = some (.inr (4, [.int (nI fl), .ref ab, .ref av, .int (nI st), .ref c1, .ref c2, .ref c3, .ref c4, .ref c5, .ref c6, .ref c7, .ref c8, .ref c9]))) (hab : μ ab = some (.inl (G.2 0, 3744, .inr (.inl f)))) (hav : μ av = some (.inl (G.2 2, 26, .inl v))) (hs9 : s9 < 26) (ha9 : a9 < 6) (hb9 : b9 < 12) (hsy : Sym f) (hvb : VB v) : Met l yX4_shift wsX4_shift rn_X4_shift (va_Pc [.ref md, .int (nI s9), .int (nI a9), .int (nI b9), .long x9] (KW G B μ)) (va_Qv (fun μ2 => ∃ (g9 : Nat → Int64) (w9 : Nat → Int32), μ2 = mu (mu μ ab (.inl (G.2 0, 3744, .inr (.inl g9)))) av (.inl (G.2 2, 26, .inl w9)) ∧ Sym g9 ∧ VB w9) (BB G B) (fun q => B ≤ q)) 0 0 (fun q => B ≤ q) := by
  refine Met.ofW (cc := cX4_shift) (maxL := 10) (ret := none) (by decide) rfl ?_
  intro p e s m args below meth c s₁ B9 hml hv
  obtain ⟨hargs, hBs, hP, hKK⟩ := hv
  have hx := B9.exec
  have hb := B9.bytes
  have hr := B9.returns
  have hts := atoms_spec (ws := wsX4_shift) B9.pre
  have hown : s.vm.findClass RX4 = some m.cls := findClass_of_methodNamed B9.named
  have hlocks := B9.notSynchronized
  have hK := hKK.k
  have hS : va_S (fun q => B ≤ q) s.heap s.heap [] := va_S.rf
  obtain ⟨Q, hQ⟩ : ∃ Q, Q = MQ below (va_Qv (fun μ2 => ∃ (g9 : Nat → Int64) (w9 : Nat → Int32), μ2 = mu (mu μ ab (.inl (G.2 0, 3744, .inr (.inl g9)))) av (.inl (G.2 2, 26, .inl w9)) ∧ Sym g9 ∧ VB w9) (BB G B) (fun q => B ≤ q)) args s 0 0 (fun q => B ≤ q) := ⟨_, rfl⟩
  rw [← hQ]
  have ne0_1 : md ≠ ab := mp_ne hm hab (by simp)
  have ne0_2 : md ≠ av := mp_ne hm hav (by simp)
  have hP : mw G.1 vwCl B (mu (mu μ ab (.inl (G.2 0, 3744, .inr (.inl f)))) av (.inl (G.2 2, 26, .inl v))) s.heap := mw_eq ((congrArg (fun z => mu z av (.inl (G.2 2, 26, .inl v))) (mu_i hab)).trans (mu_i hav)).symm hP
  have L37 : ∀ (N37 : Nat) (q1 : Nat) (w1 : Nat) (g1 : Nat → Int64) (hN37 : 12 - q1 < N37) (hq1 : q1 ≤ 12) (hw1 : w1 < 12) (hA : Sym g1), ∀ (H : Heap) (locs : List Loc), mw G.1 vwCl B (mu (mu μ ab (.inl (G.2 0, 3744, .inr (.inl g1)))) av (.inl (G.2 2, 26, .inl (upd v 24 (v s9))))) H → va_S (fun q => B ≤ q) s.heap H locs → ∀ ls : Array Slot, lv_has ls 10 [(0, .ref md), (1, .int (nI s9)), (4, .long x9), (6, .int (nI (2 * a9))), (7, .int (nI (2 * a9 + 1))), (8, .int (nI w1)), (9, .int (nI q1))] → W p l e rn_X4_shift s m args below meth c H locs 0 0 Q (F0 m 37 ls []) := by
    intro N37
    induction N37 with
    | zero => intro q1 w1 g1 hN37; exact absurd hN37 (Nat.not_lt_zero _)
    | succ N37 ih37 =>
      intro q1 w1 g1 hN37 hq1 hw1 hA H locs hP hS ls hl
      refine lv_iload hx hb dX4_shift_37 (lv_at hl 6 rfl) ?_
      refine lv_bipush (v := nI 12) hx hb dX4_shift_39 (by decide) ?_
      refine nv_icmp_ge (tgt := 116) hx hb (by omega) (by omega) dX4_shift_41 (by decide) (fun hc41 => ?_) (fun hc41 => ?_)
      · refine lv_aload_n hx hb dX4_shift_116 rfl (lv_at hl 0 rfl) ?_
        refine lv_iload_n hx hb dX4_shift_117 rfl (lv_at hl 1 rfl) ?_
        refine lv_iload hx hb dX4_shift_118 (lv_at hl 3 rfl) ?_
        refine lv_iload hx hb dX4_shift_120 (lv_at hl 3 rfl) ?_
        refine lv_aload_n hx hb dX4_shift_122 rfl (lv_at hl 0 rfl) ?_
        refine lv_bipush (v := nI 24) hx hb dX4_shift_123 (by decide) ?_
        refine lv_iload hx hb dX4_shift_125 (lv_at hl 5 rfl) ?_
        refine lv_iload hx hb dX4_shift_127 (lv_at hl 5 rfl) ?_
        refine kc_l (va_runV (As := [.int (nI 24), .int (nI w1), .int (nI w1)]) (rest := [.int (nI (2 * a9)), .int (nI (2 * a9)), .int (nI s9), .ref md]) ⟨hx, hb, hml, hown, hts⟩ (c_X4_get l G B (mu (mu μ ab (.inl (G.2 0, 3744, .inr (.inl g1)))) av (.inl (G.2 2, 26, .inl (upd v 24 (v s9))))) md ab av c1 c2 c3 c4 c5 c6 c7 c8 c9 fl st g1 (upd v 24 (v s9)) 24 w1 w1 ((mu_n ne0_2).trans ((mu_n ne0_1).trans (hm))) ((mu_n ((mp_ne hab hav (by simp)))).trans (mu_s _ _ _)) (mu_s _ _ _) (by omega) (by omega) (by omega)) (cwV 3 hts gX4_shift_X4_get rfl rfl rfl (by decide +kernel) ⟨Nat.le_of_ble_eq_true rfl, Nat.le_of_ble_eq_true rfl⟩) ⟨KW.blind, hP.recv hK rfl ((mu_n ne0_2).trans ((mu_n ne0_1).trans (hm))), fun U9 hU9 hW9 => ⟨rfl, KW.pre hBs hKK hS hP U9 hU9 hW9⟩⟩ rfl rfl hl.1 rfl (lv_room (Nat.le_of_ble_eq_true rfl)) dX4_shift_129 ⟨(Nat.le_of_ble_eq_true rfl), (Nat.le_of_ble_eq_true rfl)⟩) hS (fun r129 m129 H locs hq9 hP hz9 hS => ?_)
        obtain ⟨he9, hr129⟩ := hq9
        rw [he9] at hP
        refine lv_lload hx hb dX4_shift_132 (lv_at hl 2 rfl) ?_
        refine kc_l (va_runS (As := [.long r129, .long x9]) (rest := [.int (nI (2 * a9)), .int (nI (2 * a9)), .int (nI s9), .ref md]) ⟨hx, hb, hml, hown, hts⟩ (c_X4_sum l G B (mu (mu μ ab (.inl (G.2 0, 3744, .inr (.inl g1)))) av (.inl (G.2 2, 26, .inl (upd v 24 (v s9))))) r129 x9) (va_cwS 2 hts gX4_shift_X4_sum rfl rfl rfl (by decide +kernel) ⟨Nat.le_of_ble_eq_true rfl, Nat.le_of_ble_eq_true rfl⟩) ⟨KW.blind, fun U9 hU9 hW9 => ⟨rfl, KW.pre hBs hKK hS hP U9 hU9 hW9⟩⟩ rfl rfl hl.1 rfl (lv_room (Nat.le_of_ble_eq_true rfl)) dX4_shift_134 ⟨(Nat.le_of_ble_eq_true rfl), (Nat.le_of_ble_eq_true rfl)⟩) hS (fun r134 m134 H locs hq9 hP hz9 hS => ?_)
        obtain ⟨he9, hr134⟩ := hq9
        rw [he9] at hP
        refine kc_v (va_runV (As := [.int (nI s9), .int (nI (2 * a9)), .int (nI (2 * a9)), .long r134]) (rest := []) ⟨hx, hb, hml, hown, hts⟩ (c_X4_set l G B (mu (mu μ ab (.inl (G.2 0, 3744, .inr (.inl g1)))) av (.inl (G.2 2, 26, .inl (upd v 24 (v s9))))) md ab av c1 c2 c3 c4 c5 c6 c7 c8 c9 fl st g1 (upd v 24 (v s9)) s9 (2 * a9) (2 * a9) r134 ((mu_n ne0_2).trans ((mu_n ne0_1).trans (hm))) ((mu_n ((mp_ne hab hav (by simp)))).trans (mu_s _ _ _)) (mu_s _ _ _) (by omega) (by omega) (by omega)) (cwV 4 hts gX4_shift_X4_set rfl rfl rfl (by decide +kernel) ⟨Nat.le_of_ble_eq_true rfl, Nat.le_of_ble_eq_true rfl⟩) ⟨KW.blind, hP.recv hK rfl ((mu_n ne0_2).trans ((mu_n ne0_1).trans (hm))), fun U9 hU9 hW9 => ⟨rfl, KW.pre hBs hKK hS hP U9 hU9 hW9⟩⟩ rfl rfl hl.1 rfl (lv_room (Nat.le_of_ble_eq_true rfl)) dX4_shift_137 ⟨(Nat.le_of_ble_eq_true rfl), (Nat.le_of_ble_eq_true rfl)⟩) hS (fun m137 H locs hq9 hP hz9 hS => ?_)
        rw [hq9] at hP
        have hP : mw G.1 vwCl B (mu (mu μ ab (.inl (G.2 0, 3744, .inr (.inl (stf g1 s9 (2 * a9) (2 * a9) r134))))) av (.inl (G.2 2, 26, .inl (upd v 24 (v s9))))) _ := mw_eq ((mu_c _ _ ((mp_ne hav hab (by simp)))).trans (congrArg (fun z => mu z av (.inl (G.2 2, 26, .inl (upd v 24 (v s9))))) (mu_u _ _ _ _))) hP
        refine lv_aload_n hx hb dX4_shift_140 rfl (lv_at hl 0 rfl) ?_
        refine lv_iload_n hx hb dX4_shift_141 rfl (lv_at hl 1 rfl) ?_
        refine lv_iload hx hb dX4_shift_142 (lv_at hl 4 rfl) ?_
        refine lv_iload hx hb dX4_shift_144 (lv_at hl 4 rfl) ?_
        refine lv_aload_n hx hb dX4_shift_146 rfl (lv_at hl 0 rfl) ?_
        refine lv_bipush (v := nI 24) hx hb dX4_shift_147 (by decide) ?_
        refine lv_iload hx hb dX4_shift_149 (lv_at hl 5 rfl) ?_
        refine kc_i (va_runS (As := [.int (nI w1)]) (rest := [.int (nI 24), .ref md, .int (nI (2 * a9 + 1)), .int (nI (2 * a9 + 1)), .int (nI s9), .ref md]) ⟨hx, hb, hml, hown, hts⟩ (c_X4_minus l G B (mu (mu μ ab (.inl (G.2 0, 3744, .inr (.inl (stf g1 s9 (2 * a9) (2 * a9) r134))))) av (.inl (G.2 2, 26, .inl (upd v 24 (v s9))))) w1 (by omega)) (va_cwS 1 hts gX4_shift_X4_minus rfl rfl rfl (by decide +kernel) ⟨Nat.le_of_ble_eq_true rfl, Nat.le_of_ble_eq_true rfl⟩) ⟨KW.blind, fun U9 hU9 hW9 => ⟨rfl, KW.pre hBs hKK hS hP U9 hU9 hW9⟩⟩ rfl rfl hl.1 rfl (lv_room (Nat.le_of_ble_eq_true rfl)) dX4_shift_151 ⟨(Nat.le_of_ble_eq_true rfl), (Nat.le_of_ble_eq_true rfl)⟩) hS (fun r151 m151 H locs hq9 hP hz9 hS => ?_)
        obtain ⟨he9, rfl⟩ := hq9
        rw [he9] at hP
        have hne151 := ne_lt (p := w1) (by omega)
        refine lv_iload hx hb dX4_shift_154 (lv_at hl 5 rfl) ?_
        refine kc_i (va_runS (As := [.int (nI w1)]) (rest := [.int (nI (ne w1)), .int (nI 24), .ref md, .int (nI (2 * a9 + 1)), .int (nI (2 * a9 + 1)), .int (nI s9), .ref md]) ⟨hx, hb, hml, hown, hts⟩ (c_X4_minus l G B (mu (mu μ ab (.inl (G.2 0, 3744, .inr (.inl (stf g1 s9 (2 * a9) (2 * a9) r134))))) av (.inl (G.2 2, 26, .inl (upd v 24 (v s9))))) w1 (by omega)) (va_cwS 1 hts gX4_shift_X4_minus rfl rfl rfl (by decide +kernel) ⟨Nat.le_of_ble_eq_true rfl, Nat.le_of_ble_eq_true rfl⟩) ⟨KW.blind, fun U9 hU9 hW9 => ⟨rfl, KW.pre hBs hKK hS hP U9 hU9 hW9⟩⟩ rfl rfl hl.1 rfl (lv_room (Nat.le_of_ble_eq_true rfl)) dX4_shift_156 ⟨(Nat.le_of_ble_eq_true rfl), (Nat.le_of_ble_eq_true rfl)⟩) hS (fun r156 m156 H locs hq9 hP hz9 hS => ?_)
        obtain ⟨he9, rfl⟩ := hq9
        rw [he9] at hP
        have hne156 := ne_lt (p := w1) (by omega)
        refine kc_l (va_runV (As := [.int (nI 24), .int (nI (ne w1)), .int (nI (ne w1))]) (rest := [.int (nI (2 * a9 + 1)), .int (nI (2 * a9 + 1)), .int (nI s9), .ref md]) ⟨hx, hb, hml, hown, hts⟩ (c_X4_get l G B (mu (mu μ ab (.inl (G.2 0, 3744, .inr (.inl (stf g1 s9 (2 * a9) (2 * a9) r134))))) av (.inl (G.2 2, 26, .inl (upd v 24 (v s9))))) md ab av c1 c2 c3 c4 c5 c6 c7 c8 c9 fl st (stf g1 s9 (2 * a9) (2 * a9) r134) (upd v 24 (v s9)) 24 (ne w1) (ne w1) ((mu_n ne0_2).trans ((mu_n ne0_1).trans (hm))) ((mu_n ((mp_ne hab hav (by simp)))).trans (mu_s _ _ _)) (mu_s _ _ _) (by omega) (by omega) (by omega)) (cwV 3 hts gX4_shift_X4_get rfl rfl rfl (by decide +kernel) ⟨Nat.le_of_ble_eq_true rfl, Nat.le_of_ble_eq_true rfl⟩) ⟨KW.blind, hP.recv hK rfl ((mu_n ne0_2).trans ((mu_n ne0_1).trans (hm))), fun U9 hU9 hW9 => ⟨rfl, KW.pre hBs hKK hS hP U9 hU9 hW9⟩⟩ rfl rfl hl.1 rfl (lv_room (Nat.le_of_ble_eq_true rfl)) dX4_shift_159 ⟨(Nat.le_of_ble_eq_true rfl), (Nat.le_of_ble_eq_true rfl)⟩) hS (fun r159 m159 H locs hq9 hP hz9 hS => ?_)
        obtain ⟨he9, hr159⟩ := hq9
        rw [he9] at hP
        refine lv_lload hx hb dX4_shift_162 (lv_at hl 2 rfl) ?_
        refine lv_lneg hx hb dX4_shift_164 ?_
        refine kc_l (va_runS (As := [.long r159, .long (-x9)]) (rest := [.int (nI (2 * a9 + 1)), .int (nI (2 * a9 + 1)), .int (nI s9), .ref md]) ⟨hx, hb, hml, hown, hts⟩ (c_X4_sum l G B (mu (mu μ ab (.inl (G.2 0, 3744, .inr (.inl (stf g1 s9 (2 * a9) (2 * a9) r134))))) av (.inl (G.2 2, 26, .inl (upd v 24 (v s9))))) r159 (-x9)) (va_cwS 2 hts gX4_shift_X4_sum rfl rfl rfl (by decide +kernel) ⟨Nat.le_of_ble_eq_true rfl, Nat.le_of_ble_eq_true rfl⟩) ⟨KW.blind, fun U9 hU9 hW9 => ⟨rfl, KW.pre hBs hKK hS hP U9 hU9 hW9⟩⟩ rfl rfl hl.1 rfl (lv_room (Nat.le_of_ble_eq_true rfl)) dX4_shift_165 ⟨(Nat.le_of_ble_eq_true rfl), (Nat.le_of_ble_eq_true rfl)⟩) hS (fun r165 m165 H locs hq9 hP hz9 hS => ?_)
        obtain ⟨he9, hr165⟩ := hq9
        rw [he9] at hP
        refine kc_v (va_runV (As := [.int (nI s9), .int (nI (2 * a9 + 1)), .int (nI (2 * a9 + 1)), .long r165]) (rest := []) ⟨hx, hb, hml, hown, hts⟩ (c_X4_set l G B (mu (mu μ ab (.inl (G.2 0, 3744, .inr (.inl (stf g1 s9 (2 * a9) (2 * a9) r134))))) av (.inl (G.2 2, 26, .inl (upd v 24 (v s9))))) md ab av c1 c2 c3 c4 c5 c6 c7 c8 c9 fl st (stf g1 s9 (2 * a9) (2 * a9) r134) (upd v 24 (v s9)) s9 (2 * a9 + 1) (2 * a9 + 1) r165 ((mu_n ne0_2).trans ((mu_n ne0_1).trans (hm))) ((mu_n ((mp_ne hab hav (by simp)))).trans (mu_s _ _ _)) (mu_s _ _ _) (by omega) (by omega) (by omega)) (cwV 4 hts gX4_shift_X4_set rfl rfl rfl (by decide +kernel) ⟨Nat.le_of_ble_eq_true rfl, Nat.le_of_ble_eq_true rfl⟩) ⟨KW.blind, hP.recv hK rfl ((mu_n ne0_2).trans ((mu_n ne0_1).trans (hm))), fun U9 hU9 hW9 => ⟨rfl, KW.pre hBs hKK hS hP U9 hU9 hW9⟩⟩ rfl rfl hl.1 rfl (lv_room (Nat.le_of_ble_eq_true rfl)) dX4_shift_168 ⟨(Nat.le_of_ble_eq_true rfl), (Nat.le_of_ble_eq_true rfl)⟩) hS (fun m168 H locs hq9 hP hz9 hS => ?_)
        rw [hq9] at hP
        have hP : mw G.1 vwCl B (mu (mu μ ab (.inl (G.2 0, 3744, .inr (.inl (stf (stf g1 s9 (2 * a9) (2 * a9) r134) s9 (2 * a9 + 1) (2 * a9 + 1) r165))))) av (.inl (G.2 2, 26, .inl (upd v 24 (v s9))))) _ := mw_eq ((mu_c _ _ ((mp_ne hav hab (by simp)))).trans (congrArg (fun z => mu z av (.inl (G.2 2, 26, .inl (upd v 24 (v s9))))) (mu_u _ _ _ _))) hP
        rw [hQ]
        exact W.vret hx hb hr (fun t99 ht99 hW99 => ⟨⟨mu (mu μ ab (.inl (G.2 0, 3744, .inr (.inl (stf (stf g1 s9 (2 * a9) (2 * a9) r134) s9 (2 * a9 + 1) (2 * a9 + 1) r165))))) av (.inl (G.2 2, 26, .inl (upd v 24 (v s9)))), rfl, (⟨_, _, rfl, ((hA.st (by omega) (by omega)).st (by omega) (by omega)), (VB.u hvb (hvb s9))⟩), by show mw _ _ _ _ t99.heap; rw [ht99]; exact hP⟩, hS.F ht99⟩) hS.2.2 dX4_shift_171
      · refine lv_iload hx hb dX4_shift_44 (lv_at hl 6 rfl) ?_
        refine lv_iload hx hb dX4_shift_46 (lv_at hl 3 rfl) ?_
        refine nv_icmp_eq (tgt := 110) hx hb (by omega) (by omega) dX4_shift_48 (by decide) (fun hc48 => ?_) (fun hc48 => ?_)
        · refine lv_iinc (v := nI (q1 + 1)) (lv' := [(9, .int (nI (q1 + 1))), (0, .ref md), (1, .int (nI s9)), (4, .long x9), (6, .int (nI (2 * a9))), (7, .int (nI (2 * a9 + 1))), (8, .int (nI w1))]) hx hb dX4_shift_110 hl (k := 6) rfl (nI_add _ _) (by decide) rfl (fun ls hl => ?_)
          refine lv_goto (tgt := 37) hx hb dX4_shift_113 (by decide) ?_
          exact ih37 (q1 + 1) w1 g1 (by omega) (by omega) (by omega) (hA) _ _ hP hS ls (lv_sub hl [1, 2, 3, 4, 5, 6, 0] rfl)
        · refine lv_iload hx hb dX4_shift_51 (lv_at hl 6 rfl) ?_
          refine lv_iload hx hb dX4_shift_53 (lv_at hl 4 rfl) ?_
          refine nv_icmp_eq (tgt := 110) hx hb (by omega) (by omega) dX4_shift_55 (by decide) (fun hc55 => ?_) (fun hc55 => ?_)
          · refine lv_iinc (v := nI (q1 + 1)) (lv' := [(9, .int (nI (q1 + 1))), (0, .ref md), (1, .int (nI s9)), (4, .long x9), (6, .int (nI (2 * a9))), (7, .int (nI (2 * a9 + 1))), (8, .int (nI w1))]) hx hb dX4_shift_110 hl (k := 6) rfl (nI_add _ _) (by decide) rfl (fun ls hl => ?_)
            refine lv_goto (tgt := 37) hx hb dX4_shift_113 (by decide) ?_
            exact ih37 (q1 + 1) w1 g1 (by omega) (by omega) (by omega) (hA) _ _ hP hS ls (lv_sub hl [1, 2, 3, 4, 5, 6, 0] rfl)
          · refine lv_aload_n hx hb dX4_shift_58 rfl (lv_at hl 0 rfl) ?_
            refine lv_iload_n hx hb dX4_shift_59 rfl (lv_at hl 1 rfl) ?_
            refine lv_iload hx hb dX4_shift_60 (lv_at hl 3 rfl) ?_
            refine lv_iload hx hb dX4_shift_62 (lv_at hl 6 rfl) ?_
            refine lv_aload_n hx hb dX4_shift_64 rfl (lv_at hl 0 rfl) ?_
            refine lv_bipush (v := nI 24) hx hb dX4_shift_65 (by decide) ?_
            refine lv_iload hx hb dX4_shift_67 (lv_at hl 5 rfl) ?_
            refine lv_iload hx hb dX4_shift_69 (lv_at hl 6 rfl) ?_
            refine kc_l (va_runV (As := [.int (nI 24), .int (nI w1), .int (nI q1)]) (rest := [.int (nI q1), .int (nI (2 * a9)), .int (nI s9), .ref md]) ⟨hx, hb, hml, hown, hts⟩ (c_X4_get l G B (mu (mu μ ab (.inl (G.2 0, 3744, .inr (.inl g1)))) av (.inl (G.2 2, 26, .inl (upd v 24 (v s9))))) md ab av c1 c2 c3 c4 c5 c6 c7 c8 c9 fl st g1 (upd v 24 (v s9)) 24 w1 q1 ((mu_n ne0_2).trans ((mu_n ne0_1).trans (hm))) ((mu_n ((mp_ne hab hav (by simp)))).trans (mu_s _ _ _)) (mu_s _ _ _) (by omega) (by omega) (by omega)) (cwV 3 hts gX4_shift_X4_get rfl rfl rfl (by decide +kernel) ⟨Nat.le_of_ble_eq_true rfl, Nat.le_of_ble_eq_true rfl⟩) ⟨KW.blind, hP.recv hK rfl ((mu_n ne0_2).trans ((mu_n ne0_1).trans (hm))), fun U9 hU9 hW9 => ⟨rfl, KW.pre hBs hKK hS hP U9 hU9 hW9⟩⟩ rfl rfl hl.1 rfl (lv_room (Nat.le_of_ble_eq_true rfl)) dX4_shift_71 ⟨(Nat.le_of_ble_eq_true rfl), (Nat.le_of_ble_eq_true rfl)⟩) hS (fun r71 m71 H locs hq9 hP hz9 hS => ?_)
            obtain ⟨he9, hr71⟩ := hq9
            rw [he9] at hP
            refine lv_lload hx hb dX4_shift_74 (lv_at hl 2 rfl) ?_
            refine kc_l (va_runS (As := [.long r71, .long x9]) (rest := [.int (nI q1), .int (nI (2 * a9)), .int (nI s9), .ref md]) ⟨hx, hb, hml, hown, hts⟩ (c_X4_sum l G B (mu (mu μ ab (.inl (G.2 0, 3744, .inr (.inl g1)))) av (.inl (G.2 2, 26, .inl (upd v 24 (v s9))))) r71 x9) (va_cwS 2 hts gX4_shift_X4_sum rfl rfl rfl (by decide +kernel) ⟨Nat.le_of_ble_eq_true rfl, Nat.le_of_ble_eq_true rfl⟩) ⟨KW.blind, fun U9 hU9 hW9 => ⟨rfl, KW.pre hBs hKK hS hP U9 hU9 hW9⟩⟩ rfl rfl hl.1 rfl (lv_room (Nat.le_of_ble_eq_true rfl)) dX4_shift_76 ⟨(Nat.le_of_ble_eq_true rfl), (Nat.le_of_ble_eq_true rfl)⟩) hS (fun r76 m76 H locs hq9 hP hz9 hS => ?_)
            obtain ⟨he9, hr76⟩ := hq9
            rw [he9] at hP
            refine kc_v (va_runV (As := [.int (nI s9), .int (nI (2 * a9)), .int (nI q1), .long r76]) (rest := []) ⟨hx, hb, hml, hown, hts⟩ (c_X4_set l G B (mu (mu μ ab (.inl (G.2 0, 3744, .inr (.inl g1)))) av (.inl (G.2 2, 26, .inl (upd v 24 (v s9))))) md ab av c1 c2 c3 c4 c5 c6 c7 c8 c9 fl st g1 (upd v 24 (v s9)) s9 (2 * a9) q1 r76 ((mu_n ne0_2).trans ((mu_n ne0_1).trans (hm))) ((mu_n ((mp_ne hab hav (by simp)))).trans (mu_s _ _ _)) (mu_s _ _ _) (by omega) (by omega) (by omega)) (cwV 4 hts gX4_shift_X4_set rfl rfl rfl (by decide +kernel) ⟨Nat.le_of_ble_eq_true rfl, Nat.le_of_ble_eq_true rfl⟩) ⟨KW.blind, hP.recv hK rfl ((mu_n ne0_2).trans ((mu_n ne0_1).trans (hm))), fun U9 hU9 hW9 => ⟨rfl, KW.pre hBs hKK hS hP U9 hU9 hW9⟩⟩ rfl rfl hl.1 rfl (lv_room (Nat.le_of_ble_eq_true rfl)) dX4_shift_79 ⟨(Nat.le_of_ble_eq_true rfl), (Nat.le_of_ble_eq_true rfl)⟩) hS (fun m79 H locs hq9 hP hz9 hS => ?_)
            rw [hq9] at hP
            have hP : mw G.1 vwCl B (mu (mu μ ab (.inl (G.2 0, 3744, .inr (.inl (stf g1 s9 (2 * a9) q1 r76))))) av (.inl (G.2 2, 26, .inl (upd v 24 (v s9))))) _ := mw_eq ((mu_c _ _ ((mp_ne hav hab (by simp)))).trans (congrArg (fun z => mu z av (.inl (G.2 2, 26, .inl (upd v 24 (v s9))))) (mu_u _ _ _ _))) hP
            refine lv_aload_n hx hb dX4_shift_82 rfl (lv_at hl 0 rfl) ?_
            refine lv_iload_n hx hb dX4_shift_83 rfl (lv_at hl 1 rfl) ?_
            refine lv_iload hx hb dX4_shift_84 (lv_at hl 4 rfl) ?_
            refine lv_iload hx hb dX4_shift_86 (lv_at hl 6 rfl) ?_
            refine lv_aload_n hx hb dX4_shift_88 rfl (lv_at hl 0 rfl) ?_
            refine lv_bipush (v := nI 24) hx hb dX4_shift_89 (by decide) ?_
            refine lv_iload hx hb dX4_shift_91 (lv_at hl 5 rfl) ?_
            refine kc_i (va_runS (As := [.int (nI w1)]) (rest := [.int (nI 24), .ref md, .int (nI q1), .int (nI (2 * a9 + 1)), .int (nI s9), .ref md]) ⟨hx, hb, hml, hown, hts⟩ (c_X4_minus l G B (mu (mu μ ab (.inl (G.2 0, 3744, .inr (.inl (stf g1 s9 (2 * a9) q1 r76))))) av (.inl (G.2 2, 26, .inl (upd v 24 (v s9))))) w1 (by omega)) (va_cwS 1 hts gX4_shift_X4_minus rfl rfl rfl (by decide +kernel) ⟨Nat.le_of_ble_eq_true rfl, Nat.le_of_ble_eq_true rfl⟩) ⟨KW.blind, fun U9 hU9 hW9 => ⟨rfl, KW.pre hBs hKK hS hP U9 hU9 hW9⟩⟩ rfl rfl hl.1 rfl (lv_room (Nat.le_of_ble_eq_true rfl)) dX4_shift_93 ⟨(Nat.le_of_ble_eq_true rfl), (Nat.le_of_ble_eq_true rfl)⟩) hS (fun r93 m93 H locs hq9 hP hz9 hS => ?_)
            obtain ⟨he9, rfl⟩ := hq9
            rw [he9] at hP
            have hne93 := ne_lt (p := w1) (by omega)
            refine lv_iload hx hb dX4_shift_96 (lv_at hl 6 rfl) ?_
            refine kc_l (va_runV (As := [.int (nI 24), .int (nI (ne w1)), .int (nI q1)]) (rest := [.int (nI q1), .int (nI (2 * a9 + 1)), .int (nI s9), .ref md]) ⟨hx, hb, hml, hown, hts⟩ (c_X4_get l G B (mu (mu μ ab (.inl (G.2 0, 3744, .inr (.inl (stf g1 s9 (2 * a9) q1 r76))))) av (.inl (G.2 2, 26, .inl (upd v 24 (v s9))))) md ab av c1 c2 c3 c4 c5 c6 c7 c8 c9 fl st (stf g1 s9 (2 * a9) q1 r76) (upd v 24 (v s9)) 24 (ne w1) q1 ((mu_n ne0_2).trans ((mu_n ne0_1).trans (hm))) ((mu_n ((mp_ne hab hav (by simp)))).trans (mu_s _ _ _)) (mu_s _ _ _) (by omega) (by omega) (by omega)) (cwV 3 hts gX4_shift_X4_get rfl rfl rfl (by decide +kernel) ⟨Nat.le_of_ble_eq_true rfl, Nat.le_of_ble_eq_true rfl⟩) ⟨KW.blind, hP.recv hK rfl ((mu_n ne0_2).trans ((mu_n ne0_1).trans (hm))), fun U9 hU9 hW9 => ⟨rfl, KW.pre hBs hKK hS hP U9 hU9 hW9⟩⟩ rfl rfl hl.1 rfl (lv_room (Nat.le_of_ble_eq_true rfl)) dX4_shift_98 ⟨(Nat.le_of_ble_eq_true rfl), (Nat.le_of_ble_eq_true rfl)⟩) hS (fun r98 m98 H locs hq9 hP hz9 hS => ?_)
            obtain ⟨he9, hr98⟩ := hq9
            rw [he9] at hP
            refine lv_lload hx hb dX4_shift_101 (lv_at hl 2 rfl) ?_
            refine lv_lneg hx hb dX4_shift_103 ?_
            refine kc_l (va_runS (As := [.long r98, .long (-x9)]) (rest := [.int (nI q1), .int (nI (2 * a9 + 1)), .int (nI s9), .ref md]) ⟨hx, hb, hml, hown, hts⟩ (c_X4_sum l G B (mu (mu μ ab (.inl (G.2 0, 3744, .inr (.inl (stf g1 s9 (2 * a9) q1 r76))))) av (.inl (G.2 2, 26, .inl (upd v 24 (v s9))))) r98 (-x9)) (va_cwS 2 hts gX4_shift_X4_sum rfl rfl rfl (by decide +kernel) ⟨Nat.le_of_ble_eq_true rfl, Nat.le_of_ble_eq_true rfl⟩) ⟨KW.blind, fun U9 hU9 hW9 => ⟨rfl, KW.pre hBs hKK hS hP U9 hU9 hW9⟩⟩ rfl rfl hl.1 rfl (lv_room (Nat.le_of_ble_eq_true rfl)) dX4_shift_104 ⟨(Nat.le_of_ble_eq_true rfl), (Nat.le_of_ble_eq_true rfl)⟩) hS (fun r104 m104 H locs hq9 hP hz9 hS => ?_)
            obtain ⟨he9, hr104⟩ := hq9
            rw [he9] at hP
            refine kc_v (va_runV (As := [.int (nI s9), .int (nI (2 * a9 + 1)), .int (nI q1), .long r104]) (rest := []) ⟨hx, hb, hml, hown, hts⟩ (c_X4_set l G B (mu (mu μ ab (.inl (G.2 0, 3744, .inr (.inl (stf g1 s9 (2 * a9) q1 r76))))) av (.inl (G.2 2, 26, .inl (upd v 24 (v s9))))) md ab av c1 c2 c3 c4 c5 c6 c7 c8 c9 fl st (stf g1 s9 (2 * a9) q1 r76) (upd v 24 (v s9)) s9 (2 * a9 + 1) q1 r104 ((mu_n ne0_2).trans ((mu_n ne0_1).trans (hm))) ((mu_n ((mp_ne hab hav (by simp)))).trans (mu_s _ _ _)) (mu_s _ _ _) (by omega) (by omega) (by omega)) (cwV 4 hts gX4_shift_X4_set rfl rfl rfl (by decide +kernel) ⟨Nat.le_of_ble_eq_true rfl, Nat.le_of_ble_eq_true rfl⟩) ⟨KW.blind, hP.recv hK rfl ((mu_n ne0_2).trans ((mu_n ne0_1).trans (hm))), fun U9 hU9 hW9 => ⟨rfl, KW.pre hBs hKK hS hP U9 hU9 hW9⟩⟩ rfl rfl hl.1 rfl (lv_room (Nat.le_of_ble_eq_true rfl)) dX4_shift_107 ⟨(Nat.le_of_ble_eq_true rfl), (Nat.le_of_ble_eq_true rfl)⟩) hS (fun m107 H locs hq9 hP hz9 hS => ?_)
            rw [hq9] at hP
            have hP : mw G.1 vwCl B (mu (mu μ ab (.inl (G.2 0, 3744, .inr (.inl (stf (stf g1 s9 (2 * a9) q1 r76) s9 (2 * a9 + 1) q1 r104))))) av (.inl (G.2 2, 26, .inl (upd v 24 (v s9))))) _ := mw_eq ((mu_c _ _ ((mp_ne hav hab (by simp)))).trans (congrArg (fun z => mu z av (.inl (G.2 2, 26, .inl (upd v 24 (v s9))))) (mu_u _ _ _ _))) hP
            refine lv_iinc (v := nI (q1 + 1)) (lv' := [(9, .int (nI (q1 + 1))), (0, .ref md), (1, .int (nI s9)), (4, .long x9), (6, .int (nI (2 * a9))), (7, .int (nI (2 * a9 + 1))), (8, .int (nI w1))]) hx hb dX4_shift_110 hl (k := 6) rfl (nI_add _ _) (by decide) rfl (fun ls hl => ?_)
            refine lv_goto (tgt := 37) hx hb dX4_shift_113 (by decide) ?_
            exact ih37 (q1 + 1) w1 (stf (stf g1 s9 (2 * a9) q1 r76) s9 (2 * a9 + 1) q1 r104) (by omega) (by omega) (by omega) (((hA.st (by omega) (by omega)).st (by omega) (by omega))) _ _ hP hS ls (lv_sub hl [1, 2, 3, 4, 5, 6, 0] rfl)
  have hl := lv_entry ([.ref md, .int (nI s9), .int (nI a9), .int (nI b9), .long x9]) (n := 10) (Nat.le_of_ble_eq_true rfl)
  have he9 : entryFrame m args 10 = entryFrame m ([.ref md, .int (nI s9), .int (nI a9), .int (nI b9), .long x9] : List Value).toArray 10 := by rw [hargs]
  rw [he9, lg_entry_eq]
  generalize (lg_sl ([.ref md, .int (nI s9), .int (nI a9), .int (nI b9), .long x9]) ++ List.replicate (10 - (lg_sl ([.ref md, .int (nI s9), .int (nI a9), .int (nI b9), .long x9])).length) Slot.unset).toArray = ls at hl ⊢
  have hl : lv_has ls 10 [(0, .ref md), (1, .int (nI s9)), (2, .int (nI a9)), (3, .int (nI b9)), (4, .long x9)] := hl
  refine lv_aload_n hx hb dX4_shift_0 rfl (lv_at hl 0 rfl) ?_
  refine lv_bipush (v := nI 24) hx hb dX4_shift_1 (by decide) ?_
  refine lv_iload_n hx hb dX4_shift_3 rfl (lv_at hl 1 rfl) ?_
  refine kc_v (va_runV (As := [.int (nI 24), .int (nI s9)]) (rest := []) ⟨hx, hb, hml, hown, hts⟩ (c_X4_load l G B (mu (mu μ ab (.inl (G.2 0, 3744, .inr (.inl f)))) av (.inl (G.2 2, 26, .inl v))) md ab av c1 c2 c3 c4 c5 c6 c7 c8 c9 fl st f v 24 s9 ((mu_n ne0_2).trans ((mu_n ne0_1).trans (hm))) ((mu_n ((mp_ne hab hav (by simp)))).trans (mu_s _ _ _)) (mu_s _ _ _) (by omega) (by omega) (hvb s9)) (cwV 2 hts gX4_shift_X4_load rfl rfl rfl (by decide +kernel) ⟨Nat.le_of_ble_eq_true rfl, Nat.le_of_ble_eq_true rfl⟩) ⟨KW.blind, hP.recv hK rfl ((mu_n ne0_2).trans ((mu_n ne0_1).trans (hm))), fun U9 hU9 hW9 => ⟨rfl, KW.pre hBs hKK hS hP U9 hU9 hW9⟩⟩ rfl rfl hl.1 rfl (lv_room (Nat.le_of_ble_eq_true rfl)) dX4_shift_4 ⟨(Nat.le_of_ble_eq_true rfl), (Nat.le_of_ble_eq_true rfl)⟩) hS (fun m4 H locs hq9 hP hz9 hS => ?_)
  obtain ⟨g4, he4, hL4⟩ := hq9
  rw [he4] at hP
  have hP : mw G.1 vwCl B (mu (mu μ ab (.inl (G.2 0, 3744, .inr (.inl g4)))) av (.inl (G.2 2, 26, .inl (upd v 24 (v s9))))) _ := mw_eq ((congrArg (fun z => mu z av (.inl (G.2 2, 26, .inl (upd v 24 (v s9))))) ((mu_c _ _ ((mp_ne hav hab (by simp)))).trans (congrArg (fun z => mu z av (.inl (G.2 2, 26, .inl v))) (mu_u _ _ _ _)))).trans (mu_u _ _ _ _)) hP
  refine lv_iconst (v := nI 2) hx hb dX4_shift_7 (by decide) ?_
  refine lv_iload_n hx hb dX4_shift_8 rfl (lv_at hl 2 rfl) ?_
  refine nv_imul hx hb dX4_shift_9 ?_
  refine lv_istore (lv' := [(6, .int (nI (2 * a9))), (0, .ref md), (1, .int (nI s9)), (2, .int (nI a9)), (3, .int (nI b9)), (4, .long x9)]) hx hb dX4_shift_10 hl (by decide) rfl (fun ls hl => ?_)
  refine lv_iconst (v := nI 2) hx hb dX4_shift_12 (by decide) ?_
  refine lv_iload_n hx hb dX4_shift_13 rfl (lv_at hl 3 rfl) ?_
  refine nv_imul hx hb dX4_shift_14 ?_
  refine lv_iconst (v := nI 1) hx hb dX4_shift_15 (by decide) ?_
  refine nv_iadd hx hb dX4_shift_16 ?_
  refine lv_istore (lv' := [(7, .int (nI ((2 * a9) + 1))), (6, .int (nI (2 * a9))), (0, .ref md), (1, .int (nI s9)), (2, .int (nI a9)), (3, .int (nI b9)), (4, .long x9)]) hx hb dX4_shift_17 hl (by decide) rfl (fun ls hl => ?_)
  refine lv_iload_n hx hb dX4_shift_19 rfl (lv_at hl 5 rfl) ?_
  refine lv_iload hx hb dX4_shift_20 (lv_at hl 1 rfl) ?_
  refine nv_icmp_ne (tgt := 30) hx hb (by omega) (by omega) dX4_shift_22 (by decide) (fun hc22 => ?_) (fun hc22 => ?_)
  · refine lv_iload hx hb dX4_shift_30 (lv_at hl 0 rfl) ?_
    refine lv_istore (lv' := [(8, .int (nI ((2 * a9) + 1))), (7, .int (nI ((2 * a9) + 1))), (6, .int (nI (2 * a9))), (0, .ref md), (1, .int (nI s9)), (2, .int (nI a9)), (3, .int (nI b9)), (4, .long x9)]) hx hb dX4_shift_32 hl (by decide) rfl (fun ls hl => ?_)
    refine lv_iconst (v := nI 0) hx hb dX4_shift_34 (by decide) ?_
    refine lv_istore (lv' := [(9, .int (nI 0)), (8, .int (nI ((2 * a9) + 1))), (7, .int (nI ((2 * a9) + 1))), (6, .int (nI (2 * a9))), (0, .ref md), (1, .int (nI s9)), (2, .int (nI a9)), (3, .int (nI b9)), (4, .long x9)]) hx hb dX4_shift_35 hl (by decide) rfl (fun ls hl => ?_)
    exact L37 _ 0 ((2 * a9) + 1) g4 (Nat.lt_succ_self _) (by omega) (by omega) ((hsy.ld hL4 (by omega))) _ _ hP hS ls (lv_sub hl [4, 5, 8, 3, 2, 1, 0] rfl)
  · refine lv_iload hx hb dX4_shift_25 (lv_at hl 1 rfl) ?_
    refine lv_goto (tgt := 32) hx hb dX4_shift_27 (by decide) ?_
    refine lv_istore (lv' := [(8, .int (nI (2 * a9))), (7, .int (nI ((2 * a9) + 1))), (6, .int (nI (2 * a9))), (0, .ref md), (1, .int (nI s9)), (2, .int (nI a9)), (3, .int (nI b9)), (4, .long x9)]) hx hb dX4_shift_32 hl (by decide) rfl (fun ls hl => ?_)
    refine lv_iconst (v := nI 0) hx hb dX4_shift_34 (by decide) ?_
    refine lv_istore (lv' := [(9, .int (nI 0)), (8, .int (nI (2 * a9))), (7, .int (nI ((2 * a9) + 1))), (6, .int (nI (2 * a9))), (0, .ref md), (1, .int (nI s9)), (2, .int (nI a9)), (3, .int (nI b9)), (4, .long x9)]) hx hb dX4_shift_35 hl (by decide) rfl (fun ls hl => ?_)
    exact L37 _ 0 (2 * a9) g4 (Nat.lt_succ_self _) (by omega) (by omega) ((hsy.ld hL4 (by omega))) _ _ hP hS ls (lv_sub hl [4, 5, 8, 3, 2, 1, 0] rfl)

abbrev rn_X4_make : Room := { frames := 3, cells := 0, slots := 0, locals := 79 }
set_option maxHeartbeats 4000000 in
set_option maxRecDepth 100000 in
theorem m_X4_make_0 (l : Launch) (G : GG) (B : Nat) (μ : mp) (md ab av c1 c2 c3 c4 c5 c6 c7 c8 c9 fl st : Nat) (f : Nat → Int64) (v : Nat → Int32) (s9 a9 b9 : Nat) (y9 : Int32) (hm : μ md = some (.inr (4, [.int (nI fl), .ref ab, .ref av, .int (nI st), .ref c1, .ref c2, .ref c3, .ref c4, .ref c5, .ref c6, .ref c7, .ref c8, .ref c9]))) (hab : μ ab = some (.inl (G.2 0, 3744, .inr (.inl f)))) (hav : μ av = some (.inl (G.2 2, 26, .inl v))) (hs9 : s9 < 26) (ha9 : a9 < 12) (hb9 : b9 < 12) (hsy : Sym f) (hvb : VB v) : Met l yX4_make wsX4_make rn_X4_make (va_Pc [.ref md, .int (nI s9), .int (nI 0), .int (nI a9), .int (nI b9), .int y9] (KW G B μ)) (va_Qv (fun μ2 => ∃ (g9 : Nat → Int64) (w9 : Nat → Int32), μ2 = mu (mu μ ab (.inl (G.2 0, 3744, .inr (.inl g9)))) av (.inl (G.2 2, 26, .inl w9)) ∧ Sym g9 ∧ VB w9) (BB G B) (fun q => B ≤ q)) 0 0 (fun q => B ≤ q) := by
  refine Met.ofW (cc := cX4_make) (maxL := 6) (ret := none) (by decide) rfl ?_
  intro p e s m args below meth c s₁ B9 hml hv
  obtain ⟨hargs, hBs, hP, hKK⟩ := hv
  have hx := B9.exec
  have hb := B9.bytes
  have hr := B9.returns
  have hts := atoms_spec (ws := wsX4_make) B9.pre
  have hown : s.vm.findClass RX4 = some m.cls := findClass_of_methodNamed B9.named
  have hlocks := B9.notSynchronized
  have hK := hKK.k
  have hS : va_S (fun q => B ≤ q) s.heap s.heap [] := va_S.rf
  obtain ⟨Q, hQ⟩ : ∃ Q, Q = MQ below (va_Qv (fun μ2 => ∃ (g9 : Nat → Int64) (w9 : Nat → Int32), μ2 = mu (mu μ ab (.inl (G.2 0, 3744, .inr (.inl g9)))) av (.inl (G.2 2, 26, .inl w9)) ∧ Sym g9 ∧ VB w9) (BB G B) (fun q => B ≤ q)) args s 0 0 (fun q => B ≤ q) := ⟨_, rfl⟩
  rw [← hQ]
  have ne0_1 : md ≠ ab := mp_ne hm hab (by simp)
  have ne0_2 : md ≠ av := mp_ne hm hav (by simp)
  have in_X4_make_X4 : ∀ w ∈ wsX40, w ∈ wsX4_make := by decide +kernel
  have hP : mw G.1 vwCl B (mu (mu μ ab (.inl (G.2 0, 3744, .inr (.inl f)))) av (.inl (G.2 2, 26, .inl v))) s.heap := mw_eq ((congrArg (fun z => mu z av (.inl (G.2 2, 26, .inl v))) (mu_i hab)).trans (mu_i hav)).symm hP
  have hl := lv_entry ([.ref md, .int (nI s9), .int (nI 0), .int (nI a9), .int (nI b9), .int y9]) (n := 6) (Nat.le_of_ble_eq_true rfl)
  have he9 : entryFrame m args 6 = entryFrame m ([.ref md, .int (nI s9), .int (nI 0), .int (nI a9), .int (nI b9), .int y9] : List Value).toArray 6 := by rw [hargs]
  rw [he9, lg_entry_eq]
  generalize (lg_sl ([.ref md, .int (nI s9), .int (nI 0), .int (nI a9), .int (nI b9), .int y9]) ++ List.replicate (6 - (lg_sl ([.ref md, .int (nI s9), .int (nI 0), .int (nI a9), .int (nI b9), .int y9])).length) Slot.unset).toArray = ls at hl ⊢
  have hl : lv_has ls 6 [(0, .ref md), (1, .int (nI s9)), (2, .int (nI 0)), (3, .int (nI a9)), (4, .int (nI b9)), (5, .int y9)] := hl
  refine lv_aload_n hx hb dX4_make_0 rfl (lv_at hl 0 rfl) ?_
  refine mw_get (C := RX4) (T := TX4) (N := 13) hx hb hts in_X4_make_X4 hown hK hP ((mu_n ne0_2).trans ((mu_n ne0_1).trans (hm))) rfl 2 (by decide) (hts (.fieldLink RX4 13 "OctagonDeskModel" "isVoid" "[Z") (by decide +kernel)) (fun _ h9 => h9) rfl dX4_make_1 ?_
  refine lv_iload_n hx hb dX4_make_4 rfl (lv_at hl 1 rfl) ?_
  refine mw_zald hx hb hK hP 2 (mu_s _ _ _) rfl (by omega) (by omega) dX4_make_5 ?_
  refine lv_if_eq (tgt := 10) hx hb dX4_make_6 (by decide) (fun hc6 => ?_) (fun hc6 => ?_)
  · refine lv_iload_n hx hb dX4_make_10 rfl (lv_at hl 2 rfl) ?_
    refine lv_if_ne (tgt := 43) hx hb dX4_make_11 (by decide) (fun hc11 => ?_) (fun hc11 => ?_)
    · exact absurd rfl hc11
    · refine lv_iload hx hb dX4_make_14 (lv_at hl 5 rfl) ?_
      refine lv_i2l (v := y9.toInt64) hx hb dX4_make_16 rfl ?_
      refine lv_aload_n hx hb dX4_make_17 rfl (lv_at hl 0 rfl) ?_
      refine lv_iload_n hx hb dX4_make_18 rfl (lv_at hl 1 rfl) ?_
      refine lv_iload_n hx hb dX4_make_19 rfl (lv_at hl 3 rfl) ?_
      refine lv_iload hx hb dX4_make_20 (lv_at hl 4 rfl) ?_
      refine kc_l (va_runV (As := [.int (nI s9), .int (nI a9), .int (nI b9)]) (rest := [.long y9.toInt64]) ⟨hx, hb, hml, hown, hts⟩ (c_X4_get l G B (mu (mu μ ab (.inl (G.2 0, 3744, .inr (.inl f)))) av (.inl (G.2 2, 26, .inl v))) md ab av c1 c2 c3 c4 c5 c6 c7 c8 c9 fl st f v s9 a9 b9 ((mu_n ne0_2).trans ((mu_n ne0_1).trans (hm))) ((mu_n ((mp_ne hab hav (by simp)))).trans (mu_s _ _ _)) (mu_s _ _ _) (by omega) (by omega) (by omega)) (cwV 3 hts gX4_make_X4_get rfl rfl rfl (by decide +kernel) ⟨Nat.le_of_ble_eq_true rfl, Nat.le_of_ble_eq_true rfl⟩) ⟨KW.blind, hP.recv hK rfl ((mu_n ne0_2).trans ((mu_n ne0_1).trans (hm))), fun U9 hU9 hW9 => ⟨rfl, KW.pre hBs hKK hS hP U9 hU9 hW9⟩⟩ rfl rfl hl.1 rfl (lv_room (Nat.le_of_ble_eq_true rfl)) dX4_make_22 ⟨(Nat.le_of_ble_eq_true rfl), (Nat.le_of_ble_eq_true rfl)⟩) hS (fun r22 m22 H locs hq9 hP hz9 hS => ?_)
      obtain ⟨he9, hr22⟩ := hq9
      rw [he9] at hP
      refine nl_if_ge (tgt := 155) hx hb dX4_make_25 dX4_make_26 (by decide) (fun hc25 => ?_) (fun hc25 => ?_)
      · refine lv_aload_n hx hb dX4_make_155 rfl (lv_at hl 0 rfl) ?_
        refine lv_iload_n hx hb dX4_make_156 rfl (lv_at hl 1 rfl) ?_
        refine kc_v (va_runV (As := [.int (nI s9)]) (rest := []) ⟨hx, hb, hml, hown, hts⟩ (m_X4_close l G B (mu (mu μ ab (.inl (G.2 0, 3744, .inr (.inl f)))) av (.inl (G.2 2, 26, .inl v))) md ab av c1 c2 c3 c4 c5 c6 c7 c8 c9 fl st f v s9 ((mu_n ne0_2).trans ((mu_n ne0_1).trans (hm))) ((mu_n ((mp_ne hab hav (by simp)))).trans (mu_s _ _ _)) (mu_s _ _ _) (by omega) hsy hvb) (cwV 1 hts gX4_make_X4_close rfl rfl rfl (by decide +kernel) ⟨Nat.le_of_ble_eq_true rfl, Nat.le_of_ble_eq_true rfl⟩) ⟨KW.blind, hP.recv hK rfl ((mu_n ne0_2).trans ((mu_n ne0_1).trans (hm))), fun U9 hU9 hW9 => ⟨rfl, KW.pre hBs hKK hS hP U9 hU9 hW9⟩⟩ rfl rfl hl.1 rfl (lv_room (Nat.le_of_ble_eq_true rfl)) dX4_make_157 ⟨(Nat.le_of_ble_eq_true rfl), (Nat.le_of_ble_eq_true rfl)⟩) hS (fun m157 H locs hq9 hP hz9 hS => ?_)
        obtain ⟨g157, w157, he157, hsy157, hvb157⟩ := hq9
        rw [he157] at hP
        have hP : mw G.1 vwCl B (mu (mu μ ab (.inl (G.2 0, 3744, .inr (.inl g157)))) av (.inl (G.2 2, 26, .inl w157))) _ := mw_eq ((congrArg (fun z => mu z av (.inl (G.2 2, 26, .inl w157))) ((mu_c _ _ ((mp_ne hav hab (by simp)))).trans (congrArg (fun z => mu z av (.inl (G.2 2, 26, .inl v))) (mu_u _ _ _ _)))).trans (mu_u _ _ _ _)) hP
        rw [hQ]
        exact W.vret hx hb hr (fun t99 ht99 hW99 => ⟨⟨mu (mu μ ab (.inl (G.2 0, 3744, .inr (.inl g157)))) av (.inl (G.2 2, 26, .inl w157)), rfl, (⟨_, _, rfl, hsy157, hvb157⟩), by show mw _ _ _ _ t99.heap; rw [ht99]; exact hP⟩, hS.F ht99⟩) hS.2.2 dX4_make_160
      · refine lv_aload_n hx hb dX4_make_29 rfl (lv_at hl 0 rfl) ?_
        refine lv_iload_n hx hb dX4_make_30 rfl (lv_at hl 1 rfl) ?_
        refine lv_iload_n hx hb dX4_make_31 rfl (lv_at hl 3 rfl) ?_
        refine lv_iload hx hb dX4_make_32 (lv_at hl 4 rfl) ?_
        refine lv_iload hx hb dX4_make_34 (lv_at hl 5 rfl) ?_
        refine lv_i2l (v := y9.toInt64) hx hb dX4_make_36 rfl ?_
        refine kc_v (va_runV (As := [.int (nI s9), .int (nI a9), .int (nI b9), .long y9.toInt64]) (rest := []) ⟨hx, hb, hml, hown, hts⟩ (c_X4_set l G B (mu (mu μ ab (.inl (G.2 0, 3744, .inr (.inl f)))) av (.inl (G.2 2, 26, .inl v))) md ab av c1 c2 c3 c4 c5 c6 c7 c8 c9 fl st f v s9 a9 b9 y9.toInt64 ((mu_n ne0_2).trans ((mu_n ne0_1).trans (hm))) ((mu_n ((mp_ne hab hav (by simp)))).trans (mu_s _ _ _)) (mu_s _ _ _) (by omega) (by omega) (by omega)) (cwV 4 hts gX4_make_X4_set rfl rfl rfl (by decide +kernel) ⟨Nat.le_of_ble_eq_true rfl, Nat.le_of_ble_eq_true rfl⟩) ⟨KW.blind, hP.recv hK rfl ((mu_n ne0_2).trans ((mu_n ne0_1).trans (hm))), fun U9 hU9 hW9 => ⟨rfl, KW.pre hBs hKK hS hP U9 hU9 hW9⟩⟩ rfl rfl hl.1 rfl (lv_room (Nat.le_of_ble_eq_true rfl)) dX4_make_37 ⟨(Nat.le_of_ble_eq_true rfl), (Nat.le_of_ble_eq_true rfl)⟩) hS (fun m37 H locs hq9 hP hz9 hS => ?_)
        rw [hq9] at hP
        have hP : mw G.1 vwCl B (mu (mu μ ab (.inl (G.2 0, 3744, .inr (.inl (stf f s9 a9 b9 y9.toInt64))))) av (.inl (G.2 2, 26, .inl v))) _ := mw_eq ((mu_c _ _ ((mp_ne hav hab (by simp)))).trans (congrArg (fun z => mu z av (.inl (G.2 2, 26, .inl v))) (mu_u _ _ _ _))) hP
        refine lv_goto (tgt := 155) hx hb dX4_make_40 (by decide) ?_
        refine lv_aload_n hx hb dX4_make_155 rfl (lv_at hl 0 rfl) ?_
        refine lv_iload_n hx hb dX4_make_156 rfl (lv_at hl 1 rfl) ?_
        refine kc_v (va_runV (As := [.int (nI s9)]) (rest := []) ⟨hx, hb, hml, hown, hts⟩ (m_X4_close l G B (mu (mu μ ab (.inl (G.2 0, 3744, .inr (.inl (stf f s9 a9 b9 y9.toInt64))))) av (.inl (G.2 2, 26, .inl v))) md ab av c1 c2 c3 c4 c5 c6 c7 c8 c9 fl st (stf f s9 a9 b9 y9.toInt64) v s9 ((mu_n ne0_2).trans ((mu_n ne0_1).trans (hm))) ((mu_n ((mp_ne hab hav (by simp)))).trans (mu_s _ _ _)) (mu_s _ _ _) (by omega) (hsy.st (by omega) (by omega)) hvb) (cwV 1 hts gX4_make_X4_close rfl rfl rfl (by decide +kernel) ⟨Nat.le_of_ble_eq_true rfl, Nat.le_of_ble_eq_true rfl⟩) ⟨KW.blind, hP.recv hK rfl ((mu_n ne0_2).trans ((mu_n ne0_1).trans (hm))), fun U9 hU9 hW9 => ⟨rfl, KW.pre hBs hKK hS hP U9 hU9 hW9⟩⟩ rfl rfl hl.1 rfl (lv_room (Nat.le_of_ble_eq_true rfl)) dX4_make_157 ⟨(Nat.le_of_ble_eq_true rfl), (Nat.le_of_ble_eq_true rfl)⟩) hS (fun m157 H locs hq9 hP hz9 hS => ?_)
        obtain ⟨g157, w157, he157, hsy157, hvb157⟩ := hq9
        rw [he157] at hP
        have hP : mw G.1 vwCl B (mu (mu μ ab (.inl (G.2 0, 3744, .inr (.inl g157)))) av (.inl (G.2 2, 26, .inl w157))) _ := mw_eq ((congrArg (fun z => mu z av (.inl (G.2 2, 26, .inl w157))) ((mu_c _ _ ((mp_ne hav hab (by simp)))).trans (congrArg (fun z => mu z av (.inl (G.2 2, 26, .inl v))) (mu_u _ _ _ _)))).trans (mu_u _ _ _ _)) hP
        rw [hQ]
        exact W.vret hx hb hr (fun t99 ht99 hW99 => ⟨⟨mu (mu μ ab (.inl (G.2 0, 3744, .inr (.inl g157)))) av (.inl (G.2 2, 26, .inl w157)), rfl, (⟨_, _, rfl, hsy157, hvb157⟩), by show mw _ _ _ _ t99.heap; rw [ht99]; exact hP⟩, hS.F ht99⟩) hS.2.2 dX4_make_160
  · rw [hQ]
    exact W.vret hx hb hr (fun t99 ht99 hW99 => ⟨⟨mu (mu μ ab (.inl (G.2 0, 3744, .inr (.inl f)))) av (.inl (G.2 2, 26, .inl v)), rfl, (⟨_, _, rfl, hsy, hvb⟩), by show mw _ _ _ _ t99.heap; rw [ht99]; exact hP⟩, hS.F ht99⟩) hS.2.2 dX4_make_9

set_option maxHeartbeats 4000000 in
set_option maxRecDepth 100000 in
theorem m_X4_make_1 (l : Launch) (G : GG) (B : Nat) (μ : mp) (md ab av c1 c2 c3 c4 c5 c6 c7 c8 c9 fl st : Nat) (f : Nat → Int64) (v : Nat → Int32) (s9 a9 b9 : Nat) (y9 : Int32) (hm : μ md = some (.inr (4, [.int (nI fl), .ref ab, .ref av, .int (nI st), .ref c1, .ref c2, .ref c3, .ref c4, .ref c5, .ref c6, .ref c7, .ref c8, .ref c9]))) (hab : μ ab = some (.inl (G.2 0, 3744, .inr (.inl f)))) (hav : μ av = some (.inl (G.2 2, 26, .inl v))) (hs9 : s9 < 26) (ha9 : a9 < 6) (hb9 : b9 < 12) (hsy : Sym f) (hvb : VB v) : Met l yX4_make wsX4_make rn_X4_make (va_Pc [.ref md, .int (nI s9), .int (nI 1), .int (nI a9), .int (nI b9), .int y9] (KW G B μ)) (va_Qv (fun μ2 => ∃ (g9 : Nat → Int64) (w9 : Nat → Int32), μ2 = mu (mu μ ab (.inl (G.2 0, 3744, .inr (.inl g9)))) av (.inl (G.2 2, 26, .inl w9)) ∧ Sym g9 ∧ VB w9) (BB G B) (fun q => B ≤ q)) 0 0 (fun q => B ≤ q) := by
  refine Met.ofW (cc := cX4_make) (maxL := 6) (ret := none) (by decide) rfl ?_
  intro p e s m args below meth c s₁ B9 hml hv
  obtain ⟨hargs, hBs, hP, hKK⟩ := hv
  have hx := B9.exec
  have hb := B9.bytes
  have hr := B9.returns
  have hts := atoms_spec (ws := wsX4_make) B9.pre
  have hown : s.vm.findClass RX4 = some m.cls := findClass_of_methodNamed B9.named
  have hlocks := B9.notSynchronized
  have hK := hKK.k
  have hS : va_S (fun q => B ≤ q) s.heap s.heap [] := va_S.rf
  obtain ⟨Q, hQ⟩ : ∃ Q, Q = MQ below (va_Qv (fun μ2 => ∃ (g9 : Nat → Int64) (w9 : Nat → Int32), μ2 = mu (mu μ ab (.inl (G.2 0, 3744, .inr (.inl g9)))) av (.inl (G.2 2, 26, .inl w9)) ∧ Sym g9 ∧ VB w9) (BB G B) (fun q => B ≤ q)) args s 0 0 (fun q => B ≤ q) := ⟨_, rfl⟩
  rw [← hQ]
  have ne0_1 : md ≠ ab := mp_ne hm hab (by simp)
  have ne0_2 : md ≠ av := mp_ne hm hav (by simp)
  have in_X4_make_X4 : ∀ w ∈ wsX40, w ∈ wsX4_make := by decide +kernel
  have hP : mw G.1 vwCl B (mu (mu μ ab (.inl (G.2 0, 3744, .inr (.inl f)))) av (.inl (G.2 2, 26, .inl v))) s.heap := mw_eq ((congrArg (fun z => mu z av (.inl (G.2 2, 26, .inl v))) (mu_i hab)).trans (mu_i hav)).symm hP
  have hl := lv_entry ([.ref md, .int (nI s9), .int (nI 1), .int (nI a9), .int (nI b9), .int y9]) (n := 6) (Nat.le_of_ble_eq_true rfl)
  have he9 : entryFrame m args 6 = entryFrame m ([.ref md, .int (nI s9), .int (nI 1), .int (nI a9), .int (nI b9), .int y9] : List Value).toArray 6 := by rw [hargs]
  rw [he9, lg_entry_eq]
  generalize (lg_sl ([.ref md, .int (nI s9), .int (nI 1), .int (nI a9), .int (nI b9), .int y9]) ++ List.replicate (6 - (lg_sl ([.ref md, .int (nI s9), .int (nI 1), .int (nI a9), .int (nI b9), .int y9])).length) Slot.unset).toArray = ls at hl ⊢
  have hl : lv_has ls 6 [(0, .ref md), (1, .int (nI s9)), (2, .int (nI 1)), (3, .int (nI a9)), (4, .int (nI b9)), (5, .int y9)] := hl
  refine lv_aload_n hx hb dX4_make_0 rfl (lv_at hl 0 rfl) ?_
  refine mw_get (C := RX4) (T := TX4) (N := 13) hx hb hts in_X4_make_X4 hown hK hP ((mu_n ne0_2).trans ((mu_n ne0_1).trans (hm))) rfl 2 (by decide) (hts (.fieldLink RX4 13 "OctagonDeskModel" "isVoid" "[Z") (by decide +kernel)) (fun _ h9 => h9) rfl dX4_make_1 ?_
  refine lv_iload_n hx hb dX4_make_4 rfl (lv_at hl 1 rfl) ?_
  refine mw_zald hx hb hK hP 2 (mu_s _ _ _) rfl (by omega) (by omega) dX4_make_5 ?_
  refine lv_if_eq (tgt := 10) hx hb dX4_make_6 (by decide) (fun hc6 => ?_) (fun hc6 => ?_)
  · refine lv_iload_n hx hb dX4_make_10 rfl (lv_at hl 2 rfl) ?_
    refine lv_if_ne (tgt := 43) hx hb dX4_make_11 (by decide) (fun hc11 => ?_) (fun hc11 => ?_)
    · refine lv_iload_n hx hb dX4_make_43 rfl (lv_at hl 2 rfl) ?_
      refine lv_iconst (v := nI 1) hx hb dX4_make_44 (by decide) ?_
      refine nv_icmp_ne (tgt := 70) hx hb (by omega) (by omega) dX4_make_45 (by decide) (fun hc45 => ?_) (fun hc45 => ?_)
      · exact absurd rfl hc45
      · refine lv_iload hx hb dX4_make_48 (lv_at hl 4 rfl) ?_
        refine lv_iconst (v := nI 2) hx hb dX4_make_50 (by decide) ?_
        refine nv_idiv hx hb (by omega) (by decide) (by decide) dX4_make_51 ?_
        refine lv_iload_n hx hb dX4_make_52 rfl (lv_at hl 3 rfl) ?_
        refine nv_icmp_ne (tgt := 70) hx hb (by omega) (by omega) dX4_make_53 (by decide) (fun hc53 => ?_) (fun hc53 => ?_)
        · refine lv_iload_n hx hb dX4_make_70 rfl (lv_at hl 2 rfl) ?_
          refine lv_iconst (v := nI 1) hx hb dX4_make_71 (by decide) ?_
          refine nv_icmp_ne (tgt := 116) hx hb (by omega) (by omega) dX4_make_72 (by decide) (fun hc72 => ?_) (fun hc72 => ?_)
          · exact absurd rfl hc72
          · refine lv_aload_n hx hb dX4_make_75 rfl (lv_at hl 0 rfl) ?_
            refine lv_iload_n hx hb dX4_make_76 rfl (lv_at hl 1 rfl) ?_
            refine lv_iload_n hx hb dX4_make_77 rfl (lv_at hl 3 rfl) ?_
            refine kc_v (va_runV (As := [.int (nI s9), .int (nI a9)]) (rest := []) ⟨hx, hb, hml, hown, hts⟩ (m_X4_drop l G B (mu (mu μ ab (.inl (G.2 0, 3744, .inr (.inl f)))) av (.inl (G.2 2, 26, .inl v))) md ab av c1 c2 c3 c4 c5 c6 c7 c8 c9 fl st f v s9 a9 ((mu_n ne0_2).trans ((mu_n ne0_1).trans (hm))) ((mu_n ((mp_ne hab hav (by simp)))).trans (mu_s _ _ _)) (mu_s _ _ _) (by omega) (by omega) (hsy)) (cwV 2 hts gX4_make_X4_drop rfl rfl rfl (by decide +kernel) ⟨Nat.le_of_ble_eq_true rfl, Nat.le_of_ble_eq_true rfl⟩) ⟨KW.blind, hP.recv hK rfl ((mu_n ne0_2).trans ((mu_n ne0_1).trans (hm))), fun U9 hU9 hW9 => ⟨rfl, KW.pre hBs hKK hS hP U9 hU9 hW9⟩⟩ rfl rfl hl.1 rfl (lv_room (Nat.le_of_ble_eq_true rfl)) dX4_make_78 ⟨(Nat.le_of_ble_eq_true rfl), (Nat.le_of_ble_eq_true rfl)⟩) hS (fun m78 H locs hq9 hP hz9 hS => ?_)
            obtain ⟨g78, he78, hA78⟩ := hq9
            rw [he78] at hP
            have hP : mw G.1 vwCl B (mu (mu μ ab (.inl (G.2 0, 3744, .inr (.inl g78)))) av (.inl (G.2 2, 26, .inl v))) _ := mw_eq ((mu_c _ _ ((mp_ne hav hab (by simp)))).trans (congrArg (fun z => mu z av (.inl (G.2 2, 26, .inl v))) (mu_u _ _ _ _))) hP
            refine lv_aload_n hx hb dX4_make_81 rfl (lv_at hl 0 rfl) ?_
            refine lv_iload_n hx hb dX4_make_82 rfl (lv_at hl 1 rfl) ?_
            refine lv_iconst (v := nI 2) hx hb dX4_make_83 (by decide) ?_
            refine lv_iload_n hx hb dX4_make_84 rfl (lv_at hl 3 rfl) ?_
            refine nv_imul hx hb dX4_make_85 ?_
            refine lv_iload hx hb dX4_make_86 (lv_at hl 4 rfl) ?_
            refine kc_i (va_runS (As := [.int (nI b9)]) (rest := [.int (nI (2 * a9)), .int (nI s9), .ref md]) ⟨hx, hb, hml, hown, hts⟩ (c_X4_minus l G B (mu (mu μ ab (.inl (G.2 0, 3744, .inr (.inl g78)))) av (.inl (G.2 2, 26, .inl v))) b9 (by omega)) (va_cwS 1 hts gX4_make_X4_minus rfl rfl rfl (by decide +kernel) ⟨Nat.le_of_ble_eq_true rfl, Nat.le_of_ble_eq_true rfl⟩) ⟨KW.blind, fun U9 hU9 hW9 => ⟨rfl, KW.pre hBs hKK hS hP U9 hU9 hW9⟩⟩ rfl rfl hl.1 rfl (lv_room (Nat.le_of_ble_eq_true rfl)) dX4_make_88 ⟨(Nat.le_of_ble_eq_true rfl), (Nat.le_of_ble_eq_true rfl)⟩) hS (fun r88 m88 H locs hq9 hP hz9 hS => ?_)
            obtain ⟨he9, rfl⟩ := hq9
            rw [he9] at hP
            have hne88 := ne_lt (p := b9) (by omega)
            refine lv_iload hx hb dX4_make_91 (lv_at hl 5 rfl) ?_
            refine lv_i2l (v := y9.toInt64) hx hb dX4_make_93 rfl ?_
            refine kc_v (va_runV (As := [.int (nI s9), .int (nI (2 * a9)), .int (nI (ne b9)), .long y9.toInt64]) (rest := []) ⟨hx, hb, hml, hown, hts⟩ (c_X4_set l G B (mu (mu μ ab (.inl (G.2 0, 3744, .inr (.inl g78)))) av (.inl (G.2 2, 26, .inl v))) md ab av c1 c2 c3 c4 c5 c6 c7 c8 c9 fl st g78 v s9 (2 * a9) (ne b9) y9.toInt64 ((mu_n ne0_2).trans ((mu_n ne0_1).trans (hm))) ((mu_n ((mp_ne hab hav (by simp)))).trans (mu_s _ _ _)) (mu_s _ _ _) (by omega) (by omega) (by omega)) (cwV 4 hts gX4_make_X4_set rfl rfl rfl (by decide +kernel) ⟨Nat.le_of_ble_eq_true rfl, Nat.le_of_ble_eq_true rfl⟩) ⟨KW.blind, hP.recv hK rfl ((mu_n ne0_2).trans ((mu_n ne0_1).trans (hm))), fun U9 hU9 hW9 => ⟨rfl, KW.pre hBs hKK hS hP U9 hU9 hW9⟩⟩ rfl rfl hl.1 rfl (lv_room (Nat.le_of_ble_eq_true rfl)) dX4_make_94 ⟨(Nat.le_of_ble_eq_true rfl), (Nat.le_of_ble_eq_true rfl)⟩) hS (fun m94 H locs hq9 hP hz9 hS => ?_)
            rw [hq9] at hP
            have hP : mw G.1 vwCl B (mu (mu μ ab (.inl (G.2 0, 3744, .inr (.inl (stf g78 s9 (2 * a9) (ne b9) y9.toInt64))))) av (.inl (G.2 2, 26, .inl v))) _ := mw_eq ((mu_c _ _ ((mp_ne hav hab (by simp)))).trans (congrArg (fun z => mu z av (.inl (G.2 2, 26, .inl v))) (mu_u _ _ _ _))) hP
            refine lv_aload_n hx hb dX4_make_97 rfl (lv_at hl 0 rfl) ?_
            refine lv_iload_n hx hb dX4_make_98 rfl (lv_at hl 1 rfl) ?_
            refine lv_iconst (v := nI 2) hx hb dX4_make_99 (by decide) ?_
            refine lv_iload_n hx hb dX4_make_100 rfl (lv_at hl 3 rfl) ?_
            refine nv_imul hx hb dX4_make_101 ?_
            refine lv_iconst (v := nI 1) hx hb dX4_make_102 (by decide) ?_
            refine nv_iadd hx hb dX4_make_103 ?_
            refine lv_iload hx hb dX4_make_104 (lv_at hl 4 rfl) ?_
            refine lv_iload hx hb dX4_make_106 (lv_at hl 5 rfl) ?_
            refine lv_i2l (v := y9.toInt64) hx hb dX4_make_108 rfl ?_
            refine lv_lneg hx hb dX4_make_109 ?_
            refine kc_v (va_runV (As := [.int (nI s9), .int (nI ((2 * a9) + 1)), .int (nI b9), .long (-y9.toInt64)]) (rest := []) ⟨hx, hb, hml, hown, hts⟩ (c_X4_set l G B (mu (mu μ ab (.inl (G.2 0, 3744, .inr (.inl (stf g78 s9 (2 * a9) (ne b9) y9.toInt64))))) av (.inl (G.2 2, 26, .inl v))) md ab av c1 c2 c3 c4 c5 c6 c7 c8 c9 fl st (stf g78 s9 (2 * a9) (ne b9) y9.toInt64) v s9 ((2 * a9) + 1) b9 (-y9.toInt64) ((mu_n ne0_2).trans ((mu_n ne0_1).trans (hm))) ((mu_n ((mp_ne hab hav (by simp)))).trans (mu_s _ _ _)) (mu_s _ _ _) (by omega) (by omega) (by omega)) (cwV 4 hts gX4_make_X4_set rfl rfl rfl (by decide +kernel) ⟨Nat.le_of_ble_eq_true rfl, Nat.le_of_ble_eq_true rfl⟩) ⟨KW.blind, hP.recv hK rfl ((mu_n ne0_2).trans ((mu_n ne0_1).trans (hm))), fun U9 hU9 hW9 => ⟨rfl, KW.pre hBs hKK hS hP U9 hU9 hW9⟩⟩ rfl rfl hl.1 rfl (lv_room (Nat.le_of_ble_eq_true rfl)) dX4_make_110 ⟨(Nat.le_of_ble_eq_true rfl), (Nat.le_of_ble_eq_true rfl)⟩) hS (fun m110 H locs hq9 hP hz9 hS => ?_)
            rw [hq9] at hP
            have hP : mw G.1 vwCl B (mu (mu μ ab (.inl (G.2 0, 3744, .inr (.inl (stf (stf g78 s9 (2 * a9) (ne b9) y9.toInt64) s9 ((2 * a9) + 1) b9 (-y9.toInt64)))))) av (.inl (G.2 2, 26, .inl v))) _ := mw_eq ((mu_c _ _ ((mp_ne hav hab (by simp)))).trans (congrArg (fun z => mu z av (.inl (G.2 2, 26, .inl v))) (mu_u _ _ _ _))) hP
            refine lv_goto (tgt := 155) hx hb dX4_make_113 (by decide) ?_
            refine lv_aload_n hx hb dX4_make_155 rfl (lv_at hl 0 rfl) ?_
            refine lv_iload_n hx hb dX4_make_156 rfl (lv_at hl 1 rfl) ?_
            refine kc_v (va_runV (As := [.int (nI s9)]) (rest := []) ⟨hx, hb, hml, hown, hts⟩ (m_X4_close l G B (mu (mu μ ab (.inl (G.2 0, 3744, .inr (.inl (stf (stf g78 s9 (2 * a9) (ne b9) y9.toInt64) s9 ((2 * a9) + 1) b9 (-y9.toInt64)))))) av (.inl (G.2 2, 26, .inl v))) md ab av c1 c2 c3 c4 c5 c6 c7 c8 c9 fl st (stf (stf g78 s9 (2 * a9) (ne b9) y9.toInt64) s9 ((2 * a9) + 1) b9 (-y9.toInt64)) v s9 ((mu_n ne0_2).trans ((mu_n ne0_1).trans (hm))) ((mu_n ((mp_ne hab hav (by simp)))).trans (mu_s _ _ _)) (mu_s _ _ _) (by omega) ((hA78.st (by omega) (by omega)).st (by omega) (by omega)) hvb) (cwV 1 hts gX4_make_X4_close rfl rfl rfl (by decide +kernel) ⟨Nat.le_of_ble_eq_true rfl, Nat.le_of_ble_eq_true rfl⟩) ⟨KW.blind, hP.recv hK rfl ((mu_n ne0_2).trans ((mu_n ne0_1).trans (hm))), fun U9 hU9 hW9 => ⟨rfl, KW.pre hBs hKK hS hP U9 hU9 hW9⟩⟩ rfl rfl hl.1 rfl (lv_room (Nat.le_of_ble_eq_true rfl)) dX4_make_157 ⟨(Nat.le_of_ble_eq_true rfl), (Nat.le_of_ble_eq_true rfl)⟩) hS (fun m157 H locs hq9 hP hz9 hS => ?_)
            obtain ⟨g157, w157, he157, hsy157, hvb157⟩ := hq9
            rw [he157] at hP
            have hP : mw G.1 vwCl B (mu (mu μ ab (.inl (G.2 0, 3744, .inr (.inl g157)))) av (.inl (G.2 2, 26, .inl w157))) _ := mw_eq ((congrArg (fun z => mu z av (.inl (G.2 2, 26, .inl w157))) ((mu_c _ _ ((mp_ne hav hab (by simp)))).trans (congrArg (fun z => mu z av (.inl (G.2 2, 26, .inl v))) (mu_u _ _ _ _)))).trans (mu_u _ _ _ _)) hP
            rw [hQ]
            exact W.vret hx hb hr (fun t99 ht99 hW99 => ⟨⟨mu (mu μ ab (.inl (G.2 0, 3744, .inr (.inl g157)))) av (.inl (G.2 2, 26, .inl w157)), rfl, (⟨_, _, rfl, hsy157, hvb157⟩), by show mw _ _ _ _ t99.heap; rw [ht99]; exact hP⟩, hS.F ht99⟩) hS.2.2 dX4_make_160
        · refine lv_aload_n hx hb dX4_make_56 rfl (lv_at hl 0 rfl) ?_
          refine lv_iload_n hx hb dX4_make_57 rfl (lv_at hl 1 rfl) ?_
          refine lv_iload_n hx hb dX4_make_58 rfl (lv_at hl 3 rfl) ?_
          refine lv_iload hx hb dX4_make_59 (lv_at hl 4 rfl) ?_
          refine lv_iload hx hb dX4_make_61 (lv_at hl 5 rfl) ?_
          refine lv_i2l (v := y9.toInt64) hx hb dX4_make_63 rfl ?_
          refine kc_v (va_runV (As := [.int (nI s9), .int (nI a9), .int (nI b9), .long y9.toInt64]) (rest := []) ⟨hx, hb, hml, hown, hts⟩ (m_X4_shift l G B (mu (mu μ ab (.inl (G.2 0, 3744, .inr (.inl f)))) av (.inl (G.2 2, 26, .inl v))) md ab av c1 c2 c3 c4 c5 c6 c7 c8 c9 fl st f v s9 a9 b9 y9.toInt64 ((mu_n ne0_2).trans ((mu_n ne0_1).trans (hm))) ((mu_n ((mp_ne hab hav (by simp)))).trans (mu_s _ _ _)) (mu_s _ _ _) (by omega) (by omega) (by omega) (hsy) (hvb)) (cwV 4 hts gX4_make_X4_shift rfl rfl rfl (by decide +kernel) ⟨Nat.le_of_ble_eq_true rfl, Nat.le_of_ble_eq_true rfl⟩) ⟨KW.blind, hP.recv hK rfl ((mu_n ne0_2).trans ((mu_n ne0_1).trans (hm))), fun U9 hU9 hW9 => ⟨rfl, KW.pre hBs hKK hS hP U9 hU9 hW9⟩⟩ rfl rfl hl.1 rfl (lv_room (Nat.le_of_ble_eq_true rfl)) dX4_make_64 ⟨(Nat.le_of_ble_eq_true rfl), (Nat.le_of_ble_eq_true rfl)⟩) hS (fun m64 H locs hq9 hP hz9 hS => ?_)
          obtain ⟨g64, w64, he64, hsy64, hvb64⟩ := hq9
          rw [he64] at hP
          have hP : mw G.1 vwCl B (mu (mu μ ab (.inl (G.2 0, 3744, .inr (.inl g64)))) av (.inl (G.2 2, 26, .inl w64))) _ := mw_eq ((congrArg (fun z => mu z av (.inl (G.2 2, 26, .inl w64))) ((mu_c _ _ ((mp_ne hav hab (by simp)))).trans (congrArg (fun z => mu z av (.inl (G.2 2, 26, .inl v))) (mu_u _ _ _ _)))).trans (mu_u _ _ _ _)) hP
          refine lv_goto (tgt := 155) hx hb dX4_make_67 (by decide) ?_
          refine lv_aload_n hx hb dX4_make_155 rfl (lv_at hl 0 rfl) ?_
          refine lv_iload_n hx hb dX4_make_156 rfl (lv_at hl 1 rfl) ?_
          refine kc_v (va_runV (As := [.int (nI s9)]) (rest := []) ⟨hx, hb, hml, hown, hts⟩ (m_X4_close l G B (mu (mu μ ab (.inl (G.2 0, 3744, .inr (.inl g64)))) av (.inl (G.2 2, 26, .inl w64))) md ab av c1 c2 c3 c4 c5 c6 c7 c8 c9 fl st g64 w64 s9 ((mu_n ne0_2).trans ((mu_n ne0_1).trans (hm))) ((mu_n ((mp_ne hab hav (by simp)))).trans (mu_s _ _ _)) (mu_s _ _ _) (by omega) hsy64 hvb64) (cwV 1 hts gX4_make_X4_close rfl rfl rfl (by decide +kernel) ⟨Nat.le_of_ble_eq_true rfl, Nat.le_of_ble_eq_true rfl⟩) ⟨KW.blind, hP.recv hK rfl ((mu_n ne0_2).trans ((mu_n ne0_1).trans (hm))), fun U9 hU9 hW9 => ⟨rfl, KW.pre hBs hKK hS hP U9 hU9 hW9⟩⟩ rfl rfl hl.1 rfl (lv_room (Nat.le_of_ble_eq_true rfl)) dX4_make_157 ⟨(Nat.le_of_ble_eq_true rfl), (Nat.le_of_ble_eq_true rfl)⟩) hS (fun m157 H locs hq9 hP hz9 hS => ?_)
          obtain ⟨g157, w157, he157, hsy157, hvb157⟩ := hq9
          rw [he157] at hP
          have hP : mw G.1 vwCl B (mu (mu μ ab (.inl (G.2 0, 3744, .inr (.inl g157)))) av (.inl (G.2 2, 26, .inl w157))) _ := mw_eq ((congrArg (fun z => mu z av (.inl (G.2 2, 26, .inl w157))) ((mu_c _ _ ((mp_ne hav hab (by simp)))).trans (congrArg (fun z => mu z av (.inl (G.2 2, 26, .inl w64))) (mu_u _ _ _ _)))).trans (mu_u _ _ _ _)) hP
          rw [hQ]
          exact W.vret hx hb hr (fun t99 ht99 hW99 => ⟨⟨mu (mu μ ab (.inl (G.2 0, 3744, .inr (.inl g157)))) av (.inl (G.2 2, 26, .inl w157)), rfl, (⟨_, _, rfl, hsy157, hvb157⟩), by show mw _ _ _ _ t99.heap; rw [ht99]; exact hP⟩, hS.F ht99⟩) hS.2.2 dX4_make_160
    · exact absurd hc11 (by decide)
  · rw [hQ]
    exact W.vret hx hb hr (fun t99 ht99 hW99 => ⟨⟨mu (mu μ ab (.inl (G.2 0, 3744, .inr (.inl f)))) av (.inl (G.2 2, 26, .inl v)), rfl, (⟨_, _, rfl, hsy, hvb⟩), by show mw _ _ _ _ t99.heap; rw [ht99]; exact hP⟩, hS.F ht99⟩) hS.2.2 dX4_make_9

set_option maxHeartbeats 4000000 in
set_option maxRecDepth 100000 in
theorem m_X4_make_2 (l : Launch) (G : GG) (B : Nat) (μ : mp) (md ab av c1 c2 c3 c4 c5 c6 c7 c8 c9 fl st : Nat) (f : Nat → Int64) (v : Nat → Int32) (s9 a9 : Nat) (b9 y9 : Int32) (hm : μ md = some (.inr (4, [.int (nI fl), .ref ab, .ref av, .int (nI st), .ref c1, .ref c2, .ref c3, .ref c4, .ref c5, .ref c6, .ref c7, .ref c8, .ref c9]))) (hab : μ ab = some (.inl (G.2 0, 3744, .inr (.inl f)))) (hav : μ av = some (.inl (G.2 2, 26, .inl v))) (hs9 : s9 < 26) (ha9 : a9 < 6) (hsy : Sym f) (hvb : VB v) : Met l yX4_make wsX4_make rn_X4_make (va_Pc [.ref md, .int (nI s9), .int (nI 2), .int (nI a9), .int b9, .int y9] (KW G B μ)) (va_Qv (fun μ2 => ∃ (g9 : Nat → Int64) (w9 : Nat → Int32), μ2 = mu (mu μ ab (.inl (G.2 0, 3744, .inr (.inl g9)))) av (.inl (G.2 2, 26, .inl w9)) ∧ Sym g9 ∧ VB w9) (BB G B) (fun q => B ≤ q)) 0 0 (fun q => B ≤ q) := by
  refine Met.ofW (cc := cX4_make) (maxL := 6) (ret := none) (by decide) rfl ?_
  intro p e s m args below meth c s₁ B9 hml hv
  obtain ⟨hargs, hBs, hP, hKK⟩ := hv
  have hx := B9.exec
  have hb := B9.bytes
  have hr := B9.returns
  have hts := atoms_spec (ws := wsX4_make) B9.pre
  have hown : s.vm.findClass RX4 = some m.cls := findClass_of_methodNamed B9.named
  have hlocks := B9.notSynchronized
  have hK := hKK.k
  have hS : va_S (fun q => B ≤ q) s.heap s.heap [] := va_S.rf
  obtain ⟨Q, hQ⟩ : ∃ Q, Q = MQ below (va_Qv (fun μ2 => ∃ (g9 : Nat → Int64) (w9 : Nat → Int32), μ2 = mu (mu μ ab (.inl (G.2 0, 3744, .inr (.inl g9)))) av (.inl (G.2 2, 26, .inl w9)) ∧ Sym g9 ∧ VB w9) (BB G B) (fun q => B ≤ q)) args s 0 0 (fun q => B ≤ q) := ⟨_, rfl⟩
  rw [← hQ]
  have ne0_1 : md ≠ ab := mp_ne hm hab (by simp)
  have ne0_2 : md ≠ av := mp_ne hm hav (by simp)
  have in_X4_make_X4 : ∀ w ∈ wsX40, w ∈ wsX4_make := by decide +kernel
  have hP : mw G.1 vwCl B (mu (mu μ ab (.inl (G.2 0, 3744, .inr (.inl f)))) av (.inl (G.2 2, 26, .inl v))) s.heap := mw_eq ((congrArg (fun z => mu z av (.inl (G.2 2, 26, .inl v))) (mu_i hab)).trans (mu_i hav)).symm hP
  have hl := lv_entry ([.ref md, .int (nI s9), .int (nI 2), .int (nI a9), .int b9, .int y9]) (n := 6) (Nat.le_of_ble_eq_true rfl)
  have he9 : entryFrame m args 6 = entryFrame m ([.ref md, .int (nI s9), .int (nI 2), .int (nI a9), .int b9, .int y9] : List Value).toArray 6 := by rw [hargs]
  rw [he9, lg_entry_eq]
  generalize (lg_sl ([.ref md, .int (nI s9), .int (nI 2), .int (nI a9), .int b9, .int y9]) ++ List.replicate (6 - (lg_sl ([.ref md, .int (nI s9), .int (nI 2), .int (nI a9), .int b9, .int y9])).length) Slot.unset).toArray = ls at hl ⊢
  have hl : lv_has ls 6 [(0, .ref md), (1, .int (nI s9)), (2, .int (nI 2)), (3, .int (nI a9)), (4, .int b9), (5, .int y9)] := hl
  refine lv_aload_n hx hb dX4_make_0 rfl (lv_at hl 0 rfl) ?_
  refine mw_get (C := RX4) (T := TX4) (N := 13) hx hb hts in_X4_make_X4 hown hK hP ((mu_n ne0_2).trans ((mu_n ne0_1).trans (hm))) rfl 2 (by decide) (hts (.fieldLink RX4 13 "OctagonDeskModel" "isVoid" "[Z") (by decide +kernel)) (fun _ h9 => h9) rfl dX4_make_1 ?_
  refine lv_iload_n hx hb dX4_make_4 rfl (lv_at hl 1 rfl) ?_
  refine mw_zald hx hb hK hP 2 (mu_s _ _ _) rfl (by omega) (by omega) dX4_make_5 ?_
  refine lv_if_eq (tgt := 10) hx hb dX4_make_6 (by decide) (fun hc6 => ?_) (fun hc6 => ?_)
  · refine lv_iload_n hx hb dX4_make_10 rfl (lv_at hl 2 rfl) ?_
    refine lv_if_ne (tgt := 43) hx hb dX4_make_11 (by decide) (fun hc11 => ?_) (fun hc11 => ?_)
    · refine lv_iload_n hx hb dX4_make_43 rfl (lv_at hl 2 rfl) ?_
      refine lv_iconst (v := nI 1) hx hb dX4_make_44 (by decide) ?_
      refine nv_icmp_ne (tgt := 70) hx hb (by omega) (by omega) dX4_make_45 (by decide) (fun hc45 => ?_) (fun hc45 => ?_)
      · refine lv_iload_n hx hb dX4_make_70 rfl (lv_at hl 2 rfl) ?_
        refine lv_iconst (v := nI 1) hx hb dX4_make_71 (by decide) ?_
        refine nv_icmp_ne (tgt := 116) hx hb (by omega) (by omega) dX4_make_72 (by decide) (fun hc72 => ?_) (fun hc72 => ?_)
        · refine lv_aload_n hx hb dX4_make_116 rfl (lv_at hl 0 rfl) ?_
          refine lv_iload_n hx hb dX4_make_117 rfl (lv_at hl 1 rfl) ?_
          refine lv_iload_n hx hb dX4_make_118 rfl (lv_at hl 3 rfl) ?_
          refine kc_v (va_runV (As := [.int (nI s9), .int (nI a9)]) (rest := []) ⟨hx, hb, hml, hown, hts⟩ (m_X4_drop l G B (mu (mu μ ab (.inl (G.2 0, 3744, .inr (.inl f)))) av (.inl (G.2 2, 26, .inl v))) md ab av c1 c2 c3 c4 c5 c6 c7 c8 c9 fl st f v s9 a9 ((mu_n ne0_2).trans ((mu_n ne0_1).trans (hm))) ((mu_n ((mp_ne hab hav (by simp)))).trans (mu_s _ _ _)) (mu_s _ _ _) (by omega) (by omega) (hsy)) (cwV 2 hts gX4_make_X4_drop rfl rfl rfl (by decide +kernel) ⟨Nat.le_of_ble_eq_true rfl, Nat.le_of_ble_eq_true rfl⟩) ⟨KW.blind, hP.recv hK rfl ((mu_n ne0_2).trans ((mu_n ne0_1).trans (hm))), fun U9 hU9 hW9 => ⟨rfl, KW.pre hBs hKK hS hP U9 hU9 hW9⟩⟩ rfl rfl hl.1 rfl (lv_room (Nat.le_of_ble_eq_true rfl)) dX4_make_119 ⟨(Nat.le_of_ble_eq_true rfl), (Nat.le_of_ble_eq_true rfl)⟩) hS (fun m119 H locs hq9 hP hz9 hS => ?_)
          obtain ⟨g119, he119, hA119⟩ := hq9
          rw [he119] at hP
          have hP : mw G.1 vwCl B (mu (mu μ ab (.inl (G.2 0, 3744, .inr (.inl g119)))) av (.inl (G.2 2, 26, .inl v))) _ := mw_eq ((mu_c _ _ ((mp_ne hav hab (by simp)))).trans (congrArg (fun z => mu z av (.inl (G.2 2, 26, .inl v))) (mu_u _ _ _ _))) hP
          refine lv_aload_n hx hb dX4_make_122 rfl (lv_at hl 0 rfl) ?_
          refine lv_iload_n hx hb dX4_make_123 rfl (lv_at hl 1 rfl) ?_
          refine lv_iconst (v := nI 2) hx hb dX4_make_124 (by decide) ?_
          refine lv_iload_n hx hb dX4_make_125 rfl (lv_at hl 3 rfl) ?_
          refine nv_imul hx hb dX4_make_126 ?_
          refine lv_iconst (v := nI 2) hx hb dX4_make_127 (by decide) ?_
          refine lv_iload_n hx hb dX4_make_128 rfl (lv_at hl 3 rfl) ?_
          refine nv_imul hx hb dX4_make_129 ?_
          refine lv_iload hx hb dX4_make_130 (lv_at hl 5 rfl) ?_
          refine lv_i2l (v := y9.toInt64) hx hb dX4_make_132 rfl ?_
          refine kc_v (va_runV (As := [.int (nI s9), .int (nI (2 * a9)), .int (nI (2 * a9)), .long y9.toInt64]) (rest := []) ⟨hx, hb, hml, hown, hts⟩ (c_X4_set l G B (mu (mu μ ab (.inl (G.2 0, 3744, .inr (.inl g119)))) av (.inl (G.2 2, 26, .inl v))) md ab av c1 c2 c3 c4 c5 c6 c7 c8 c9 fl st g119 v s9 (2 * a9) (2 * a9) y9.toInt64 ((mu_n ne0_2).trans ((mu_n ne0_1).trans (hm))) ((mu_n ((mp_ne hab hav (by simp)))).trans (mu_s _ _ _)) (mu_s _ _ _) (by omega) (by omega) (by omega)) (cwV 4 hts gX4_make_X4_set rfl rfl rfl (by decide +kernel) ⟨Nat.le_of_ble_eq_true rfl, Nat.le_of_ble_eq_true rfl⟩) ⟨KW.blind, hP.recv hK rfl ((mu_n ne0_2).trans ((mu_n ne0_1).trans (hm))), fun U9 hU9 hW9 => ⟨rfl, KW.pre hBs hKK hS hP U9 hU9 hW9⟩⟩ rfl rfl hl.1 rfl (lv_room (Nat.le_of_ble_eq_true rfl)) dX4_make_133 ⟨(Nat.le_of_ble_eq_true rfl), (Nat.le_of_ble_eq_true rfl)⟩) hS (fun m133 H locs hq9 hP hz9 hS => ?_)
          rw [hq9] at hP
          have hP : mw G.1 vwCl B (mu (mu μ ab (.inl (G.2 0, 3744, .inr (.inl (stf g119 s9 (2 * a9) (2 * a9) y9.toInt64))))) av (.inl (G.2 2, 26, .inl v))) _ := mw_eq ((mu_c _ _ ((mp_ne hav hab (by simp)))).trans (congrArg (fun z => mu z av (.inl (G.2 2, 26, .inl v))) (mu_u _ _ _ _))) hP
          refine lv_aload_n hx hb dX4_make_136 rfl (lv_at hl 0 rfl) ?_
          refine lv_iload_n hx hb dX4_make_137 rfl (lv_at hl 1 rfl) ?_
          refine lv_iconst (v := nI 2) hx hb dX4_make_138 (by decide) ?_
          refine lv_iload_n hx hb dX4_make_139 rfl (lv_at hl 3 rfl) ?_
          refine nv_imul hx hb dX4_make_140 ?_
          refine lv_iconst (v := nI 1) hx hb dX4_make_141 (by decide) ?_
          refine nv_iadd hx hb dX4_make_142 ?_
          refine lv_iconst (v := nI 2) hx hb dX4_make_143 (by decide) ?_
          refine lv_iload_n hx hb dX4_make_144 rfl (lv_at hl 3 rfl) ?_
          refine nv_imul hx hb dX4_make_145 ?_
          refine lv_iconst (v := nI 1) hx hb dX4_make_146 (by decide) ?_
          refine nv_iadd hx hb dX4_make_147 ?_
          refine lv_iload hx hb dX4_make_148 (lv_at hl 4 rfl) ?_
          refine lv_i2l (v := b9.toInt64) hx hb dX4_make_150 rfl ?_
          refine lv_lneg hx hb dX4_make_151 ?_
          refine kc_v (va_runV (As := [.int (nI s9), .int (nI ((2 * a9) + 1)), .int (nI ((2 * a9) + 1)), .long (-b9.toInt64)]) (rest := []) ⟨hx, hb, hml, hown, hts⟩ (c_X4_set l G B (mu (mu μ ab (.inl (G.2 0, 3744, .inr (.inl (stf g119 s9 (2 * a9) (2 * a9) y9.toInt64))))) av (.inl (G.2 2, 26, .inl v))) md ab av c1 c2 c3 c4 c5 c6 c7 c8 c9 fl st (stf g119 s9 (2 * a9) (2 * a9) y9.toInt64) v s9 ((2 * a9) + 1) ((2 * a9) + 1) (-b9.toInt64) ((mu_n ne0_2).trans ((mu_n ne0_1).trans (hm))) ((mu_n ((mp_ne hab hav (by simp)))).trans (mu_s _ _ _)) (mu_s _ _ _) (by omega) (by omega) (by omega)) (cwV 4 hts gX4_make_X4_set rfl rfl rfl (by decide +kernel) ⟨Nat.le_of_ble_eq_true rfl, Nat.le_of_ble_eq_true rfl⟩) ⟨KW.blind, hP.recv hK rfl ((mu_n ne0_2).trans ((mu_n ne0_1).trans (hm))), fun U9 hU9 hW9 => ⟨rfl, KW.pre hBs hKK hS hP U9 hU9 hW9⟩⟩ rfl rfl hl.1 rfl (lv_room (Nat.le_of_ble_eq_true rfl)) dX4_make_152 ⟨(Nat.le_of_ble_eq_true rfl), (Nat.le_of_ble_eq_true rfl)⟩) hS (fun m152 H locs hq9 hP hz9 hS => ?_)
          rw [hq9] at hP
          have hP : mw G.1 vwCl B (mu (mu μ ab (.inl (G.2 0, 3744, .inr (.inl (stf (stf g119 s9 (2 * a9) (2 * a9) y9.toInt64) s9 ((2 * a9) + 1) ((2 * a9) + 1) (-b9.toInt64)))))) av (.inl (G.2 2, 26, .inl v))) _ := mw_eq ((mu_c _ _ ((mp_ne hav hab (by simp)))).trans (congrArg (fun z => mu z av (.inl (G.2 2, 26, .inl v))) (mu_u _ _ _ _))) hP
          refine lv_aload_n hx hb dX4_make_155 rfl (lv_at hl 0 rfl) ?_
          refine lv_iload_n hx hb dX4_make_156 rfl (lv_at hl 1 rfl) ?_
          refine kc_v (va_runV (As := [.int (nI s9)]) (rest := []) ⟨hx, hb, hml, hown, hts⟩ (m_X4_close l G B (mu (mu μ ab (.inl (G.2 0, 3744, .inr (.inl (stf (stf g119 s9 (2 * a9) (2 * a9) y9.toInt64) s9 ((2 * a9) + 1) ((2 * a9) + 1) (-b9.toInt64)))))) av (.inl (G.2 2, 26, .inl v))) md ab av c1 c2 c3 c4 c5 c6 c7 c8 c9 fl st (stf (stf g119 s9 (2 * a9) (2 * a9) y9.toInt64) s9 ((2 * a9) + 1) ((2 * a9) + 1) (-b9.toInt64)) v s9 ((mu_n ne0_2).trans ((mu_n ne0_1).trans (hm))) ((mu_n ((mp_ne hab hav (by simp)))).trans (mu_s _ _ _)) (mu_s _ _ _) (by omega) ((hA119.st (by omega) (by omega)).st (by omega) (by omega)) hvb) (cwV 1 hts gX4_make_X4_close rfl rfl rfl (by decide +kernel) ⟨Nat.le_of_ble_eq_true rfl, Nat.le_of_ble_eq_true rfl⟩) ⟨KW.blind, hP.recv hK rfl ((mu_n ne0_2).trans ((mu_n ne0_1).trans (hm))), fun U9 hU9 hW9 => ⟨rfl, KW.pre hBs hKK hS hP U9 hU9 hW9⟩⟩ rfl rfl hl.1 rfl (lv_room (Nat.le_of_ble_eq_true rfl)) dX4_make_157 ⟨(Nat.le_of_ble_eq_true rfl), (Nat.le_of_ble_eq_true rfl)⟩) hS (fun m157 H locs hq9 hP hz9 hS => ?_)
          obtain ⟨g157, w157, he157, hsy157, hvb157⟩ := hq9
          rw [he157] at hP
          have hP : mw G.1 vwCl B (mu (mu μ ab (.inl (G.2 0, 3744, .inr (.inl g157)))) av (.inl (G.2 2, 26, .inl w157))) _ := mw_eq ((congrArg (fun z => mu z av (.inl (G.2 2, 26, .inl w157))) ((mu_c _ _ ((mp_ne hav hab (by simp)))).trans (congrArg (fun z => mu z av (.inl (G.2 2, 26, .inl v))) (mu_u _ _ _ _)))).trans (mu_u _ _ _ _)) hP
          rw [hQ]
          exact W.vret hx hb hr (fun t99 ht99 hW99 => ⟨⟨mu (mu μ ab (.inl (G.2 0, 3744, .inr (.inl g157)))) av (.inl (G.2 2, 26, .inl w157)), rfl, (⟨_, _, rfl, hsy157, hvb157⟩), by show mw _ _ _ _ t99.heap; rw [ht99]; exact hP⟩, hS.F ht99⟩) hS.2.2 dX4_make_160
        · exact absurd hc72 (by decide)
      · exact absurd hc45 (by decide)
    · exact absurd hc11 (by decide)
  · rw [hQ]
    exact W.vret hx hb hr (fun t99 ht99 hW99 => ⟨⟨mu (mu μ ab (.inl (G.2 0, 3744, .inr (.inl f)))) av (.inl (G.2 2, 26, .inl v)), rfl, (⟨_, _, rfl, hsy, hvb⟩), by show mw _ _ _ _ t99.heap; rw [ht99]; exact hP⟩, hS.F ht99⟩) hS.2.2 dX4_make_9

abbrev rn_X4_joined : Room := { frames := 1, cells := 0, slots := 0, locals := 23 }
set_option maxHeartbeats 4000000 in
set_option maxRecDepth 100000 in
theorem m_X4_joined (l : Launch) (G : GG) (B : Nat) (μ : mp) (md ab av c1 c2 c3 c4 c5 c6 c7 c8 c9 fl st : Nat) (f : Nat → Int64) (v : Nat → Int32) (a9 b9 : Nat) (hm : μ md = some (.inr (4, [.int (nI fl), .ref ab, .ref av, .int (nI st), .ref c1, .ref c2, .ref c3, .ref c4, .ref c5, .ref c6, .ref c7, .ref c8, .ref c9]))) (hab : μ ab = some (.inl (G.2 0, 3744, .inr (.inl f)))) (hav : μ av = some (.inl (G.2 2, 26, .inl v))) (ha9 : a9 < 26) (hb9 : b9 < 26) (hb22 : b9 ≠ 22) (hsy : Sym f) (hvb : VB v) : Met l yX4_joined wsX4_joined rn_X4_joined (va_Pc [.ref md, .int (nI a9), .int (nI b9)] (KW G B μ)) (va_Qv (fun μ2 => ∃ (g9 : Nat → Int64) (w9 : Nat → Int32), μ2 = mu (mu μ ab (.inl (G.2 0, 3744, .inr (.inl g9)))) av (.inl (G.2 2, 26, .inl w9)) ∧ Sym g9 ∧ VB w9) (BB G B) (fun q => B ≤ q)) 0 0 (fun q => B ≤ q) := by
  refine Met.ofW (cc := cX4_joined) (maxL := 6) (ret := none) (by decide) rfl ?_
  intro p e s m args below meth c s₁ B9 hml hv
  obtain ⟨hargs, hBs, hP, hKK⟩ := hv
  have hx := B9.exec
  have hb := B9.bytes
  have hr := B9.returns
  have hts := atoms_spec (ws := wsX4_joined) B9.pre
  have hown : s.vm.findClass RX4 = some m.cls := findClass_of_methodNamed B9.named
  have hlocks := B9.notSynchronized
  have hK := hKK.k
  have hS : va_S (fun q => B ≤ q) s.heap s.heap [] := va_S.rf
  obtain ⟨Q, hQ⟩ : ∃ Q, Q = MQ below (va_Qv (fun μ2 => ∃ (g9 : Nat → Int64) (w9 : Nat → Int32), μ2 = mu (mu μ ab (.inl (G.2 0, 3744, .inr (.inl g9)))) av (.inl (G.2 2, 26, .inl w9)) ∧ Sym g9 ∧ VB w9) (BB G B) (fun q => B ≤ q)) args s 0 0 (fun q => B ≤ q) := ⟨_, rfl⟩
  rw [← hQ]
  have ne0_1 : md ≠ ab := mp_ne hm hab (by simp)
  have ne0_2 : md ≠ av := mp_ne hm hav (by simp)
  have in_X4_joined_X4 : ∀ w ∈ wsX40, w ∈ wsX4_joined := by decide +kernel
  have hP : mw G.1 vwCl B (mu (mu μ ab (.inl (G.2 0, 3744, .inr (.inl f)))) av (.inl (G.2 2, 26, .inl v))) s.heap := mw_eq ((congrArg (fun z => mu z av (.inl (G.2 2, 26, .inl v))) (mu_i hab)).trans (mu_i hav)).symm hP
  have L41 : ∀ (N41 : Nat) (k1 : Nat) (g0 : Nat → Int64) (g1 : Nat → Int64) (v1 : Nat → Int32) (hN41 : 144 - k1 < N41) (hk1 : k1 ≤ 144) (hs0 : Sym g0) (hv1 : VB v1) (hT : Th g0 g1 22 (hJ g0 b9) k1), ∀ (H : Heap) (locs : List Loc), mw G.1 vwCl B (mu (mu μ ab (.inl (G.2 0, 3744, .inr (.inl g1)))) av (.inl (G.2 2, 26, .inl v1))) H → va_S (fun q => B ≤ q) s.heap H locs → ∀ ls : Array Slot, lv_has ls 6 [(0, .ref md), (1, .int (nI a9)), (2, .int (nI b9)), (3, .int (nI k1))] → W p l e rn_X4_joined s m args below meth c H locs 0 0 Q (F0 m 41 ls []) := by
    intro N41
    induction N41 with
    | zero => intro k1 g0 g1 v1 hN41; exact absurd hN41 (Nat.not_lt_zero _)
    | succ N41 ih41 =>
      intro k1 g0 g1 v1 hN41 hk1 hs0 hv1 hT H locs hP hS ls hl
      refine lv_iload_n hx hb dX4_joined_41 rfl (lv_at hl 3 rfl) ?_
      refine lv_sipush (v := nI 144) hx hb dX4_joined_42 (by decide) ?_
      refine nv_icmp_ge (tgt := 109) hx hb (by omega) (by omega) dX4_joined_45 (by decide) (fun hc45 => ?_) (fun hc45 => ?_)
      · have e144 : k1 = 144 := by omega
        subst e144
        rw [hQ]
        exact W.vret hx hb hr (fun t99 ht99 hW99 => ⟨⟨mu (mu μ ab (.inl (G.2 0, 3744, .inr (.inl g1)))) av (.inl (G.2 2, 26, .inl v1)), rfl, (⟨_, _, rfl, (hs0.th hT (hJ_s hs0 hb9)), hv1⟩), by show mw _ _ _ _ t99.heap; rw [ht99]; exact hP⟩, hS.F ht99⟩) hS.2.2 dX4_joined_109
      · refine lv_aload_n hx hb dX4_joined_48 rfl (lv_at hl 0 rfl) ?_
        refine mw_get (C := RX4) (T := TX4) (N := 13) hx hb hts in_X4_joined_X4 hown hK hP ((mu_n ne0_2).trans ((mu_n ne0_1).trans (hm))) rfl 1 (by decide) (hts (.fieldLink RX4 7 "OctagonDeskModel" "bound" "[J") (by decide +kernel)) (fun _ h9 => h9) rfl dX4_joined_49 ?_
        refine lv_sipush (v := nI 144) hx hb dX4_joined_52 (by decide) ?_
        refine lv_iload_n hx hb dX4_joined_55 rfl (lv_at hl 2 rfl) ?_
        refine nv_imul hx hb dX4_joined_56 ?_
        refine lv_iload_n hx hb dX4_joined_57 rfl (lv_at hl 3 rfl) ?_
        refine nv_iadd hx hb dX4_joined_58 ?_
        refine mw_lald hx hb hK hP 0 ((mu_n ((mp_ne hab hav (by simp)))).trans (mu_s _ _ _)) rfl (by omega) (by omega) dX4_joined_59 ?_
        refine lv_topl (fun v60 ev60 => ?_)
        refine lv_lstore (lv' := [(4, .long v60), (0, .ref md), (1, .int (nI a9)), (2, .int (nI b9)), (3, .int (nI k1))]) hx hb dX4_joined_60 hl (by decide) rfl (fun ls hl => ?_)
        refine lv_aload_n hx hb dX4_joined_62 rfl (lv_at hl 1 rfl) ?_
        refine mw_get (C := RX4) (T := TX4) (N := 13) hx hb hts in_X4_joined_X4 hown hK hP ((mu_n ne0_2).trans ((mu_n ne0_1).trans (hm))) rfl 1 (by decide) (hts (.fieldLink RX4 7 "OctagonDeskModel" "bound" "[J") (by decide +kernel)) (fun _ h9 => h9) rfl dX4_joined_63 ?_
        refine lv_sipush (v := nI 3168) hx hb dX4_joined_66 (by decide) ?_
        refine lv_iload_n hx hb dX4_joined_69 rfl (lv_at hl 4 rfl) ?_
        refine nv_iadd hx hb dX4_joined_70 ?_
        refine lv_lload hx hb dX4_joined_71 (lv_at hl 0 rfl) ?_
        refine lv_aload_n hx hb dX4_joined_73 rfl (lv_at hl 1 rfl) ?_
        refine mw_get (C := RX4) (T := TX4) (N := 13) hx hb hts in_X4_joined_X4 hown hK hP ((mu_n ne0_2).trans ((mu_n ne0_1).trans (hm))) rfl 1 (by decide) (hts (.fieldLink RX4 7 "OctagonDeskModel" "bound" "[J") (by decide +kernel)) (fun _ h9 => h9) rfl dX4_joined_74 ?_
        refine lv_sipush (v := nI 3168) hx hb dX4_joined_77 (by decide) ?_
        refine lv_iload_n hx hb dX4_joined_80 rfl (lv_at hl 4 rfl) ?_
        refine nv_iadd hx hb dX4_joined_81 ?_
        refine mw_lald hx hb hK hP 0 ((mu_n ((mp_ne hab hav (by simp)))).trans (mu_s _ _ _)) rfl (by omega) (by omega) dX4_joined_82 ?_
        refine nl_if_le (tgt := 92) hx hb dX4_joined_83 dX4_joined_84 (by decide) (fun hc83 => ?_) (fun hc83 => ?_)
        · refine lv_aload_n hx hb dX4_joined_92 rfl (lv_at hl 1 rfl) ?_
          refine mw_get (C := RX4) (T := TX4) (N := 13) hx hb hts in_X4_joined_X4 hown hK hP ((mu_n ne0_2).trans ((mu_n ne0_1).trans (hm))) rfl 1 (by decide) (hts (.fieldLink RX4 7 "OctagonDeskModel" "bound" "[J") (by decide +kernel)) (fun _ h9 => h9) rfl dX4_joined_93 ?_
          refine lv_sipush (v := nI 3168) hx hb dX4_joined_96 (by decide) ?_
          refine lv_iload_n hx hb dX4_joined_99 rfl (lv_at hl 4 rfl) ?_
          refine nv_iadd hx hb dX4_joined_100 ?_
          refine mw_lald hx hb hK hP 0 ((mu_n ((mp_ne hab hav (by simp)))).trans (mu_s _ _ _)) rfl (by omega) (by omega) dX4_joined_101 ?_
          refine lv_topl (fun v102 ev102 => ?_)
          refine mw_last hx hb hK hP hS 0 ((mu_n ((mp_ne hab hav (by simp)))).trans (mu_s _ _ _)) rfl (by omega) (by omega) dX4_joined_102 (fun H locs hP hS => ?_)
          have hP : mw G.1 vwCl B (mu (mu μ ab (.inl (G.2 0, 3744, .inr (.inl (vp_updL g1 (3168 + k1) v102))))) av (.inl (G.2 2, 26, .inl v1))) _ := mw_eq ((mu_c _ _ ((mp_ne hav hab (by simp)))).trans (congrArg (fun z => mu z av (.inl (G.2 2, 26, .inl v1))) (mu_u _ _ _ _))) hP
          refine lv_iinc (v := nI (k1 + 1)) (lv' := [(3, .int (nI (k1 + 1))), (4, .long v60), (0, .ref md), (1, .int (nI a9)), (2, .int (nI b9))]) hx hb dX4_joined_103 hl (k := 4) rfl (nI_add _ _) (by decide) rfl (fun ls hl => ?_)
          refine lv_goto (tgt := 41) hx hb dX4_joined_106 (by decide) ?_
          exact ih41 (k1 + 1) g0 (vp_updL g1 (3168 + k1) v102) v1 (by omega) (by omega) (hs0) (hv1) (hT.s (by first | exact (hT.jt hb22 (by omega) ev60 rfl).2 hc83 | (rw [ev102]; exact (hT.jt hb22 (by omega) ev60 rfl).1 hc83))) _ _ hP hS ls (lv_sub hl [2, 3, 4, 0] rfl)
        · refine lv_lload hx hb dX4_joined_87 (lv_at hl 0 rfl) ?_
          refine lv_goto (tgt := 102) hx hb dX4_joined_89 (by decide) ?_
          refine mw_last hx hb hK hP hS 0 ((mu_n ((mp_ne hab hav (by simp)))).trans (mu_s _ _ _)) rfl (by omega) (by omega) dX4_joined_102 (fun H locs hP hS => ?_)
          have hP : mw G.1 vwCl B (mu (mu μ ab (.inl (G.2 0, 3744, .inr (.inl (vp_updL g1 (3168 + k1) v60))))) av (.inl (G.2 2, 26, .inl v1))) _ := mw_eq ((mu_c _ _ ((mp_ne hav hab (by simp)))).trans (congrArg (fun z => mu z av (.inl (G.2 2, 26, .inl v1))) (mu_u _ _ _ _))) hP
          refine lv_iinc (v := nI (k1 + 1)) (lv' := [(3, .int (nI (k1 + 1))), (4, .long v60), (0, .ref md), (1, .int (nI a9)), (2, .int (nI b9))]) hx hb dX4_joined_103 hl (k := 4) rfl (nI_add _ _) (by decide) rfl (fun ls hl => ?_)
          refine lv_goto (tgt := 41) hx hb dX4_joined_106 (by decide) ?_
          exact ih41 (k1 + 1) g0 (vp_updL g1 (3168 + k1) v60) v1 (by omega) (by omega) (hs0) (hv1) (hT.s (by first | exact (hT.jt hb22 (by omega) ev60 rfl).2 hc83 | (rw [ev102]; exact (hT.jt hb22 (by omega) ev60 rfl).1 hc83))) _ _ hP hS ls (lv_sub hl [2, 3, 4, 0] rfl)
  have hl := lv_entry ([.ref md, .int (nI a9), .int (nI b9)]) (n := 6) (Nat.le_of_ble_eq_true rfl)
  have he9 : entryFrame m args 6 = entryFrame m ([.ref md, .int (nI a9), .int (nI b9)] : List Value).toArray 6 := by rw [hargs]
  rw [he9, lg_entry_eq]
  generalize (lg_sl ([.ref md, .int (nI a9), .int (nI b9)]) ++ List.replicate (6 - (lg_sl ([.ref md, .int (nI a9), .int (nI b9)])).length) Slot.unset).toArray = ls at hl ⊢
  have hl : lv_has ls 6 [(0, .ref md), (1, .int (nI a9)), (2, .int (nI b9))] := hl
  refine lv_aload_n hx hb dX4_joined_0 rfl (lv_at hl 0 rfl) ?_
  refine lv_bipush (v := nI 22) hx hb dX4_joined_1 (by decide) ?_
  refine lv_aload_n hx hb dX4_joined_3 rfl (lv_at hl 0 rfl) ?_
  refine mw_get (C := RX4) (T := TX4) (N := 13) hx hb hts in_X4_joined_X4 hown hK hP ((mu_n ne0_2).trans ((mu_n ne0_1).trans (hm))) rfl 2 (by decide) (hts (.fieldLink RX4 13 "OctagonDeskModel" "isVoid" "[Z") (by decide +kernel)) (fun _ h9 => h9) rfl dX4_joined_4 ?_
  refine lv_iload_n hx hb dX4_joined_7 rfl (lv_at hl 1 rfl) ?_
  refine mw_zald hx hb hK hP 2 (mu_s _ _ _) rfl (by omega) (by omega) dX4_joined_8 ?_
  refine lv_if_eq (tgt := 16) hx hb dX4_joined_9 (by decide) (fun hc9 => ?_) (fun hc9 => ?_)
  · refine lv_iload_n hx hb dX4_joined_16 rfl (lv_at hl 1 rfl) ?_
    refine kc_v (va_runV (As := [.int (nI 22), .int (nI a9)]) (rest := []) ⟨hx, hb, hml, hown, hts⟩ (c_X4_load l G B (mu (mu μ ab (.inl (G.2 0, 3744, .inr (.inl f)))) av (.inl (G.2 2, 26, .inl v))) md ab av c1 c2 c3 c4 c5 c6 c7 c8 c9 fl st f v 22 a9 ((mu_n ne0_2).trans ((mu_n ne0_1).trans (hm))) ((mu_n ((mp_ne hab hav (by simp)))).trans (mu_s _ _ _)) (mu_s _ _ _) (by omega) (by omega) (hvb a9)) (cwV 2 hts gX4_joined_X4_load rfl rfl rfl (by decide +kernel) ⟨Nat.le_of_ble_eq_true rfl, Nat.le_of_ble_eq_true rfl⟩) ⟨KW.blind, hP.recv hK rfl ((mu_n ne0_2).trans ((mu_n ne0_1).trans (hm))), fun U9 hU9 hW9 => ⟨rfl, KW.pre hBs hKK hS hP U9 hU9 hW9⟩⟩ rfl rfl hl.1 rfl (lv_room (Nat.le_of_ble_eq_true rfl)) dX4_joined_17 ⟨(Nat.le_of_ble_eq_true rfl), (Nat.le_of_ble_eq_true rfl)⟩) hS (fun m17 H locs hq9 hP hz9 hS => ?_)
    obtain ⟨g17, he17, hL17⟩ := hq9
    rw [he17] at hP
    have hP : mw G.1 vwCl B (mu (mu μ ab (.inl (G.2 0, 3744, .inr (.inl g17)))) av (.inl (G.2 2, 26, .inl (upd v 22 (v a9))))) _ := mw_eq ((congrArg (fun z => mu z av (.inl (G.2 2, 26, .inl (upd v 22 (v a9))))) ((mu_c _ _ ((mp_ne hav hab (by simp)))).trans (congrArg (fun z => mu z av (.inl (G.2 2, 26, .inl v))) (mu_u _ _ _ _)))).trans (mu_u _ _ _ _)) hP
    refine lv_aload_n hx hb dX4_joined_20 rfl (lv_at hl 0 rfl) ?_
    refine mw_get (C := RX4) (T := TX4) (N := 13) hx hb hts in_X4_joined_X4 hown hK hP ((mu_n ne0_2).trans ((mu_n ne0_1).trans (hm))) rfl 2 (by decide) (hts (.fieldLink RX4 13 "OctagonDeskModel" "isVoid" "[Z") (by decide +kernel)) (fun _ h9 => h9) rfl dX4_joined_21 ?_
    refine lv_iload_n hx hb dX4_joined_24 rfl (lv_at hl 1 rfl) ?_
    refine mw_zald hx hb hK hP 2 (mu_s _ _ _) rfl (by omega) (by omega) dX4_joined_25 ?_
    refine lv_if_ne (tgt := 38) hx hb dX4_joined_26 (by decide) (fun hc26 => ?_) (fun hc26 => ?_)
    · rw [hQ]
      exact W.vret hx hb hr (fun t99 ht99 hW99 => ⟨⟨mu (mu μ ab (.inl (G.2 0, 3744, .inr (.inl g17)))) av (.inl (G.2 2, 26, .inl (upd v 22 (v a9)))), rfl, (⟨_, _, rfl, (hsy.ld hL17 (by omega)), (VB.u hvb (hvb a9))⟩), by show mw _ _ _ _ t99.heap; rw [ht99]; exact hP⟩, hS.F ht99⟩) hS.2.2 dX4_joined_38
    · refine lv_aload_n hx hb dX4_joined_29 rfl (lv_at hl 0 rfl) ?_
      refine mw_get (C := RX4) (T := TX4) (N := 13) hx hb hts in_X4_joined_X4 hown hK hP ((mu_n ne0_2).trans ((mu_n ne0_1).trans (hm))) rfl 2 (by decide) (hts (.fieldLink RX4 13 "OctagonDeskModel" "isVoid" "[Z") (by decide +kernel)) (fun _ h9 => h9) rfl dX4_joined_30 ?_
      refine lv_iload_n hx hb dX4_joined_33 rfl (lv_at hl 2 rfl) ?_
      refine mw_zald hx hb hK hP 2 (mu_s _ _ _) rfl (by omega) (by omega) dX4_joined_34 ?_
      refine lv_if_eq (tgt := 39) hx hb dX4_joined_35 (by decide) (fun hc35 => ?_) (fun hc35 => ?_)
      · refine lv_iconst (v := nI 0) hx hb dX4_joined_39 (by decide) ?_
        refine lv_istore_n (lv' := [(3, .int (nI 0)), (0, .ref md), (1, .int (nI a9)), (2, .int (nI b9))]) hx hb dX4_joined_40 rfl hl (by decide) rfl (fun ls hl => ?_)
        exact L41 _ 0 g17 g17 (upd v 22 (v a9)) (Nat.lt_succ_self _) (by omega) ((hsy.ld hL17 (by omega))) ((VB.u hvb (hvb a9))) (Th.z _ _ _) _ _ hP hS ls (lv_sub hl [1, 2, 3, 0] rfl)
      · rw [hQ]
        exact W.vret hx hb hr (fun t99 ht99 hW99 => ⟨⟨mu (mu μ ab (.inl (G.2 0, 3744, .inr (.inl g17)))) av (.inl (G.2 2, 26, .inl (upd v 22 (v a9)))), rfl, (⟨_, _, rfl, (hsy.ld hL17 (by omega)), (VB.u hvb (hvb a9))⟩), by show mw _ _ _ _ t99.heap; rw [ht99]; exact hP⟩, hS.F ht99⟩) hS.2.2 dX4_joined_38
  · refine lv_iload_n hx hb dX4_joined_12 rfl (lv_at hl 2 rfl) ?_
    refine lv_goto (tgt := 17) hx hb dX4_joined_13 (by decide) ?_
    refine kc_v (va_runV (As := [.int (nI 22), .int (nI b9)]) (rest := []) ⟨hx, hb, hml, hown, hts⟩ (c_X4_load l G B (mu (mu μ ab (.inl (G.2 0, 3744, .inr (.inl f)))) av (.inl (G.2 2, 26, .inl v))) md ab av c1 c2 c3 c4 c5 c6 c7 c8 c9 fl st f v 22 b9 ((mu_n ne0_2).trans ((mu_n ne0_1).trans (hm))) ((mu_n ((mp_ne hab hav (by simp)))).trans (mu_s _ _ _)) (mu_s _ _ _) (by omega) (by omega) (hvb b9)) (cwV 2 hts gX4_joined_X4_load rfl rfl rfl (by decide +kernel) ⟨Nat.le_of_ble_eq_true rfl, Nat.le_of_ble_eq_true rfl⟩) ⟨KW.blind, hP.recv hK rfl ((mu_n ne0_2).trans ((mu_n ne0_1).trans (hm))), fun U9 hU9 hW9 => ⟨rfl, KW.pre hBs hKK hS hP U9 hU9 hW9⟩⟩ rfl rfl hl.1 rfl (lv_room (Nat.le_of_ble_eq_true rfl)) dX4_joined_17 ⟨(Nat.le_of_ble_eq_true rfl), (Nat.le_of_ble_eq_true rfl)⟩) hS (fun m17 H locs hq9 hP hz9 hS => ?_)
    obtain ⟨g17, he17, hL17⟩ := hq9
    rw [he17] at hP
    have hP : mw G.1 vwCl B (mu (mu μ ab (.inl (G.2 0, 3744, .inr (.inl g17)))) av (.inl (G.2 2, 26, .inl (upd v 22 (v b9))))) _ := mw_eq ((congrArg (fun z => mu z av (.inl (G.2 2, 26, .inl (upd v 22 (v b9))))) ((mu_c _ _ ((mp_ne hav hab (by simp)))).trans (congrArg (fun z => mu z av (.inl (G.2 2, 26, .inl v))) (mu_u _ _ _ _)))).trans (mu_u _ _ _ _)) hP
    refine lv_aload_n hx hb dX4_joined_20 rfl (lv_at hl 0 rfl) ?_
    refine mw_get (C := RX4) (T := TX4) (N := 13) hx hb hts in_X4_joined_X4 hown hK hP ((mu_n ne0_2).trans ((mu_n ne0_1).trans (hm))) rfl 2 (by decide) (hts (.fieldLink RX4 13 "OctagonDeskModel" "isVoid" "[Z") (by decide +kernel)) (fun _ h9 => h9) rfl dX4_joined_21 ?_
    refine lv_iload_n hx hb dX4_joined_24 rfl (lv_at hl 1 rfl) ?_
    refine mw_zald hx hb hK hP 2 (mu_s _ _ _) rfl (by omega) (by omega) dX4_joined_25 ?_
    refine lv_if_ne (tgt := 38) hx hb dX4_joined_26 (by decide) (fun hc26 => ?_) (fun hc26 => ?_)
    · rw [hQ]
      exact W.vret hx hb hr (fun t99 ht99 hW99 => ⟨⟨mu (mu μ ab (.inl (G.2 0, 3744, .inr (.inl g17)))) av (.inl (G.2 2, 26, .inl (upd v 22 (v b9)))), rfl, (⟨_, _, rfl, (hsy.ld hL17 (by omega)), (VB.u hvb (hvb b9))⟩), by show mw _ _ _ _ t99.heap; rw [ht99]; exact hP⟩, hS.F ht99⟩) hS.2.2 dX4_joined_38
    · refine lv_aload_n hx hb dX4_joined_29 rfl (lv_at hl 0 rfl) ?_
      refine mw_get (C := RX4) (T := TX4) (N := 13) hx hb hts in_X4_joined_X4 hown hK hP ((mu_n ne0_2).trans ((mu_n ne0_1).trans (hm))) rfl 2 (by decide) (hts (.fieldLink RX4 13 "OctagonDeskModel" "isVoid" "[Z") (by decide +kernel)) (fun _ h9 => h9) rfl dX4_joined_30 ?_
      refine lv_iload_n hx hb dX4_joined_33 rfl (lv_at hl 2 rfl) ?_
      refine mw_zald hx hb hK hP 2 (mu_s _ _ _) rfl (by omega) (by omega) dX4_joined_34 ?_
      refine lv_if_eq (tgt := 39) hx hb dX4_joined_35 (by decide) (fun hc35 => ?_) (fun hc35 => ?_)
      · refine lv_iconst (v := nI 0) hx hb dX4_joined_39 (by decide) ?_
        refine lv_istore_n (lv' := [(3, .int (nI 0)), (0, .ref md), (1, .int (nI a9)), (2, .int (nI b9))]) hx hb dX4_joined_40 rfl hl (by decide) rfl (fun ls hl => ?_)
        exact L41 _ 0 g17 g17 (upd v 22 (v b9)) (Nat.lt_succ_self _) (by omega) ((hsy.ld hL17 (by omega))) ((VB.u hvb (hvb b9))) (Th.z _ _ _) _ _ hP hS ls (lv_sub hl [1, 2, 3, 0] rfl)
      · rw [hQ]
        exact W.vret hx hb hr (fun t99 ht99 hW99 => ⟨⟨mu (mu μ ab (.inl (G.2 0, 3744, .inr (.inl g17)))) av (.inl (G.2 2, 26, .inl (upd v 22 (v b9)))), rfl, (⟨_, _, rfl, (hsy.ld hL17 (by omega)), (VB.u hvb (hvb b9))⟩), by show mw _ _ _ _ t99.heap; rw [ht99]; exact hP⟩, hS.F ht99⟩) hS.2.2 dX4_joined_38

abbrev rn_X4_widened : Room := { frames := 3, cells := 0, slots := 0, locals := 79 }
set_option maxHeartbeats 4000000 in
set_option maxRecDepth 100000 in
theorem m_X4_widened (l : Launch) (G : GG) (B : Nat) (μ : mp) (md ab av c1 c2 c3 c4 c5 c6 c7 c8 c9 fl st : Nat) (f : Nat → Int64) (v : Nat → Int32) (a9 b9 : Nat) (hm : μ md = some (.inr (4, [.int (nI fl), .ref ab, .ref av, .int (nI st), .ref c1, .ref c2, .ref c3, .ref c4, .ref c5, .ref c6, .ref c7, .ref c8, .ref c9]))) (hab : μ ab = some (.inl (G.2 0, 3744, .inr (.inl f)))) (hav : μ av = some (.inl (G.2 2, 26, .inl v))) (ha9 : a9 < 26) (hb9 : b9 < 26) (ha23 : a9 ≠ 23) (hb23 : b9 ≠ 23) (hsy : Sym f) (hvb : VB v) : Met l yX4_widened wsX4_widened rn_X4_widened (va_Pc [.ref md, .int (nI a9), .int (nI b9)] (KW G B μ)) (va_Qv (fun μ2 => ∃ (g9 : Nat → Int64) (w9 : Nat → Int32), μ2 = mu (mu μ ab (.inl (G.2 0, 3744, .inr (.inl g9)))) av (.inl (G.2 2, 26, .inl w9)) ∧ Sym g9 ∧ VB w9) (BB G B) (fun q => B ≤ q)) 0 0 (fun q => B ≤ q) := by
  refine Met.ofW (cc := cX4_widened) (maxL := 5) (ret := none) (by decide) rfl ?_
  intro p e s m args below meth c s₁ B9 hml hv
  obtain ⟨hargs, hBs, hP, hKK⟩ := hv
  have hx := B9.exec
  have hb := B9.bytes
  have hr := B9.returns
  have hts := atoms_spec (ws := wsX4_widened) B9.pre
  have hown : s.vm.findClass RX4 = some m.cls := findClass_of_methodNamed B9.named
  have hlocks := B9.notSynchronized
  have hK := hKK.k
  have hS : va_S (fun q => B ≤ q) s.heap s.heap [] := va_S.rf
  obtain ⟨Q, hQ⟩ : ∃ Q, Q = MQ below (va_Qv (fun μ2 => ∃ (g9 : Nat → Int64) (w9 : Nat → Int32), μ2 = mu (mu μ ab (.inl (G.2 0, 3744, .inr (.inl g9)))) av (.inl (G.2 2, 26, .inl w9)) ∧ Sym g9 ∧ VB w9) (BB G B) (fun q => B ≤ q)) args s 0 0 (fun q => B ≤ q) := ⟨_, rfl⟩
  rw [← hQ]
  have ne0_1 : md ≠ ab := mp_ne hm hab (by simp)
  have ne0_2 : md ≠ av := mp_ne hm hav (by simp)
  have in_X4_widened_X4 : ∀ w ∈ wsX40, w ∈ wsX4_widened := by decide +kernel
  have hP : mw G.1 vwCl B (mu (mu μ ab (.inl (G.2 0, 3744, .inr (.inl f)))) av (.inl (G.2 2, 26, .inl v))) s.heap := mw_eq ((congrArg (fun z => mu z av (.inl (G.2 2, 26, .inl v))) (mu_i hab)).trans (mu_i hav)).symm hP
  have L41 : ∀ (N41 : Nat) (k1 : Nat) (g0 : Nat → Int64) (g1 : Nat → Int64) (v1 : Nat → Int32) (hN41 : 144 - k1 < N41) (hk1 : k1 ≤ 144) (hs0 : Sym g0) (hv1 : VB v1) (hT : Th g0 g1 23 (hW g0 a9 b9) k1), ∀ (H : Heap) (locs : List Loc), mw G.1 vwCl B (mu (mu μ ab (.inl (G.2 0, 3744, .inr (.inl g1)))) av (.inl (G.2 2, 26, .inl v1))) H → va_S (fun q => B ≤ q) s.heap H locs → ∀ ls : Array Slot, lv_has ls 5 [(0, .ref md), (1, .int (nI a9)), (2, .int (nI b9)), (3, .int (nI k1))] → W p l e rn_X4_widened s m args below meth c H locs 0 0 Q (F0 m 41 ls []) := by
    intro N41
    induction N41 with
    | zero => intro k1 g0 g1 v1 hN41; exact absurd hN41 (Nat.not_lt_zero _)
    | succ N41 ih41 =>
      intro k1 g0 g1 v1 hN41 hk1 hs0 hv1 hT H locs hP hS ls hl
      refine lv_iload_n hx hb dX4_widened_41 rfl (lv_at hl 3 rfl) ?_
      refine lv_sipush (v := nI 144) hx hb dX4_widened_42 (by decide) ?_
      refine nv_icmp_ge (tgt := 122) hx hb (by omega) (by omega) dX4_widened_45 (by decide) (fun hc45 => ?_) (fun hc45 => ?_)
      · have e144 : k1 = 144 := by omega
        subst e144
        refine lv_aload_n hx hb dX4_widened_122 rfl (lv_at hl 0 rfl) ?_
        refine lv_bipush (v := nI 23) hx hb dX4_widened_123 (by decide) ?_
        refine kc_v (va_runV (As := [.int (nI 23)]) (rest := []) ⟨hx, hb, hml, hown, hts⟩ (m_X4_close l G B (mu (mu μ ab (.inl (G.2 0, 3744, .inr (.inl g1)))) av (.inl (G.2 2, 26, .inl v1))) md ab av c1 c2 c3 c4 c5 c6 c7 c8 c9 fl st g1 v1 23 ((mu_n ne0_2).trans ((mu_n ne0_1).trans (hm))) ((mu_n ((mp_ne hab hav (by simp)))).trans (mu_s _ _ _)) (mu_s _ _ _) (by omega) (hs0.th hT (hW_s hs0 ha9 hb9)) hv1) (cwV 1 hts gX4_widened_X4_close rfl rfl rfl (by decide +kernel) ⟨Nat.le_of_ble_eq_true rfl, Nat.le_of_ble_eq_true rfl⟩) ⟨KW.blind, hP.recv hK rfl ((mu_n ne0_2).trans ((mu_n ne0_1).trans (hm))), fun U9 hU9 hW9 => ⟨rfl, KW.pre hBs hKK hS hP U9 hU9 hW9⟩⟩ rfl rfl hl.1 rfl (lv_room (Nat.le_of_ble_eq_true rfl)) dX4_widened_125 ⟨(Nat.le_of_ble_eq_true rfl), (Nat.le_of_ble_eq_true rfl)⟩) hS (fun m125 H locs hq9 hP hz9 hS => ?_)
        obtain ⟨g125, w125, he125, hsy125, hvb125⟩ := hq9
        rw [he125] at hP
        have hP : mw G.1 vwCl B (mu (mu μ ab (.inl (G.2 0, 3744, .inr (.inl g125)))) av (.inl (G.2 2, 26, .inl w125))) _ := mw_eq ((congrArg (fun z => mu z av (.inl (G.2 2, 26, .inl w125))) ((mu_c _ _ ((mp_ne hav hab (by simp)))).trans (congrArg (fun z => mu z av (.inl (G.2 2, 26, .inl v1))) (mu_u _ _ _ _)))).trans (mu_u _ _ _ _)) hP
        rw [hQ]
        exact W.vret hx hb hr (fun t99 ht99 hW99 => ⟨⟨mu (mu μ ab (.inl (G.2 0, 3744, .inr (.inl g125)))) av (.inl (G.2 2, 26, .inl w125)), rfl, (⟨_, _, rfl, hsy125, hvb125⟩), by show mw _ _ _ _ t99.heap; rw [ht99]; exact hP⟩, hS.F ht99⟩) hS.2.2 dX4_widened_128
      · refine lv_aload_n hx hb dX4_widened_48 rfl (lv_at hl 0 rfl) ?_
        refine mw_get (C := RX4) (T := TX4) (N := 13) hx hb hts in_X4_widened_X4 hown hK hP ((mu_n ne0_2).trans ((mu_n ne0_1).trans (hm))) rfl 1 (by decide) (hts (.fieldLink RX4 7 "OctagonDeskModel" "bound" "[J") (by decide +kernel)) (fun _ h9 => h9) rfl dX4_widened_49 ?_
        refine lv_sipush (v := nI 144) hx hb dX4_widened_52 (by decide) ?_
        refine lv_iload_n hx hb dX4_widened_55 rfl (lv_at hl 2 rfl) ?_
        refine nv_imul hx hb dX4_widened_56 ?_
        refine lv_iload_n hx hb dX4_widened_57 rfl (lv_at hl 3 rfl) ?_
        refine nv_iadd hx hb dX4_widened_58 ?_
        refine mw_lald hx hb hK hP 0 ((mu_n ((mp_ne hab hav (by simp)))).trans (mu_s _ _ _)) rfl (by omega) (by omega) dX4_widened_59 ?_
        refine lv_aload_n hx hb dX4_widened_60 rfl (lv_at hl 0 rfl) ?_
        refine mw_get (C := RX4) (T := TX4) (N := 13) hx hb hts in_X4_widened_X4 hown hK hP ((mu_n ne0_2).trans ((mu_n ne0_1).trans (hm))) rfl 1 (by decide) (hts (.fieldLink RX4 7 "OctagonDeskModel" "bound" "[J") (by decide +kernel)) (fun _ h9 => h9) rfl dX4_widened_61 ?_
        refine lv_sipush (v := nI 144) hx hb dX4_widened_64 (by decide) ?_
        refine lv_iload_n hx hb dX4_widened_67 rfl (lv_at hl 1 rfl) ?_
        refine nv_imul hx hb dX4_widened_68 ?_
        refine lv_iload_n hx hb dX4_widened_69 rfl (lv_at hl 3 rfl) ?_
        refine nv_iadd hx hb dX4_widened_70 ?_
        refine mw_lald hx hb hK hP 0 ((mu_n ((mp_ne hab hav (by simp)))).trans (mu_s _ _ _)) rfl (by omega) (by omega) dX4_widened_71 ?_
        refine nl_if_gt (tgt := 80) hx hb dX4_widened_72 dX4_widened_73 (by decide) (fun hc72 => ?_) (fun hc72 => ?_)
        · refine lv_iconst (v := nI 0) hx hb dX4_widened_80 (by decide) ?_
          refine lv_istore (lv' := [(4, .int (nI 0)), (0, .ref md), (1, .int (nI a9)), (2, .int (nI b9)), (3, .int (nI k1))]) hx hb dX4_widened_81 hl (by decide) rfl (fun ls hl => ?_)
          refine lv_aload_n hx hb dX4_widened_83 rfl (lv_at hl 1 rfl) ?_
          refine mw_get (C := RX4) (T := TX4) (N := 13) hx hb hts in_X4_widened_X4 hown hK hP ((mu_n ne0_2).trans ((mu_n ne0_1).trans (hm))) rfl 1 (by decide) (hts (.fieldLink RX4 7 "OctagonDeskModel" "bound" "[J") (by decide +kernel)) (fun _ h9 => h9) rfl dX4_widened_84 ?_
          refine lv_sipush (v := nI 3312) hx hb dX4_widened_87 (by decide) ?_
          refine lv_iload_n hx hb dX4_widened_90 rfl (lv_at hl 4 rfl) ?_
          refine nv_iadd hx hb dX4_widened_91 ?_
          refine lv_iload hx hb dX4_widened_92 (lv_at hl 0 rfl) ?_
          refine lv_if_eq (tgt := 112) hx hb dX4_widened_94 (by decide) (fun hc94 => ?_) (fun hc94 => ?_)
          · refine lv_ldc2 (v := (9223372036854775807)) hx hb hown (hts (.constantLong RX4 45 (9223372036854775807)) (by decide +kernel)) dX4_widened_112 ?_
            refine mw_last hx hb hK hP hS 0 ((mu_n ((mp_ne hab hav (by simp)))).trans (mu_s _ _ _)) rfl (by omega) (by omega) dX4_widened_115 (fun H locs hP hS => ?_)
            have hP : mw G.1 vwCl B (mu (mu μ ab (.inl (G.2 0, 3744, .inr (.inl (vp_updL g1 (3312 + k1) 9223372036854775807))))) av (.inl (G.2 2, 26, .inl v1))) _ := mw_eq ((mu_c _ _ ((mp_ne hav hab (by simp)))).trans (congrArg (fun z => mu z av (.inl (G.2 2, 26, .inl v1))) (mu_u _ _ _ _))) hP
            refine lv_iinc (v := nI (k1 + 1)) (lv' := [(3, .int (nI (k1 + 1))), (4, .int (nI 0)), (0, .ref md), (1, .int (nI a9)), (2, .int (nI b9))]) hx hb dX4_widened_116 hl (k := 4) rfl (nI_add _ _) (by decide) rfl (fun ls hl => ?_)
            refine lv_goto (tgt := 41) hx hb dX4_widened_119 (by decide) ?_
            exact ih41 (k1 + 1) g0 (vp_updL g1 (3312 + k1) 9223372036854775807) v1 (by omega) (by omega) (hs0) (hv1) (hT.s (by first | exact (hT.wt ha23 hb23 (by omega) rfl rfl).1 (by first | exact hc72 | exact Int64.not_le.mp hc72) | (rw [ev115]; exact (hT.wt ha23 hb23 (by omega) rfl rfl).2 (by first | exact hc72 | exact Int64.not_lt.mpr hc72)))) _ _ hP hS ls (lv_sub hl [2, 3, 4, 0] rfl)
          · exact absurd rfl hc94
        · refine lv_iconst (v := nI 1) hx hb dX4_widened_76 (by decide) ?_
          refine lv_goto (tgt := 81) hx hb dX4_widened_77 (by decide) ?_
          refine lv_istore (lv' := [(4, .int (nI 1)), (0, .ref md), (1, .int (nI a9)), (2, .int (nI b9)), (3, .int (nI k1))]) hx hb dX4_widened_81 hl (by decide) rfl (fun ls hl => ?_)
          refine lv_aload_n hx hb dX4_widened_83 rfl (lv_at hl 1 rfl) ?_
          refine mw_get (C := RX4) (T := TX4) (N := 13) hx hb hts in_X4_widened_X4 hown hK hP ((mu_n ne0_2).trans ((mu_n ne0_1).trans (hm))) rfl 1 (by decide) (hts (.fieldLink RX4 7 "OctagonDeskModel" "bound" "[J") (by decide +kernel)) (fun _ h9 => h9) rfl dX4_widened_84 ?_
          refine lv_sipush (v := nI 3312) hx hb dX4_widened_87 (by decide) ?_
          refine lv_iload_n hx hb dX4_widened_90 rfl (lv_at hl 4 rfl) ?_
          refine nv_iadd hx hb dX4_widened_91 ?_
          refine lv_iload hx hb dX4_widened_92 (lv_at hl 0 rfl) ?_
          refine lv_if_eq (tgt := 112) hx hb dX4_widened_94 (by decide) (fun hc94 => ?_) (fun hc94 => ?_)
          · exact absurd hc94 (by decide)
          · refine lv_aload_n hx hb dX4_widened_97 rfl (lv_at hl 1 rfl) ?_
            refine mw_get (C := RX4) (T := TX4) (N := 13) hx hb hts in_X4_widened_X4 hown hK hP ((mu_n ne0_2).trans ((mu_n ne0_1).trans (hm))) rfl 1 (by decide) (hts (.fieldLink RX4 7 "OctagonDeskModel" "bound" "[J") (by decide +kernel)) (fun _ h9 => h9) rfl dX4_widened_98 ?_
            refine lv_sipush (v := nI 144) hx hb dX4_widened_101 (by decide) ?_
            refine lv_iload_n hx hb dX4_widened_104 rfl (lv_at hl 2 rfl) ?_
            refine nv_imul hx hb dX4_widened_105 ?_
            refine lv_iload_n hx hb dX4_widened_106 rfl (lv_at hl 4 rfl) ?_
            refine nv_iadd hx hb dX4_widened_107 ?_
            refine mw_lald hx hb hK hP 0 ((mu_n ((mp_ne hab hav (by simp)))).trans (mu_s _ _ _)) rfl (by omega) (by omega) dX4_widened_108 ?_
            refine lv_goto (tgt := 115) hx hb dX4_widened_109 (by decide) ?_
            refine lv_topl (fun v115 ev115 => ?_)
            refine mw_last hx hb hK hP hS 0 ((mu_n ((mp_ne hab hav (by simp)))).trans (mu_s _ _ _)) rfl (by omega) (by omega) dX4_widened_115 (fun H locs hP hS => ?_)
            have hP : mw G.1 vwCl B (mu (mu μ ab (.inl (G.2 0, 3744, .inr (.inl (vp_updL g1 (3312 + k1) v115))))) av (.inl (G.2 2, 26, .inl v1))) _ := mw_eq ((mu_c _ _ ((mp_ne hav hab (by simp)))).trans (congrArg (fun z => mu z av (.inl (G.2 2, 26, .inl v1))) (mu_u _ _ _ _))) hP
            refine lv_iinc (v := nI (k1 + 1)) (lv' := [(3, .int (nI (k1 + 1))), (4, .int (nI 1)), (0, .ref md), (1, .int (nI a9)), (2, .int (nI b9))]) hx hb dX4_widened_116 hl (k := 4) rfl (nI_add _ _) (by decide) rfl (fun ls hl => ?_)
            refine lv_goto (tgt := 41) hx hb dX4_widened_119 (by decide) ?_
            exact ih41 (k1 + 1) g0 (vp_updL g1 (3312 + k1) v115) v1 (by omega) (by omega) (hs0) (hv1) (hT.s (by first | exact (hT.wt ha23 hb23 (by omega) rfl rfl).1 (by first | exact hc72 | exact Int64.not_le.mp hc72) | (rw [ev115]; exact (hT.wt ha23 hb23 (by omega) rfl rfl).2 (by first | exact hc72 | exact Int64.not_lt.mpr hc72)))) _ _ hP hS ls (lv_sub hl [2, 3, 4, 0] rfl)
  have hl := lv_entry ([.ref md, .int (nI a9), .int (nI b9)]) (n := 5) (Nat.le_of_ble_eq_true rfl)
  have he9 : entryFrame m args 5 = entryFrame m ([.ref md, .int (nI a9), .int (nI b9)] : List Value).toArray 5 := by rw [hargs]
  rw [he9, lg_entry_eq]
  generalize (lg_sl ([.ref md, .int (nI a9), .int (nI b9)]) ++ List.replicate (5 - (lg_sl ([.ref md, .int (nI a9), .int (nI b9)])).length) Slot.unset).toArray = ls at hl ⊢
  have hl : lv_has ls 5 [(0, .ref md), (1, .int (nI a9)), (2, .int (nI b9))] := hl
  refine lv_aload_n hx hb dX4_widened_0 rfl (lv_at hl 0 rfl) ?_
  refine lv_bipush (v := nI 23) hx hb dX4_widened_1 (by decide) ?_
  refine lv_aload_n hx hb dX4_widened_3 rfl (lv_at hl 0 rfl) ?_
  refine mw_get (C := RX4) (T := TX4) (N := 13) hx hb hts in_X4_widened_X4 hown hK hP ((mu_n ne0_2).trans ((mu_n ne0_1).trans (hm))) rfl 2 (by decide) (hts (.fieldLink RX4 13 "OctagonDeskModel" "isVoid" "[Z") (by decide +kernel)) (fun _ h9 => h9) rfl dX4_widened_4 ?_
  refine lv_iload_n hx hb dX4_widened_7 rfl (lv_at hl 1 rfl) ?_
  refine mw_zald hx hb hK hP 2 (mu_s _ _ _) rfl (by omega) (by omega) dX4_widened_8 ?_
  refine lv_if_eq (tgt := 16) hx hb dX4_widened_9 (by decide) (fun hc9 => ?_) (fun hc9 => ?_)
  · refine lv_iload_n hx hb dX4_widened_16 rfl (lv_at hl 1 rfl) ?_
    refine kc_v (va_runV (As := [.int (nI 23), .int (nI a9)]) (rest := []) ⟨hx, hb, hml, hown, hts⟩ (c_X4_load l G B (mu (mu μ ab (.inl (G.2 0, 3744, .inr (.inl f)))) av (.inl (G.2 2, 26, .inl v))) md ab av c1 c2 c3 c4 c5 c6 c7 c8 c9 fl st f v 23 a9 ((mu_n ne0_2).trans ((mu_n ne0_1).trans (hm))) ((mu_n ((mp_ne hab hav (by simp)))).trans (mu_s _ _ _)) (mu_s _ _ _) (by omega) (by omega) (hvb a9)) (cwV 2 hts gX4_widened_X4_load rfl rfl rfl (by decide +kernel) ⟨Nat.le_of_ble_eq_true rfl, Nat.le_of_ble_eq_true rfl⟩) ⟨KW.blind, hP.recv hK rfl ((mu_n ne0_2).trans ((mu_n ne0_1).trans (hm))), fun U9 hU9 hW9 => ⟨rfl, KW.pre hBs hKK hS hP U9 hU9 hW9⟩⟩ rfl rfl hl.1 rfl (lv_room (Nat.le_of_ble_eq_true rfl)) dX4_widened_17 ⟨(Nat.le_of_ble_eq_true rfl), (Nat.le_of_ble_eq_true rfl)⟩) hS (fun m17 H locs hq9 hP hz9 hS => ?_)
    obtain ⟨g17, he17, hL17⟩ := hq9
    rw [he17] at hP
    have hP : mw G.1 vwCl B (mu (mu μ ab (.inl (G.2 0, 3744, .inr (.inl g17)))) av (.inl (G.2 2, 26, .inl (upd v 23 (v a9))))) _ := mw_eq ((congrArg (fun z => mu z av (.inl (G.2 2, 26, .inl (upd v 23 (v a9))))) ((mu_c _ _ ((mp_ne hav hab (by simp)))).trans (congrArg (fun z => mu z av (.inl (G.2 2, 26, .inl v))) (mu_u _ _ _ _)))).trans (mu_u _ _ _ _)) hP
    refine lv_aload_n hx hb dX4_widened_20 rfl (lv_at hl 0 rfl) ?_
    refine mw_get (C := RX4) (T := TX4) (N := 13) hx hb hts in_X4_widened_X4 hown hK hP ((mu_n ne0_2).trans ((mu_n ne0_1).trans (hm))) rfl 2 (by decide) (hts (.fieldLink RX4 13 "OctagonDeskModel" "isVoid" "[Z") (by decide +kernel)) (fun _ h9 => h9) rfl dX4_widened_21 ?_
    refine lv_iload_n hx hb dX4_widened_24 rfl (lv_at hl 1 rfl) ?_
    refine mw_zald hx hb hK hP 2 (mu_s _ _ _) rfl (by omega) (by omega) dX4_widened_25 ?_
    refine lv_if_ne (tgt := 38) hx hb dX4_widened_26 (by decide) (fun hc26 => ?_) (fun hc26 => ?_)
    · rw [hQ]
      exact W.vret hx hb hr (fun t99 ht99 hW99 => ⟨⟨mu (mu μ ab (.inl (G.2 0, 3744, .inr (.inl g17)))) av (.inl (G.2 2, 26, .inl (upd v 23 (v a9)))), rfl, (⟨_, _, rfl, (hsy.ld hL17 (by omega)), (VB.u hvb (hvb a9))⟩), by show mw _ _ _ _ t99.heap; rw [ht99]; exact hP⟩, hS.F ht99⟩) hS.2.2 dX4_widened_38
    · refine lv_aload_n hx hb dX4_widened_29 rfl (lv_at hl 0 rfl) ?_
      refine mw_get (C := RX4) (T := TX4) (N := 13) hx hb hts in_X4_widened_X4 hown hK hP ((mu_n ne0_2).trans ((mu_n ne0_1).trans (hm))) rfl 2 (by decide) (hts (.fieldLink RX4 13 "OctagonDeskModel" "isVoid" "[Z") (by decide +kernel)) (fun _ h9 => h9) rfl dX4_widened_30 ?_
      refine lv_iload_n hx hb dX4_widened_33 rfl (lv_at hl 2 rfl) ?_
      refine mw_zald hx hb hK hP 2 (mu_s _ _ _) rfl (by omega) (by omega) dX4_widened_34 ?_
      refine lv_if_eq (tgt := 39) hx hb dX4_widened_35 (by decide) (fun hc35 => ?_) (fun hc35 => ?_)
      · refine lv_iconst (v := nI 0) hx hb dX4_widened_39 (by decide) ?_
        refine lv_istore_n (lv' := [(3, .int (nI 0)), (0, .ref md), (1, .int (nI a9)), (2, .int (nI b9))]) hx hb dX4_widened_40 rfl hl (by decide) rfl (fun ls hl => ?_)
        exact L41 _ 0 g17 g17 (upd v 23 (v a9)) (Nat.lt_succ_self _) (by omega) ((hsy.ld hL17 (by omega))) ((VB.u hvb (hvb a9))) (Th.z _ _ _) _ _ hP hS ls (lv_sub hl [1, 2, 3, 0] rfl)
      · rw [hQ]
        exact W.vret hx hb hr (fun t99 ht99 hW99 => ⟨⟨mu (mu μ ab (.inl (G.2 0, 3744, .inr (.inl g17)))) av (.inl (G.2 2, 26, .inl (upd v 23 (v a9)))), rfl, (⟨_, _, rfl, (hsy.ld hL17 (by omega)), (VB.u hvb (hvb a9))⟩), by show mw _ _ _ _ t99.heap; rw [ht99]; exact hP⟩, hS.F ht99⟩) hS.2.2 dX4_widened_38
  · refine lv_iload_n hx hb dX4_widened_12 rfl (lv_at hl 2 rfl) ?_
    refine lv_goto (tgt := 17) hx hb dX4_widened_13 (by decide) ?_
    refine kc_v (va_runV (As := [.int (nI 23), .int (nI b9)]) (rest := []) ⟨hx, hb, hml, hown, hts⟩ (c_X4_load l G B (mu (mu μ ab (.inl (G.2 0, 3744, .inr (.inl f)))) av (.inl (G.2 2, 26, .inl v))) md ab av c1 c2 c3 c4 c5 c6 c7 c8 c9 fl st f v 23 b9 ((mu_n ne0_2).trans ((mu_n ne0_1).trans (hm))) ((mu_n ((mp_ne hab hav (by simp)))).trans (mu_s _ _ _)) (mu_s _ _ _) (by omega) (by omega) (hvb b9)) (cwV 2 hts gX4_widened_X4_load rfl rfl rfl (by decide +kernel) ⟨Nat.le_of_ble_eq_true rfl, Nat.le_of_ble_eq_true rfl⟩) ⟨KW.blind, hP.recv hK rfl ((mu_n ne0_2).trans ((mu_n ne0_1).trans (hm))), fun U9 hU9 hW9 => ⟨rfl, KW.pre hBs hKK hS hP U9 hU9 hW9⟩⟩ rfl rfl hl.1 rfl (lv_room (Nat.le_of_ble_eq_true rfl)) dX4_widened_17 ⟨(Nat.le_of_ble_eq_true rfl), (Nat.le_of_ble_eq_true rfl)⟩) hS (fun m17 H locs hq9 hP hz9 hS => ?_)
    obtain ⟨g17, he17, hL17⟩ := hq9
    rw [he17] at hP
    have hP : mw G.1 vwCl B (mu (mu μ ab (.inl (G.2 0, 3744, .inr (.inl g17)))) av (.inl (G.2 2, 26, .inl (upd v 23 (v b9))))) _ := mw_eq ((congrArg (fun z => mu z av (.inl (G.2 2, 26, .inl (upd v 23 (v b9))))) ((mu_c _ _ ((mp_ne hav hab (by simp)))).trans (congrArg (fun z => mu z av (.inl (G.2 2, 26, .inl v))) (mu_u _ _ _ _)))).trans (mu_u _ _ _ _)) hP
    refine lv_aload_n hx hb dX4_widened_20 rfl (lv_at hl 0 rfl) ?_
    refine mw_get (C := RX4) (T := TX4) (N := 13) hx hb hts in_X4_widened_X4 hown hK hP ((mu_n ne0_2).trans ((mu_n ne0_1).trans (hm))) rfl 2 (by decide) (hts (.fieldLink RX4 13 "OctagonDeskModel" "isVoid" "[Z") (by decide +kernel)) (fun _ h9 => h9) rfl dX4_widened_21 ?_
    refine lv_iload_n hx hb dX4_widened_24 rfl (lv_at hl 1 rfl) ?_
    refine mw_zald hx hb hK hP 2 (mu_s _ _ _) rfl (by omega) (by omega) dX4_widened_25 ?_
    refine lv_if_ne (tgt := 38) hx hb dX4_widened_26 (by decide) (fun hc26 => ?_) (fun hc26 => ?_)
    · rw [hQ]
      exact W.vret hx hb hr (fun t99 ht99 hW99 => ⟨⟨mu (mu μ ab (.inl (G.2 0, 3744, .inr (.inl g17)))) av (.inl (G.2 2, 26, .inl (upd v 23 (v b9)))), rfl, (⟨_, _, rfl, (hsy.ld hL17 (by omega)), (VB.u hvb (hvb b9))⟩), by show mw _ _ _ _ t99.heap; rw [ht99]; exact hP⟩, hS.F ht99⟩) hS.2.2 dX4_widened_38
    · refine lv_aload_n hx hb dX4_widened_29 rfl (lv_at hl 0 rfl) ?_
      refine mw_get (C := RX4) (T := TX4) (N := 13) hx hb hts in_X4_widened_X4 hown hK hP ((mu_n ne0_2).trans ((mu_n ne0_1).trans (hm))) rfl 2 (by decide) (hts (.fieldLink RX4 13 "OctagonDeskModel" "isVoid" "[Z") (by decide +kernel)) (fun _ h9 => h9) rfl dX4_widened_30 ?_
      refine lv_iload_n hx hb dX4_widened_33 rfl (lv_at hl 2 rfl) ?_
      refine mw_zald hx hb hK hP 2 (mu_s _ _ _) rfl (by omega) (by omega) dX4_widened_34 ?_
      refine lv_if_eq (tgt := 39) hx hb dX4_widened_35 (by decide) (fun hc35 => ?_) (fun hc35 => ?_)
      · refine lv_iconst (v := nI 0) hx hb dX4_widened_39 (by decide) ?_
        refine lv_istore_n (lv' := [(3, .int (nI 0)), (0, .ref md), (1, .int (nI a9)), (2, .int (nI b9))]) hx hb dX4_widened_40 rfl hl (by decide) rfl (fun ls hl => ?_)
        exact L41 _ 0 g17 g17 (upd v 23 (v b9)) (Nat.lt_succ_self _) (by omega) ((hsy.ld hL17 (by omega))) ((VB.u hvb (hvb b9))) (Th.z _ _ _) _ _ hP hS ls (lv_sub hl [1, 2, 3, 0] rfl)
      · rw [hQ]
        exact W.vret hx hb hr (fun t99 ht99 hW99 => ⟨⟨mu (mu μ ab (.inl (G.2 0, 3744, .inr (.inl g17)))) av (.inl (G.2 2, 26, .inl (upd v 23 (v b9)))), rfl, (⟨_, _, rfl, (hsy.ld hL17 (by omega)), (VB.u hvb (hvb b9))⟩), by show mw _ _ _ _ t99.heap; rw [ht99]; exact hP⟩, hS.F ht99⟩) hS.2.2 dX4_widened_38
