set_option maxHeartbeats 4000000 in
set_option maxRecDepth 100000 in
theorem lg_go (l : Launch) (hlt : l.stackTraces = false) (G : GG) (B : Nat) (sc0 : Nat) (fs : Nat → Int32) (n9 : Nat) {p : Program} {e : Env} {s : State} {m : MethodId} {args : Array Value} {below : List Frame} {meth : Method} {c : Code} {Q : State → Prop} (hx : p.tables.exec = Jvm.exec) (hb : c.code = cL_law) (hml : c.maxLocals = 8) (hown : s.vm.findClass RL = some m.cls) (hts : ∀ w ∈ wsL_law, w.before args s = true) (hBs : B ≤ s.heap.size) (hKK : KK G B s) (hDc : DcI s) (hNc : va_Nc exS exA s) (hscB : sc0 < B) (hbl : sc0 < s.heap.size) (hX : va_X sc0 n9 fs s s.heap) (hn9 : n9 ≤ 3072) (KR : ∀ (H : Heap) (locs : List Loc), va_S (fun q => B ≤ q) s.heap H locs → ∀ ls : Array Slot, ls.size = 8 → W p l e room_1 s m args below meth c H locs (601024) (7293033) Q (F0 m 828 ls [])) (μ : mp) (hP : mw G.1 vwCl B μ s.heap) (ls : Array Slot) (hl : lv_has ls 8 [(0, .ref sc0)]) : W p l e room_1 s m args below meth c s.heap [] 0 0 Q (F0 m 0 ls []) := by
  have hK := hKK.k
  have hS : va_S (fun q => B ≤ q) s.heap s.heap [] := va_S.rf
  have L23 : ∀ (N23 : Nat) (j : Nat) (k : Nat) (sc : Nat) (μ1 : mp) (D1 : Nat → Prop) (d : Nat) (md : Nat) (ou : Nat) (ab : Nat) (av : Nat) (c1 : Nat) (c2 : Nat) (c3 : Nat) (c4 : Nat) (c5 : Nat) (c6 : Nat) (c7 : Nat) (c8 : Nat) (c9 : Nat) (hN23 : n9 + 6 - 6 * j < N23) (hj : 6 * j ≤ n9 + 5) (hI : LI G μ1 d md ou ab av c1 c2 c3 c4 c5 c6 c7 c8 c9 k sc D1), ∀ (H : Heap) (locs : List Loc), mw G.1 vwCl B (μ1) H → va_S (fun q => B ≤ q) s.heap H locs → ∀ ls : Array Slot, lv_has ls 8 [(4, .int (nI (6 * j))), (3, .ref ou), (2, .ref md), (1, .ref d), (0, .ref sc0)] → W p l e room_1 s m args below meth c H locs (108 + 5 * j + 23 * k) (7869 + 30 * j + 7268 * k) Q (F0 m 23 ls []) := by
    intro N23
    induction N23 with
    | zero => intro j k sc μ1 D1 d md ou ab av c1 c2 c3 c4 c5 c6 c7 c8 c9 hN23; exact absurd hN23 (Nat.not_lt_zero _)
    | succ N23 ih23 =>
      intro j k sc μ1 D1 d md ou ab av c1 c2 c3 c4 c5 c6 c7 c8 c9 hN23 hj hI H locs hP hS ls hl
      refine lv_iload hx hb dL_law_23 (lv_at hl 0 rfl) ?_
      refine lv_aload_n hx hb dL_law_25 rfl (lv_at hl 4 rfl) ?_
      refine sc_alen hx hb hX hbl hscB hS dL_law_26 ?_
      refine lv_bipush (v := nI 6) hx hb dL_law_27 (by decide) ?_
      refine lv_isub hx hb dL_law_29 ?_
      refine lv_icmp_gt (tgt := 828) hx hb dL_law_30 (by decide) (fun hc30 => ?_) (fun hc30 => ?_)
      · have hk5 := hI.1.kl
        refine W.widen (k := 601024) (n := 7293033) (by omega) (by omega) ?_
        exact KR _ _ hS ls hl.1
      · have hj6 : 6 * j + 6 ≤ n9 := lp_f hn9 hj (by first | exact hc30 | exact Int32.not_lt.mpr hc30)
        refine lv_aload_n hx hb dL_law_33 rfl (lv_at hl 4 rfl) ?_
        refine lv_iload hx hb dL_law_34 (lv_at hl 0 rfl) ?_
        refine sc_iald (i := 6 * j) hx hb hX hbl hscB hS (by omega) (by omega) dL_law_36 ?_
        refine lv_bipush (v := nI 31) hx hb dL_law_37 (by decide) ?_
        refine lv_iand hx hb dL_law_39 ?_
        have LN : ∀ (μ9 : mp) (k9 sc9 : Nat) (D9 : Nat → Prop) (_ : LI G μ9 d md ou ab av c1 c2 c3 c4 c5 c6 c7 c8 c9 k9 sc9 D9) (H : Heap) (locs : List Loc), mw G.1 vwCl B μ9 H → va_S (fun q => B ≤ q) s.heap H locs → ∀ ls : Array Slot, lv_has ls 8 [(4, .int (nI (6 * j))), (3, .ref ou), (2, .ref md), (1, .ref d), (0, .ref sc0)] → W p l e room_1 s m args below meth c H locs (108 + 5 * (j + 1) + 23 * k9) (7869 + 30 * (j + 1) + 7268 * k9) Q (F0 m 822 ls []) := by
          intro μ9 k9 sc9 D9 hI9 H locs hP hS ls hl
          refine lv_iinc (v := nI (6 * (j + 1))) (lv' := [(4, .int (nI (6 * (j + 1)))), (3, .ref ou), (2, .ref md), (1, .ref d), (0, .ref sc0)]) hx hb dL_law_822 hl (k := 0) rfl (by rw [show 6 * (j + 1) = 6 * j + 6 by omega]; exact nI_add _ _) (by decide) rfl (fun ls hl => ?_)
          refine lv_goto (tgt := 23) hx hb dL_law_825 (by decide) ?_
          refine W.widen (k := 108 + 5 * (j + 1) + 23 * k9) (n := 7869 + 30 * (j + 1) + 7268 * k9) (by omega) (by omega) ?_
          exact ih23 (j + 1) k9 sc9 μ9 D9 d md ou ab av c1 c2 c3 c4 c5 c6 c7 c8 c9 (by omega) (by omega) (hI9) _ _ hP hS ls (lv_sub hl [0, 1, 2, 3, 4] rfl)
        obtain ⟨k8, hk8, ek8⟩ := and31 (fs (6 * j))
        rw [ek8]
        rcases (show k8 = 0 ∨ k8 = 1 ∨ k8 = 2 ∨ k8 = 3 ∨ k8 = 4 ∨ k8 = 5 ∨ k8 = 6 ∨ k8 = 7 ∨ k8 = 8 ∨ k8 = 9 ∨ k8 = 10 ∨ k8 = 11 ∨ k8 = 12 ∨ k8 = 13 ∨ k8 = 14 ∨ k8 = 15 ∨ k8 = 16 ∨ 17 ≤ k8 by omega) with rfl | rfl | rfl | rfl | rfl | rfl | rfl | rfl | rfl | rfl | rfl | rfl | rfl | rfl | rfl | rfl | rfl | h17
        · refine lv_tableIn (off := 84) (tgt := 124) hx hb dL_law_40 (by decide) (by decide) (by decide) (by decide) ?_
          exact lg_0 l hlt G B sc0 fs n9 d md ou ab av c1 c2 c3 c4 c5 c6 c7 c8 c9 k sc j μ1 D1 hx hb hml hown hts hBs hKK hDc hNc hscB hbl hX hn9 hj6 LN hI _ _ hP hS ls hl
        · refine lv_tableIn (off := 160) (tgt := 200) hx hb dL_law_40 (by decide) (by decide) (by decide) (by decide) ?_
          exact lg_1 l hlt G B sc0 fs n9 d md ou ab av c1 c2 c3 c4 c5 c6 c7 c8 c9 k sc j μ1 D1 hx hb hml hown hts hBs hKK hDc hNc hscB hbl hX hn9 hj6 LN hI _ _ hP hS ls hl
        · refine lv_tableIn (off := 185) (tgt := 225) hx hb dL_law_40 (by decide) (by decide) (by decide) (by decide) ?_
          exact lg_2 l hlt G B sc0 fs n9 d md ou ab av c1 c2 c3 c4 c5 c6 c7 c8 c9 k sc j μ1 D1 hx hb hml hown hts hBs hKK hDc hNc hscB hbl hX hn9 hj6 LN hI _ _ hP hS ls hl
        · refine lv_tableIn (off := 222) (tgt := 262) hx hb dL_law_40 (by decide) (by decide) (by decide) (by decide) ?_
          exact lg_3 l hlt G B sc0 fs n9 d md ou ab av c1 c2 c3 c4 c5 c6 c7 c8 c9 k sc j μ1 D1 hx hb hml hown hts hBs hKK hDc hNc hscB hbl hX hn9 hj6 LN hI _ _ hP hS ls hl
        · refine lv_tableIn (off := 274) (tgt := 314) hx hb dL_law_40 (by decide) (by decide) (by decide) (by decide) ?_
          exact lg_4 l hlt G B sc0 fs n9 d md ou ab av c1 c2 c3 c4 c5 c6 c7 c8 c9 k sc j μ1 D1 hx hb hml hown hts hBs hKK hDc hNc hscB hbl hX hn9 hj6 LN hI _ _ hP hS ls hl
        · refine lv_tableIn (off := 323) (tgt := 363) hx hb dL_law_40 (by decide) (by decide) (by decide) (by decide) ?_
          exact lg_5 l hlt G B sc0 fs n9 d md ou ab av c1 c2 c3 c4 c5 c6 c7 c8 c9 k sc j μ1 D1 hx hb hml hown hts hBs hKK hDc hNc hscB hbl hX hn9 hj6 LN hI _ _ hP hS ls hl
        · refine lv_tableIn (off := 372) (tgt := 412) hx hb dL_law_40 (by decide) (by decide) (by decide) (by decide) ?_
          exact lg_6 l hlt G B sc0 fs n9 d md ou ab av c1 c2 c3 c4 c5 c6 c7 c8 c9 k sc j μ1 D1 hx hb hml hown hts hBs hKK hDc hNc hscB hbl hX hn9 hj6 LN hI _ _ hP hS ls hl
        · refine lv_tableIn (off := 409) (tgt := 449) hx hb dL_law_40 (by decide) (by decide) (by decide) (by decide) ?_
          exact lg_7 l hlt G B sc0 fs n9 d md ou ab av c1 c2 c3 c4 c5 c6 c7 c8 c9 k sc j μ1 D1 hx hb hml hown hts hBs hKK hDc hNc hscB hbl hX hn9 hj6 LN hI _ _ hP hS ls hl
        · refine lv_tableIn (off := 437) (tgt := 477) hx hb dL_law_40 (by decide) (by decide) (by decide) (by decide) ?_
          exact lg_8 l hlt G B sc0 fs n9 d md ou ab av c1 c2 c3 c4 c5 c6 c7 c8 c9 k sc j μ1 D1 hx hb hml hown hts hBs hKK hDc hNc hscB hbl hX hn9 hj6 LN hI _ _ hP hS ls hl
        · refine lv_tableIn (off := 489) (tgt := 529) hx hb dL_law_40 (by decide) (by decide) (by decide) (by decide) ?_
          exact lg_9 l hlt G B sc0 fs n9 d md ou ab av c1 c2 c3 c4 c5 c6 c7 c8 c9 k sc j μ1 D1 hx hb hml hown hts hBs hKK hDc hNc hscB hbl hX hn9 hj6 LN hI _ _ hP hS ls hl
        · refine lv_tableIn (off := 529) (tgt := 569) hx hb dL_law_40 (by decide) (by decide) (by decide) (by decide) ?_
          exact lg_10 l hlt G B sc0 fs n9 d md ou ab av c1 c2 c3 c4 c5 c6 c7 c8 c9 k sc j μ1 D1 hx hb hml hown hts hBs hKK hDc hNc hscB hbl hX hn9 hj6 LN hI _ _ hP hS ls hl
        · refine lv_tableIn (off := 557) (tgt := 597) hx hb dL_law_40 (by decide) (by decide) (by decide) (by decide) ?_
          exact lg_11 l hlt G B sc0 fs n9 d md ou ab av c1 c2 c3 c4 c5 c6 c7 c8 c9 k sc j μ1 D1 hx hb hml hown hts hBs hKK hDc hNc hscB hbl hX hn9 hj6 LN hI _ _ hP hS ls hl
        · refine lv_tableIn (off := 597) (tgt := 637) hx hb dL_law_40 (by decide) (by decide) (by decide) (by decide) ?_
          exact lg_12 l hlt G B sc0 fs n9 d md ou ab av c1 c2 c3 c4 c5 c6 c7 c8 c9 k sc j μ1 D1 hx hb hml hown hts hBs hKK hDc hNc hscB hbl hX hn9 hj6 LN hI _ _ hP hS ls hl
        · refine lv_tableIn (off := 625) (tgt := 665) hx hb dL_law_40 (by decide) (by decide) (by decide) (by decide) ?_
          exact lg_13 l hlt G B sc0 fs n9 d md ou ab av c1 c2 c3 c4 c5 c6 c7 c8 c9 k sc j μ1 D1 hx hb hml hown hts hBs hKK hDc hNc hscB hbl hX hn9 hj6 LN hI _ _ hP hS ls hl
        · refine lv_tableIn (off := 701) (tgt := 741) hx hb dL_law_40 (by decide) (by decide) (by decide) (by decide) ?_
          exact lg_14 l hlt G B sc0 fs n9 d md ou ab av c1 c2 c3 c4 c5 c6 c7 c8 c9 k sc j μ1 D1 hx hb hml hown hts hBs hKK hDc hNc hscB hbl hX hn9 hj6 LN hI _ _ hP hS ls hl
        · refine lv_tableIn (off := 714) (tgt := 754) hx hb dL_law_40 (by decide) (by decide) (by decide) (by decide) ?_
          exact lg_15 l hlt G B sc0 fs n9 d md ou ab av c1 c2 c3 c4 c5 c6 c7 c8 c9 k sc j μ1 D1 hx hb hml hown hts hBs hKK hDc hNc hscB hbl hX hn9 hj6 LN hI _ _ hP hS ls hl
        · refine lv_tableIn (off := 742) (tgt := 782) hx hb dL_law_40 (by decide) (by decide) (by decide) (by decide) ?_
          exact lg_16 l hlt G B sc0 fs n9 d md ou ab av c1 c2 c3 c4 c5 c6 c7 c8 c9 k sc j μ1 D1 hx hb hml hown hts hBs hKK hDc hNc hscB hbl hX hn9 hj6 LN hI _ _ hP hS ls hl
        · refine lv_tableOut (tgt := 822) hx hb dL_law_40 (sw5 k8 hk8 h17) (by decide) ?_
          refine W.widen (k := 108 + 5 * (j + 1) + 23 * k) (n := 7869 + 30 * (j + 1) + 7268 * k) (by omega) (by omega) ?_
          exact LN _ _ _ _ hI _ _ hP hS ls hl
  refine mw_new (ci := 3) (fs := [.null, .null, .null, .null, .int (nI 0), .null, .null]) (C := RX3) (T := TX3) (N := 7) hx hb hts inlX3 tyX3 tyX3_ok hown (hts (.classLink RL 8 RX3) (by decide +kernel)) (hts (.instantiable RX3 7) (by decide +kernel)) (hts (.initialized RX3) (by decide +kernel)) hK hP hS hBs rfl (fun j hj => by rcases (show j = 0 ∨ j = 1 ∨ j = 2 ∨ j = 3 ∨ j = 4 ∨ j = 5 ∨ j = 6 by omega) with rfl | rfl | rfl | rfl | rfl | rfl | rfl <;> rfl) (Nat.le_of_ble_eq_true rfl) (Nat.le_of_ble_eq_true rfl) dL_law_0 (fun d H hsd hzd hnd hP hS => ?_)
  have hP : mw G.1 vwCl B (mu μ d (.inr (3, [.null, .null, .null, .null, .int (nI 0), .null, .null]))) _ := hP
  refine lv_dup hx hb dL_law_3 rfl ?_
  refine kc_v (va_runI (As := []) (rest := [.ref d]) ⟨hx, hb, hml, hown, hts⟩ (g_X3_init l G B (mu μ d (.inr (3, [.null, .null, .null, .null, .int (nI 0), .null, .null]))) d (mu_s _ _ _)) (cwI 0 hts gL_law_X3_init rfl rfl rfl (hts (.initialized RX3) (by decide +kernel)) (hts (.methodLink RL 72 yX3_init) (by decide +kernel)) (hts (.instanceMethod yX3_init) (by decide +kernel)) rfl (by decide +kernel) ⟨Nat.le_of_ble_eq_true rfl, Nat.le_of_ble_eq_true rfl⟩) ⟨KW.blind, fun U9 hU9 hW9 => ⟨rfl, KW.pre hBs hKK hS hP U9 hU9 hW9⟩⟩ rfl rfl hl.1 rfl (lv_room (Nat.le_of_ble_eq_true rfl)) dL_law_4 ⟨(Nat.le_of_ble_eq_true rfl), (Nat.le_of_ble_eq_true rfl)⟩) hS (fun m4 H locs hq9 hP hz9 hS => ?_)
  obtain ⟨hk4, aS, aL, aR, aT, aO, sa, na, la, bE, F, fS, fL, fR, fT, sp, fO, hD, hFS, hnw, hSJ⟩ := hq9
  have hG4 : DG G m4 d 0 0 (fun a => ¬ Apt d aO sa na la sp a) := ⟨aS, aL, aR, aT, aO, sa, na, la, bE, F, fS, fL, fR, fT, sp, fO, hD, ⟨fun j h9 => absurd h9 (Nat.not_lt_zero _), hSJ⟩, Or.inl rfl, fun a h9 => Classical.not_not.mp h9⟩
  refine lv_astore_n (lv' := [(1, .ref d), (0, .ref sc0)]) hx hb dL_law_7 rfl hl (by decide) rfl (fun ls hl => ?_)
  refine mw_new (ci := 4) (fs := [.int (nI 0), .null, .null, .int (nI 0), .null, .null, .null, .null, .null, .null, .null, .null, .null]) (C := RX4) (T := TX4) (N := 13) hx hb hts inlX4 tyX4 tyX4_ok hown (hts (.classLink RL 73 RX4) (by decide +kernel)) (hts (.instantiable RX4 13) (by decide +kernel)) (hts (.initialized RX4) (by decide +kernel)) hK hP hS hBs rfl (fun j hj => by rcases (show j = 0 ∨ j = 1 ∨ j = 2 ∨ j = 3 ∨ j = 4 ∨ j = 5 ∨ j = 6 ∨ j = 7 ∨ j = 8 ∨ j = 9 ∨ j = 10 ∨ j = 11 ∨ j = 12 by omega) with rfl | rfl | rfl | rfl | rfl | rfl | rfl | rfl | rfl | rfl | rfl | rfl | rfl <;> rfl) (Nat.le_of_ble_eq_true rfl) (Nat.le_of_ble_eq_true rfl) dL_law_8 (fun md H hsmd hzmd hnmd hP hS => ?_)
  have nqd_md : d ≠ md := mp_nn (hD.1) hnmd
  have hP : mw G.1 vwCl B (mu m4 md (.inr (4, [.int (nI 0), .null, .null, .int (nI 0), .null, .null, .null, .null, .null, .null, .null, .null, .null]))) _ := hP
  refine lv_dup hx hb dL_law_11 rfl ?_
  refine kc_v (va_runI (As := []) (rest := [.ref md]) ⟨hx, hb, hml, hown, hts⟩ (g_X4_init l G B (mu m4 md (.inr (4, [.int (nI 0), .null, .null, .int (nI 0), .null, .null, .null, .null, .null, .null, .null, .null, .null]))) md (mu_s _ _ _)) (cwI 0 hts gL_law_X4_init rfl rfl rfl (hts (.initialized RX4) (by decide +kernel)) (hts (.methodLink RL 75 yX4_init) (by decide +kernel)) (hts (.instanceMethod yX4_init) (by decide +kernel)) rfl (by decide +kernel) ⟨Nat.le_of_ble_eq_true rfl, Nat.le_of_ble_eq_true rfl⟩) ⟨KW.blind, fun U9 hU9 hW9 => ⟨rfl, KW.pre hBs hKK hS hP U9 hU9 hW9⟩⟩ rfl rfl hl.1 rfl (lv_room (Nat.le_of_ble_eq_true rfl)) dL_law_12 ⟨(Nat.le_of_ble_eq_true rfl), (Nat.le_of_ble_eq_true rfl)⟩) hS (fun m12 H locs hq9 hP hz9 hS => ?_)
  obtain ⟨hk12, ab, av, c1, c2, c3, c4, c5, c6, c7, c8, c9, f, v, i1, i2, i3, i4, i5, i6, l7, l8, l9, hmd, hab, hav, hNM, ⟨hc1, hc2, hc3, hc4, hc5, hc6, hc7, hc8, hc9⟩, ⟨n12, n13, n14, n15, n16, n23, n24, n25, n26, n34, n35, n36, n45, n46, n56, n78, n79, n89⟩, hz_ab, hz_av, hz_c1, hz_c2, hz_c3, hz_c4, hz_c5, hz_c6, hz_c7, hz_c8, hz_c9⟩ := hq9
  have hG12 : DG G m12 d 0 0 _ := hG4.ext (fun a e h9 => hk12 a e ((mu_n (mp_nn h9 hnmd)).trans h9) (mp_nn h9 hnmd))
  have hD12 := hD.ext (μ2 := m12) (fun a e h9 => hk12 a e ((mu_n (mp_nn h9 hnmd)).trans h9) (mp_nn h9 hnmd))
  refine lv_astore_n (lv' := [(2, .ref md), (1, .ref d), (0, .ref sc0)]) hx hb dL_law_15 rfl hl (by decide) rfl (fun ls hl => ?_)
  refine lv_iconst (v := nI 1) hx hb dL_law_16 (by decide) ?_
  refine mw_newa (n := 1) (a0 := (1, .inr (.inl (fun _ => 0)))) (atype := .long) (ty := .long) hx hb (hts (.arrayClass .long) (by decide +kernel)) rfl hK hP hS hBs 0 rfl (fun cA9 => vp0_J cA9 (1)) (by omega) (by show (1) * _ ≤ _; simp only [componentBytes]; omega) (Nat.le_of_ble_eq_true rfl) (Nat.le_of_ble_eq_true rfl) dL_law_17 (fun ou H hsou hzou hnou hP hS => ?_)
  have nqmd_ou : md ≠ ou := mp_nn (hmd) hnou
  have nqab_ou : ab ≠ ou := mp_nn (hab) hnou
  have nqav_ou : av ≠ ou := mp_nn (hav) hnou
  have nqc1_ou : c1 ≠ ou := mp_nn (hc1) hnou
  have nqc2_ou : c2 ≠ ou := mp_nn (hc2) hnou
  have nqc3_ou : c3 ≠ ou := mp_nn (hc3) hnou
  have nqc4_ou : c4 ≠ ou := mp_nn (hc4) hnou
  have nqc5_ou : c5 ≠ ou := mp_nn (hc5) hnou
  have nqc6_ou : c6 ≠ ou := mp_nn (hc6) hnou
  have nqc7_ou : c7 ≠ ou := mp_nn (hc7) hnou
  have nqc8_ou : c8 ≠ ou := mp_nn (hc8) hnou
  have nqc9_ou : c9 ≠ ou := mp_nn (hc9) hnou
  have nqd_ou : d ≠ ou := mp_nn (hD12.1) hnou
  have hP : mw G.1 vwCl B (mu m12 ou (.inl (G.2 0, 1, .inr (.inl (fun _ => 0))))) _ := hP
  refine lv_astore_n (lv' := [(3, .ref ou), (2, .ref md), (1, .ref d), (0, .ref sc0)]) hx hb dL_law_19 rfl hl (by decide) rfl (fun ls hl => ?_)
  refine lv_iconst (v := nI 0) hx hb dL_law_20 (by decide) ?_
  refine lv_istore (lv' := [(4, .int (nI 0)), (3, .ref ou), (2, .ref md), (1, .ref d), (0, .ref sc0)]) hx hb dL_law_21 hl (by decide) rfl (fun ls hl => ?_)
  refine W.widen (k := 108 + 5 * 0 + 23 * 0) (n := 7869 + 30 * 0 + 7268 * 0) (by omega) (by omega) ?_
  exact L23 _ 0 0 0 (mu m12 ou (.inl (G.2 0, 1, .inr (.inl (fun _ => 0))))) _ d md ou ab av c1 c2 c3 c4 c5 c6 c7 c8 c9 (Nat.lt_succ_self _) (by omega) (⟨hG12.ext (fun a e h9 => (mu_n (mp_nn h9 hnou)).trans h9), ⟨_, ((mu_n nqmd_ou).trans (hmd))⟩, ⟨_, ((mu_n nqab_ou).trans (hab)), hNM.sym⟩, ⟨_, ((mu_n nqav_ou).trans (hav)), hNM.2.2.2⟩, ⟨_, _, _, _, _, _, ⟨((mu_n nqc1_ou).trans (hc1)), ((mu_n nqc2_ou).trans (hc2)), ((mu_n nqc3_ou).trans (hc3)), ((mu_n nqc4_ou).trans (hc4)), ((mu_n nqc5_ou).trans (hc5)), ((mu_n nqc6_ou).trans (hc6))⟩, fun j h9 => absurd h9 (Nat.not_lt_zero _)⟩, ⟨_, _, _, ((mu_n nqc7_ou).trans (hc7)), ((mu_n nqc8_ou).trans (hc8)), ((mu_n nqc9_ou).trans (hc9))⟩, ⟨_, (mu_s _ _ _)⟩, ⟨(fun h9 => h9 (Apt.no hD hnmd)), (fun h9 => h9 (Apt.no hD12 hnou)), (fun h9 => h9 (Apt.no hD (mu_none hz_ab).2)), (fun h9 => h9 (Apt.no hD (mu_none hz_av).2)), (fun h9 => h9 (Apt.no hD (mu_none hz_c1).2)), (fun h9 => h9 (Apt.no hD (mu_none hz_c2).2)), (fun h9 => h9 (Apt.no hD (mu_none hz_c3).2)), (fun h9 => h9 (Apt.no hD (mu_none hz_c4).2)), (fun h9 => h9 (Apt.no hD (mu_none hz_c5).2)), (fun h9 => h9 (Apt.no hD (mu_none hz_c6).2)), (fun h9 => h9 (Apt.no hD (mu_none hz_c7).2)), (fun h9 => h9 (Apt.no hD (mu_none hz_c8).2)), (fun h9 => h9 (Apt.no hD (mu_none hz_c9).2))⟩, ⟨n12, n13, n14, n15, n16, n23, n24, n25, n26, n34, n35, n36, n45, n46, n56, n78, n79, n89⟩⟩) _ _ hP hS ls (lv_sub hl [0, 1, 2, 3, 4] rfl)
