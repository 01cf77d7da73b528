theorem sw40 : ∀ k : Nat, k < 32 → 17 ≤ k → ((nI k).toInt < 0 ∨ 16 < (nI k).toInt) := by decide
set_option maxHeartbeats 4000000 in
set_option maxRecDepth 100000 in
theorem lw_go (l : Launch) (hlt : l.stackTraces = false) (G : GG) (B : Nat) (sc0 : Nat) (fs : Nat → Int32) (n9 : Nat) (hn6 : n9 ≤ 6) {p : Program} {e : Env} {s : State} {m : MethodId} {args : Array Value} {below : List Frame} {meth : Method} {c : Code} {Q : State → Prop} (hx : p.tables.exec = Jvm.exec) (hb : c.code = cL_law) (hml : c.maxLocals = 8) (hown : s.vm.findClass RL = some m.cls) (hts : ∀ w ∈ wsL_law, w.before args s = true) (hBs : B ≤ s.heap.size) (hKK : KK G B s) (hDc : DcI s) (hscB : sc0 < B) (hbl : sc0 < s.heap.size) (hX : va_X sc0 n9 fs s s.heap) (K1224 : ∀ (H : Heap) (locs : List Loc), va_S (fun q => B ≤ q) s.heap H locs → ∀ ls : Array Slot, ls.size = 8 → W p l e room_1 s m args below meth c H locs 138 15799 Q (F0 m 1224 ls [])) (μ : mp) (hP : mw G.1 vwCl B μ s.heap) (ls : Array Slot) (hl : lv_has ls 8 [(0, .ref sc0)]) : W p l e room_1 s m args below meth c s.heap [] 0 0 Q (F0 m 0 ls []) := by
  have hK := hKK.k
  have hS : va_S (fun q => B ≤ q) s.heap s.heap [] := va_S.rf
  refine mw_new (ci := 6) (fs := [.null, .null, .null, .null, .int (nI 0), .null, .null]) (C := RX6) (T := TX6) (N := 7) hx hb hts inlX6 tyX6 tyX6_ok hown (hts (.classLink RL 8 RX6) (by decide +kernel)) (hts (.instantiable RX6 7) (by decide +kernel)) (hts (.initialized RX6) (by decide +kernel)) hK hP hS hBs rfl (fun j hj => by rcases (show j = 0 ∨ j = 1 ∨ j = 2 ∨ j = 3 ∨ j = 4 ∨ j = 5 ∨ j = 6 by omega) with rfl | rfl | rfl | rfl | rfl | rfl | rfl <;> rfl) (Nat.le_of_ble_eq_true rfl) (Nat.le_of_ble_eq_true rfl) dL_law_0 (fun d H hsd hzd hnd hP hS => ?_)
  have hP : mw G.1 vwCl B (mu μ d (.inr (6, [.null, .null, .null, .null, .int (nI 0), .null, .null]))) _ := hP
  refine lv_dup hx hb dL_law_3 rfl ?_
  refine kc_v (va_runI (As := []) (rest := [.ref d]) ⟨hx, hb, hml, hown, hts⟩ (c_X6_init l G B (mu μ d (.inr (6, [.null, .null, .null, .null, .int (nI 0), .null, .null]))) d (mu_s _ _ _)) (cwI 0 hts gL_law_X6_init rfl rfl rfl (hts (.initialized RX6) (by decide +kernel)) (hts (.methodLink RL 72 yX6_init) (by decide +kernel)) (hts (.instanceMethod yX6_init) (by decide +kernel)) rfl (by decide +kernel) ⟨Nat.le_of_ble_eq_true rfl, Nat.le_of_ble_eq_true rfl⟩) ⟨KW.blind, fun U9 hU9 hW9 => ⟨rfl, KW.pre hBs hKK hS hP U9 hU9 hW9⟩⟩ rfl rfl hl.1 rfl (lv_room (Nat.le_of_ble_eq_true rfl)) dL_law_4 ⟨(Nat.le_of_ble_eq_true rfl), (Nat.le_of_ble_eq_true rfl)⟩) hS (fun m4 H locs hq9 hP hz9 hS => ?_)
  obtain ⟨aS, aL, aR, aT, aO, bn, nn, s9, lo, nf, sa, la, bE, F, g, w9, fS, fL, fR, fT, sp, fO, hD, hFS⟩ := hq9
  refine lv_astore_n (lv' := [(1, .ref d), (0, .ref sc0)]) hx hb dL_law_7 rfl hl (by decide) rfl (fun ls hl => ?_)
  refine mw_new (ci := 7) (fs := [.int (nI 0), .null, .null, .int (nI 0), .null, .null, .null, .null, .null, .null, .null, .null, .null]) (C := RX7) (T := TX7) (N := 13) hx hb hts inlX7 tyX7 tyX7_ok hown (hts (.classLink RL 73 RX7) (by decide +kernel)) (hts (.instantiable RX7 13) (by decide +kernel)) (hts (.initialized RX7) (by decide +kernel)) hK hP hS hBs rfl (fun j hj => by rcases (show j = 0 ∨ j = 1 ∨ j = 2 ∨ j = 3 ∨ j = 4 ∨ j = 5 ∨ j = 6 ∨ j = 7 ∨ j = 8 ∨ j = 9 ∨ j = 10 ∨ j = 11 ∨ j = 12 by omega) with rfl | rfl | rfl | rfl | rfl | rfl | rfl | rfl | rfl | rfl | rfl | rfl | rfl <;> rfl) (Nat.le_of_ble_eq_true rfl) (Nat.le_of_ble_eq_true rfl) dL_law_8 (fun md H hsmd hzmd hnmd hP hS => ?_)
  have nqd_md : d ≠ md := mp_nn (hD.1) hnmd
  have nqaS_md : aS ≠ md := mp_nn (hD.2.1.1) hnmd
  have nqaL_md : aL ≠ md := mp_nn (hD.2.1.2.1) hnmd
  have nqaR_md : aR ≠ md := mp_nn (hD.2.1.2.2.1) hnmd
  have nqaT_md : aT ≠ md := mp_nn (hD.2.2.1) hnmd
  have nqbn_md : bn ≠ md := mp_nn (hD.2.2.2.2.1.1.1) hnmd
  have nqnn_md : nn ≠ md := mp_nn (hD.2.2.2.2.1.1.2.1) hnmd
  have nqs9_md : s9 ≠ md := mp_nn (hD.2.2.2.2.1.1.2.2.1) hnmd
  have nqlo_md : lo ≠ md := mp_nn (hD.2.2.2.2.1.1.2.2.2) hnmd
  have hP : mw G.1 vwCl B (mu m4 md (.inr (7, [.int (nI 0), .null, .null, .int (nI 0), .null, .null, .null, .null, .null, .null, .null, .null, .null]))) _ := hP
  refine lv_dup hx hb dL_law_11 rfl ?_
  refine kc_v (va_runI (As := []) (rest := [.ref md]) ⟨hx, hb, hml, hown, hts⟩ (c_X7_init l G B (mu m4 md (.inr (7, [.int (nI 0), .null, .null, .int (nI 0), .null, .null, .null, .null, .null, .null, .null, .null, .null]))) md (mu_s _ _ _)) (cwI 0 hts gL_law_X7_init rfl rfl rfl (hts (.initialized RX7) (by decide +kernel)) (hts (.methodLink RL 75 yX7_init) (by decide +kernel)) (hts (.instanceMethod yX7_init) (by decide +kernel)) rfl (by decide +kernel) ⟨Nat.le_of_ble_eq_true rfl, Nat.le_of_ble_eq_true rfl⟩) ⟨KW.blind, fun U9 hU9 hW9 => ⟨rfl, KW.pre hBs hKK hS hP U9 hU9 hW9⟩⟩ rfl rfl hl.1 rfl (lv_room (Nat.le_of_ble_eq_true rfl)) dL_law_12 ⟨(Nat.le_of_ble_eq_true rfl), (Nat.le_of_ble_eq_true rfl)⟩) hS (fun m12 H locs hq9 hP hz9 hS => ?_)
  obtain ⟨hk12, ab, av, c1, c2, c3, c4, c5, c6, c7, c8, c9, f, v, i1, i2, i3, i4, i5, i6, hmd, hab, hav, hNM, ⟨hc1, hc2, hc3, hc4, hc5, hc6⟩, ⟨n12, n13, n14, n15, n16, n23, n24, n25, n26, n34, n35, n36, n45, n46, n56⟩, hz_ab, hz_av, hz_c1, hz_c2, hz_c3, hz_c4, hz_c5, hz_c6⟩ := hq9
  have hD12 : DK G m12 d aS aL aR aT aO bn nn s9 lo 0 nf sa la bE F g w9 fS fL fR fT sp fO := hD.ext (fun a e h9 => hk12 a e ((mu_n (mp_nn h9 hnmd)).trans h9) (mp_nn h9 hnmd))
  have ap_md := Apt.no hD hnmd
  have ap_ab := Apt.no hD (mu_none hz_ab).2
  have ap_av := Apt.no hD (mu_none hz_av).2
  have ap_c1 := Apt.no hD (mu_none hz_c1).2
  have ap_c2 := Apt.no hD (mu_none hz_c2).2
  have ap_c3 := Apt.no hD (mu_none hz_c3).2
  have ap_c4 := Apt.no hD (mu_none hz_c4).2
  have ap_c5 := Apt.no hD (mu_none hz_c5).2
  have ap_c6 := Apt.no hD (mu_none hz_c6).2
  refine lv_astore_n (lv' := [(2, .ref md), (1, .ref d), (0, .ref sc0)]) hx hb dL_law_15 rfl hl (by decide) rfl (fun ls hl => ?_)
  refine lv_iconst (v := nI 1) hx hb dL_law_16 (by decide) ?_
  refine mw_newa (n := 1) (a0 := (1, .inr (.inl (fun _ => 0)))) (atype := .long) (ty := .long) hx hb (hts (.arrayClass .long) (by decide +kernel)) rfl hK hP hS hBs 0 rfl (fun cA9 => vp0_J cA9 (1)) (by omega) (by show (1) * _ ≤ _; simp only [componentBytes]; omega) (Nat.le_of_ble_eq_true rfl) (Nat.le_of_ble_eq_true rfl) dL_law_17 (fun ou H hsou hzou hnou hP hS => ?_)
  have nqd_ou : d ≠ ou := mp_nn (hD12.1) hnou
  have nqaS_ou : aS ≠ ou := mp_nn (hD12.2.1.1) hnou
  have nqaL_ou : aL ≠ ou := mp_nn (hD12.2.1.2.1) hnou
  have nqaR_ou : aR ≠ ou := mp_nn (hD12.2.1.2.2.1) hnou
  have nqaT_ou : aT ≠ ou := mp_nn (hD12.2.2.1) hnou
  have nqbn_ou : bn ≠ ou := mp_nn (hD12.2.2.2.2.1.1.1) hnou
  have nqnn_ou : nn ≠ ou := mp_nn (hD12.2.2.2.2.1.1.2.1) hnou
  have nqs9_ou : s9 ≠ ou := mp_nn (hD12.2.2.2.2.1.1.2.2.1) hnou
  have nqlo_ou : lo ≠ ou := mp_nn (hD12.2.2.2.2.1.1.2.2.2) hnou
  have nqmd_ou : md ≠ ou := mp_nn (hmd) hnou
  have nqab_ou : ab ≠ ou := mp_nn (hab) hnou
  have nqav_ou : av ≠ ou := mp_nn (hav) hnou
  have nqc1_ou : c1 ≠ ou := mp_nn (hc1) hnou
  have nqc2_ou : c2 ≠ ou := mp_nn (hc2) hnou
  have nqc3_ou : c3 ≠ ou := mp_nn (hc3) hnou
  have nqc4_ou : c4 ≠ ou := mp_nn (hc4) hnou
  have nqc5_ou : c5 ≠ ou := mp_nn (hc5) hnou
  have nqc6_ou : c6 ≠ ou := mp_nn (hc6) hnou
  have hP : mw G.1 vwCl B (mu m12 ou (.inl (G.2 0, 1, .inr (.inl (fun _ => 0))))) _ := hP
  have hD17 : DK G (mu m12 ou (.inl (G.2 0, 1, .inr (.inl (fun _ => 0))))) d aS aL aR aT aO bn nn s9 lo 0 nf sa la bE F g w9 fS fL fR fT sp fO := hD12.ext (fun a e h9 => (mu_n (mp_nn h9 hnou)).trans h9)
  have hap := Apt.no hD12 hnou
  have hf_md : (mu m12 ou (.inl (G.2 0, 1, .inr (.inl (fun _ => 0))))) md = some (.inr (7, [.int (nI 0), .ref ab, .ref av, .int (nI 0), .ref c1, .ref c2, .ref c3, .ref c4, .ref c5, .ref c6, .ref c7, .ref c8, .ref c9])) := ((mu_n nqmd_ou).trans (hmd))
  have hf_ab : (mu m12 ou (.inl (G.2 0, 1, .inr (.inl (fun _ => 0))))) ab = some (.inl (G.2 0, 3744, .inr (.inl f))) := ((mu_n nqab_ou).trans (hab))
  have hf_av : (mu m12 ou (.inl (G.2 0, 1, .inr (.inl (fun _ => 0))))) av = some (.inl (G.2 2, 26, .inl v)) := ((mu_n nqav_ou).trans (hav))
  have hf_c1 : (mu m12 ou (.inl (G.2 0, 1, .inr (.inl (fun _ => 0))))) c1 = some (.inl (G.2 1, 20, .inl i1)) := ((mu_n nqc1_ou).trans (hc1))
  have hf_c2 : (mu m12 ou (.inl (G.2 0, 1, .inr (.inl (fun _ => 0))))) c2 = some (.inl (G.2 1, 20, .inl i2)) := ((mu_n nqc2_ou).trans (hc2))
  have hf_c3 : (mu m12 ou (.inl (G.2 0, 1, .inr (.inl (fun _ => 0))))) c3 = some (.inl (G.2 1, 20, .inl i3)) := ((mu_n nqc3_ou).trans (hc3))
  have hf_c4 : (mu m12 ou (.inl (G.2 0, 1, .inr (.inl (fun _ => 0))))) c4 = some (.inl (G.2 1, 20, .inl i4)) := ((mu_n nqc4_ou).trans (hc4))
  have hf_c5 : (mu m12 ou (.inl (G.2 0, 1, .inr (.inl (fun _ => 0))))) c5 = some (.inl (G.2 1, 20, .inl i5)) := ((mu_n nqc5_ou).trans (hc5))
  have hf_c6 : (mu m12 ou (.inl (G.2 0, 1, .inr (.inl (fun _ => 0))))) c6 = some (.inl (G.2 1, 20, .inl i6)) := ((mu_n nqc6_ou).trans (hc6))
  have hou : (mu m12 ou (.inl (G.2 0, 1, .inr (.inl (fun _ => 0))))) ou = some (.inl (G.2 0, 1, .inr (.inl (fun _ => 0)))) := mu_s _ _ _
  obtain ⟨μ17, em17⟩ : ∃ x9 : mp, x9 = mu m12 ou (.inl (G.2 0, 1, .inr (.inl (fun _ => 0)))) := ⟨_, rfl⟩
  rw [← em17] at hP hD17 hou hf_md hf_ab hf_av hf_c1 hf_c2 hf_c3 hf_c4 hf_c5 hf_c6
  refine lv_astore_n (lv' := [(3, .ref ou), (2, .ref md), (1, .ref d), (0, .ref sc0)]) hx hb dL_law_19 rfl hl (by decide) rfl (fun ls hl => ?_)
  refine lv_iconst (v := nI 0) hx hb dL_law_20 (by decide) ?_
  refine lv_istore (lv' := [(4, .int (nI 0)), (3, .ref ou), (2, .ref md), (1, .ref d), (0, .ref sc0)]) hx hb dL_law_21 hl (by decide) rfl (fun ls hl => ?_)
  rcases Nat.lt_or_ge n9 6 with h6 | h6
  · refine lv_iload hx hb dL_law_23 (lv_at hl 0 rfl) ?_
    refine lv_aload_n hx hb dL_law_25 rfl (lv_at hl 4 rfl) ?_
    refine sc_alen hx hb hX hbl hscB hS dL_law_26 ?_
    refine lv_bipush (v := nI 6) hx hb dL_law_27 (by decide) ?_
    refine lv_isub hx hb dL_law_29 ?_
    refine lv_icmp_gt (tgt := 1224) hx hb dL_law_30 (by decide) (fun hc30 => ?_) (fun hc30 => ?_)
    · refine W.widen (k := 138) (n := 15799) (by omega) (by omega) ?_
      exact K1224 _ _ hS ls hl.1
    · exfalso; revert hc30; rcases (show n9 = 0 ∨ n9 = 1 ∨ n9 = 2 ∨ n9 = 3 ∨ n9 = 4 ∨ n9 = 5 by omega) with rfl | rfl | rfl | rfl | rfl | rfl <;> decide
  · obtain rfl : n9 = 6 := by omega
    have L1218 : ∀ (μ9 : mp), ∀ (H : Heap) (locs : List Loc), mw G.1 vwCl B (μ9) H → va_S (fun q => B ≤ q) s.heap H locs → ∀ ls : Array Slot, lv_has ls 8 [(4, .int (nI 0)), (3, .ref ou), (2, .ref md), (1, .ref d), (0, .ref sc0)] → W p l e room_1 s m args below meth c H locs 138 15799 Q (F0 m 1218 ls []) := by
      intro μ9  H locs hP hS ls hl
      refine lv_iinc (v := nI (0 + 6)) (lv' := [(4, .int (nI (0 + 6))), (3, .ref ou), (2, .ref md), (1, .ref d), (0, .ref sc0)]) hx hb dL_law_1218 hl (k := 0) rfl (nI_add _ _) (by decide) rfl (fun ls hl => ?_)
      refine lv_goto (tgt := 23) hx hb dL_law_1221 (by decide) ?_
      refine lv_iload hx hb dL_law_23 (lv_at hl 0 rfl) ?_
      refine lv_aload_n hx hb dL_law_25 rfl (lv_at hl 4 rfl) ?_
      refine sc_alen hx hb hX hbl hscB hS dL_law_26 ?_
      refine lv_bipush (v := nI 6) hx hb dL_law_27 (by decide) ?_
      refine nv_isub hx hb (by omega) dL_law_29 ?_
      refine nv_icmp_gt (tgt := 1224) hx hb (by omega) (by omega) dL_law_30 (by decide) (fun hc30 => ?_) (fun hc30 => ?_)
      · refine W.widen (k := 138) (n := 15799) (by omega) (by omega) ?_
        exact K1224 _ _ hS ls hl.1
      · exfalso; omega
    refine lv_iload hx hb dL_law_23 (lv_at hl 0 rfl) ?_
    refine lv_aload_n hx hb dL_law_25 rfl (lv_at hl 4 rfl) ?_
    refine sc_alen hx hb hX hbl hscB hS dL_law_26 ?_
    refine lv_bipush (v := nI 6) hx hb dL_law_27 (by decide) ?_
    refine nv_isub hx hb (by omega) dL_law_29 ?_
    refine nv_icmp_gt (tgt := 1224) hx hb (by omega) (by omega) dL_law_30 (by decide) (fun hc30 => ?_) (fun hc30 => ?_)
    · exfalso; omega
    · refine lv_aload_n hx hb dL_law_33 rfl (lv_at hl 4 rfl) ?_
      refine lv_iload hx hb dL_law_34 (lv_at hl 0 rfl) ?_
      refine sc_iald (i := 0) hx hb hX hbl hscB hS (by omega) (by omega) dL_law_36 ?_
      refine lv_bipush (v := nI 31) hx hb dL_law_37 (by decide) ?_
      refine lv_iand hx hb dL_law_39 ?_
      obtain ⟨k9, hk9, ek9⟩ := and31 (fs 0)
      rw [ek9]
      rcases (show k9 = 0 ∨ k9 = 1 ∨ k9 = 2 ∨ k9 = 3 ∨ k9 = 4 ∨ k9 = 5 ∨ k9 = 6 ∨ k9 = 7 ∨ k9 = 8 ∨ k9 = 9 ∨ k9 = 10 ∨ k9 = 11 ∨ k9 = 12 ∨ k9 = 13 ∨ k9 = 14 ∨ k9 = 15 ∨ k9 = 16 ∨ 17 ≤ k9 by omega) with rfl | rfl | rfl | rfl | rfl | rfl | rfl | rfl | rfl | rfl | rfl | rfl | rfl | rfl | rfl | rfl | rfl | h17
      · refine lv_tableIn (off := 84) (tgt := 124) hx hb dL_law_40 (by decide) (by decide) (by decide) (by decide) ?_
        exact lw_k0 l hlt G B sc0 fs μ17 d aS aL aR aT aO bn nn s9 lo nf sa la bE F g w9 fS fL fR fT sp fO ou (fun _ => 0) md ab av c1 c2 c3 c4 c5 c6 c7 c8 c9 f v i1 i2 i3 i4 i5 i6 hx hb hml hown hts hBs hKK hDc hscB hbl hX L1218 hD17 hFS hou hap hf_md hf_ab hf_av hNM hf_c1 hf_c2 hf_c3 hf_c4 hf_c5 hf_c6 n12 n13 n14 n15 n16 n23 n24 n25 n26 n34 n35 n36 n45 n46 n56 ap_md ap_ab ap_av ap_c1 ap_c2 ap_c3 ap_c4 ap_c5 ap_c6 _ _ hP hS ls hl
      · refine lv_tableIn (off := 195) (tgt := 235) hx hb dL_law_40 (by decide) (by decide) (by decide) (by decide) ?_
        exact lw_k1 l hlt G B sc0 fs μ17 d aS aL aR aT aO bn nn s9 lo nf sa la bE F g w9 fS fL fR fT sp fO ou (fun _ => 0) md ab av c1 c2 c3 c4 c5 c6 c7 c8 c9 f v i1 i2 i3 i4 i5 i6 hx hb hml hown hts hBs hKK hDc hscB hbl hX L1218 hD17 hFS hou hap hf_md hf_ab hf_av hNM hf_c1 hf_c2 hf_c3 hf_c4 hf_c5 hf_c6 n12 n13 n14 n15 n16 n23 n24 n25 n26 n34 n35 n36 n45 n46 n56 ap_md ap_ab ap_av ap_c1 ap_c2 ap_c3 ap_c4 ap_c5 ap_c6 _ _ hP hS ls hl
      · refine lv_tableIn (off := 231) (tgt := 271) hx hb dL_law_40 (by decide) (by decide) (by decide) (by decide) ?_
        exact lw_k2 l hlt G B sc0 fs μ17 d aS aL aR aT aO bn nn s9 lo nf sa la bE F g w9 fS fL fR fT sp fO ou (fun _ => 0) md ab av c1 c2 c3 c4 c5 c6 c7 c8 c9 f v i1 i2 i3 i4 i5 i6 hx hb hml hown hts hBs hKK hDc hscB hbl hX L1218 hD17 hFS hou hap hf_md hf_ab hf_av hNM hf_c1 hf_c2 hf_c3 hf_c4 hf_c5 hf_c6 n12 n13 n14 n15 n16 n23 n24 n25 n26 n34 n35 n36 n45 n46 n56 ap_md ap_ab ap_av ap_c1 ap_c2 ap_c3 ap_c4 ap_c5 ap_c6 _ _ hP hS ls hl
      · refine lv_tableIn (off := 279) (tgt := 319) hx hb dL_law_40 (by decide) (by decide) (by decide) (by decide) ?_
        exact lw_k3 l hlt G B sc0 fs μ17 d aS aL aR aT aO bn nn s9 lo nf sa la bE F g w9 fS fL fR fT sp fO ou (fun _ => 0) md ab av c1 c2 c3 c4 c5 c6 c7 c8 c9 f v i1 i2 i3 i4 i5 i6 hx hb hml hown hts hBs hKK hDc hscB hbl hX L1218 hD17 hFS hou hap hf_md hf_ab hf_av hNM hf_c1 hf_c2 hf_c3 hf_c4 hf_c5 hf_c6 n12 n13 n14 n15 n16 n23 n24 n25 n26 n34 n35 n36 n45 n46 n56 ap_md ap_ab ap_av ap_c1 ap_c2 ap_c3 ap_c4 ap_c5 ap_c6 _ _ hP hS ls hl
      · refine lv_tableIn (off := 366) (tgt := 406) hx hb dL_law_40 (by decide) (by decide) (by decide) (by decide) ?_
        exact lw_k4 l hlt G B sc0 fs μ17 d aS aL aR aT aO bn nn s9 lo nf sa la bE F g w9 fS fL fR fT sp fO ou (fun _ => 0) md ab av c1 c2 c3 c4 c5 c6 c7 c8 c9 f v i1 i2 i3 i4 i5 i6 hx hb hml hown hts hBs hKK hDc hscB hbl hX L1218 hD17 hFS hou hap hf_md hf_ab hf_av hNM hf_c1 hf_c2 hf_c3 hf_c4 hf_c5 hf_c6 n12 n13 n14 n15 n16 n23 n24 n25 n26 n34 n35 n36 n45 n46 n56 ap_md ap_ab ap_av ap_c1 ap_c2 ap_c3 ap_c4 ap_c5 ap_c6 _ _ hP hS ls hl
      · refine lv_tableIn (off := 426) (tgt := 466) hx hb dL_law_40 (by decide) (by decide) (by decide) (by decide) ?_
        exact lw_k5 l hlt G B sc0 fs μ17 d aS aL aR aT aO bn nn s9 lo nf sa la bE F g w9 fS fL fR fT sp fO ou (fun _ => 0) md ab av c1 c2 c3 c4 c5 c6 c7 c8 c9 f v i1 i2 i3 i4 i5 i6 hx hb hml hown hts hBs hKK hDc hscB hbl hX L1218 hD17 hFS hou hap hf_md hf_ab hf_av hNM hf_c1 hf_c2 hf_c3 hf_c4 hf_c5 hf_c6 n12 n13 n14 n15 n16 n23 n24 n25 n26 n34 n35 n36 n45 n46 n56 ap_md ap_ab ap_av ap_c1 ap_c2 ap_c3 ap_c4 ap_c5 ap_c6 _ _ hP hS ls hl
      · refine lv_tableIn (off := 486) (tgt := 526) hx hb dL_law_40 (by decide) (by decide) (by decide) (by decide) ?_
        exact lw_k6 l hlt G B sc0 fs μ17 d aS aL aR aT aO bn nn s9 lo nf sa la bE F g w9 fS fL fR fT sp fO ou (fun _ => 0) md ab av c1 c2 c3 c4 c5 c6 c7 c8 c9 f v i1 i2 i3 i4 i5 i6 hx hb hml hown hts hBs hKK hDc hscB hbl hX L1218 hD17 hFS hou hap hf_md hf_ab hf_av hNM hf_c1 hf_c2 hf_c3 hf_c4 hf_c5 hf_c6 n12 n13 n14 n15 n16 n23 n24 n25 n26 n34 n35 n36 n45 n46 n56 ap_md ap_ab ap_av ap_c1 ap_c2 ap_c3 ap_c4 ap_c5 ap_c6 _ _ hP hS ls hl
      · refine lv_tableIn (off := 534) (tgt := 574) hx hb dL_law_40 (by decide) (by decide) (by decide) (by decide) ?_
        exact lw_k7 l hlt G B sc0 fs μ17 d aS aL aR aT aO bn nn s9 lo nf sa la bE F g w9 fS fL fR fT sp fO ou (fun _ => 0) md ab av c1 c2 c3 c4 c5 c6 c7 c8 c9 f v i1 i2 i3 i4 i5 i6 hx hb hml hown hts hBs hKK hDc hscB hbl hX L1218 hD17 hFS hou hap hf_md hf_ab hf_av hNM hf_c1 hf_c2 hf_c3 hf_c4 hf_c5 hf_c6 n12 n13 n14 n15 n16 n23 n24 n25 n26 n34 n35 n36 n45 n46 n56 ap_md ap_ab ap_av ap_c1 ap_c2 ap_c3 ap_c4 ap_c5 ap_c6 _ _ hP hS ls hl
      · refine lv_tableIn (off := 597) (tgt := 637) hx hb dL_law_40 (by decide) (by decide) (by decide) (by decide) ?_
        exact lw_k8 l hlt G B sc0 fs μ17 d aS aL aR aT aO bn nn s9 lo nf sa la bE F g w9 fS fL fR fT sp fO ou (fun _ => 0) md ab av c1 c2 c3 c4 c5 c6 c7 c8 c9 f v i1 i2 i3 i4 i5 i6 hx hb hml hown hts hBs hKK hDc hscB hbl hX L1218 hD17 hFS hou hap hf_md hf_ab hf_av hNM hf_c1 hf_c2 hf_c3 hf_c4 hf_c5 hf_c6 n12 n13 n14 n15 n16 n23 n24 n25 n26 n34 n35 n36 n45 n46 n56 ap_md ap_ab ap_av ap_c1 ap_c2 ap_c3 ap_c4 ap_c5 ap_c6 _ _ hP hS ls hl
      · refine lv_tableIn (off := 676) (tgt := 716) hx hb dL_law_40 (by decide) (by decide) (by decide) (by decide) ?_
        exact lw_k9 l hlt G B sc0 fs μ17 d aS aL aR aT aO bn nn s9 lo nf sa la bE F g w9 fS fL fR fT sp fO ou (fun _ => 0) md ab av c1 c2 c3 c4 c5 c6 c7 c8 c9 f v i1 i2 i3 i4 i5 i6 hx hb hml hown hts hBs hKK hDc hscB hbl hX L1218 hD17 hFS hou hap hf_md hf_ab hf_av hNM hf_c1 hf_c2 hf_c3 hf_c4 hf_c5 hf_c6 n12 n13 n14 n15 n16 n23 n24 n25 n26 n34 n35 n36 n45 n46 n56 ap_md ap_ab ap_av ap_c1 ap_c2 ap_c3 ap_c4 ap_c5 ap_c6 _ _ hP hS ls hl
      · refine lv_tableIn (off := 751) (tgt := 791) hx hb dL_law_40 (by decide) (by decide) (by decide) (by decide) ?_
        exact lw_k10 l hlt G B sc0 fs μ17 d aS aL aR aT aO bn nn s9 lo nf sa la bE F g w9 fS fL fR fT sp fO ou (fun _ => 0) md ab av c1 c2 c3 c4 c5 c6 c7 c8 c9 f v i1 i2 i3 i4 i5 i6 hx hb hml hown hts hBs hKK hDc hscB hbl hX L1218 hD17 hFS hou hap hf_md hf_ab hf_av hNM hf_c1 hf_c2 hf_c3 hf_c4 hf_c5 hf_c6 n12 n13 n14 n15 n16 n23 n24 n25 n26 n34 n35 n36 n45 n46 n56 ap_md ap_ab ap_av ap_c1 ap_c2 ap_c3 ap_c4 ap_c5 ap_c6 _ _ hP hS ls hl
      · refine lv_tableIn (off := 807) (tgt := 847) hx hb dL_law_40 (by decide) (by decide) (by decide) (by decide) ?_
        exact lw_k11 l hlt G B sc0 fs μ17 d aS aL aR aT aO bn nn s9 lo nf sa la bE F g w9 fS fL fR fT sp fO ou (fun _ => 0) md ab av c1 c2 c3 c4 c5 c6 c7 c8 c9 f v i1 i2 i3 i4 i5 i6 hx hb hml hown hts hBs hKK hDc hscB hbl hX L1218 hD17 hFS hou hap hf_md hf_ab hf_av hNM hf_c1 hf_c2 hf_c3 hf_c4 hf_c5 hf_c6 n12 n13 n14 n15 n16 n23 n24 n25 n26 n34 n35 n36 n45 n46 n56 ap_md ap_ab ap_av ap_c1 ap_c2 ap_c3 ap_c4 ap_c5 ap_c6 _ _ hP hS ls hl
      · refine lv_tableIn (off := 874) (tgt := 914) hx hb dL_law_40 (by decide) (by decide) (by decide) (by decide) ?_
        exact lw_k12 l hlt G B sc0 fs μ17 d aS aL aR aT aO bn nn s9 lo nf sa la bE F g w9 fS fL fR fT sp fO ou (fun _ => 0) md ab av c1 c2 c3 c4 c5 c6 c7 c8 c9 f v i1 i2 i3 i4 i5 i6 hx hb hml hown hts hBs hKK hDc hscB hbl hX L1218 hD17 hFS hou hap hf_md hf_ab hf_av hNM hf_c1 hf_c2 hf_c3 hf_c4 hf_c5 hf_c6 n12 n13 n14 n15 n16 n23 n24 n25 n26 n34 n35 n36 n45 n46 n56 ap_md ap_ab ap_av ap_c1 ap_c2 ap_c3 ap_c4 ap_c5 ap_c6 _ _ hP hS ls hl
      · refine lv_tableIn (off := 930) (tgt := 970) hx hb dL_law_40 (by decide) (by decide) (by decide) (by decide) ?_
        exact lw_k13 l hlt G B sc0 fs μ17 d aS aL aR aT aO bn nn s9 lo nf sa la bE F g w9 fS fL fR fT sp fO ou (fun _ => 0) md ab av c1 c2 c3 c4 c5 c6 c7 c8 c9 f v i1 i2 i3 i4 i5 i6 hx hb hml hown hts hBs hKK hDc hscB hbl hX L1218 hD17 hFS hou hap hf_md hf_ab hf_av hNM hf_c1 hf_c2 hf_c3 hf_c4 hf_c5 hf_c6 n12 n13 n14 n15 n16 n23 n24 n25 n26 n34 n35 n36 n45 n46 n56 ap_md ap_ab ap_av ap_c1 ap_c2 ap_c3 ap_c4 ap_c5 ap_c6 _ _ hP hS ls hl
      · refine lv_tableIn (off := 1034) (tgt := 1074) hx hb dL_law_40 (by decide) (by decide) (by decide) (by decide) ?_
        exact lw_k14 l hlt G B sc0 fs μ17 d aS aL aR aT aO bn nn s9 lo nf sa la bE F g w9 fS fL fR fT sp fO ou (fun _ => 0) md ab av c1 c2 c3 c4 c5 c6 c7 c8 c9 f v i1 i2 i3 i4 i5 i6 hx hb hml hown hts hBs hKK hDc hscB hbl hX L1218 hD17 hFS hou hap hf_md hf_ab hf_av hNM hf_c1 hf_c2 hf_c3 hf_c4 hf_c5 hf_c6 n12 n13 n14 n15 n16 n23 n24 n25 n26 n34 n35 n36 n45 n46 n56 ap_md ap_ab ap_av ap_c1 ap_c2 ap_c3 ap_c4 ap_c5 ap_c6 _ _ hP hS ls hl
      · refine lv_tableIn (off := 1047) (tgt := 1087) hx hb dL_law_40 (by decide) (by decide) (by decide) (by decide) ?_
        exact lw_k15 l hlt G B sc0 fs μ17 d aS aL aR aT aO bn nn s9 lo nf sa la bE F g w9 fS fL fR fT sp fO ou (fun _ => 0) md ab av c1 c2 c3 c4 c5 c6 c7 c8 c9 f v i1 i2 i3 i4 i5 i6 hx hb hml hown hts hBs hKK hDc hscB hbl hX L1218 hD17 hFS hou hap hf_md hf_ab hf_av hNM hf_c1 hf_c2 hf_c3 hf_c4 hf_c5 hf_c6 n12 n13 n14 n15 n16 n23 n24 n25 n26 n34 n35 n36 n45 n46 n56 ap_md ap_ab ap_av ap_c1 ap_c2 ap_c3 ap_c4 ap_c5 ap_c6 _ _ hP hS ls hl
      · refine lv_tableIn (off := 1103) (tgt := 1143) hx hb dL_law_40 (by decide) (by decide) (by decide) (by decide) ?_
        exact lw_k16 l hlt G B sc0 fs μ17 d aS aL aR aT aO bn nn s9 lo nf sa la bE F g w9 fS fL fR fT sp fO ou (fun _ => 0) md ab av c1 c2 c3 c4 c5 c6 c7 c8 c9 f v i1 i2 i3 i4 i5 i6 hx hb hml hown hts hBs hKK hDc hscB hbl hX L1218 hD17 hFS hou hap hf_md hf_ab hf_av hNM hf_c1 hf_c2 hf_c3 hf_c4 hf_c5 hf_c6 n12 n13 n14 n15 n16 n23 n24 n25 n26 n34 n35 n36 n45 n46 n56 ap_md ap_ab ap_av ap_c1 ap_c2 ap_c3 ap_c4 ap_c5 ap_c6 _ _ hP hS ls hl
      · refine lv_tableOut (tgt := 1218) hx hb dL_law_40 (sw40 k9 hk9 h17) (by decide) ?_
        refine W.widen (k := 138) (n := 15799) (by omega) (by omega) ?_
        exact L1218 _ _ _ hP hS ls hl
