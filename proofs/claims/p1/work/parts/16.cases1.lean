set_option maxHeartbeats 4000000 in
set_option maxRecDepth 100000 in
theorem lw_k8 (l : Launch) (hlt : l.stackTraces = false) (G : GG) (B : Nat) (sc0 : Nat) (fs : Nat → Int32) {p : Program} {e : Env} {s : State} {m : MethodId} {args : Array Value} {below : List Frame} {meth : Method} {c : Code} {Q : State → Prop} (μ : mp) (d aS aL aR aT aO bn nn s9 lo : Nat) (nf : List Value) (sa la bE : Nat → Nat) (F : Nat → Nat → Int64) (g : Nat → Int64) (w9 : Nat → Int32) (fS fL fR fT : Nat → Option Nat) (sp : Nat → Nat) (fO : Nat → Int64) (ou : Nat) (fo : Nat → Int64) (md ab av c1 c2 c3 c4 c5 c6 c7 c8 c9 : Nat) (f : Nat → Int64) (v : Nat → Int32) (i1 i2 i3 i4 i5 i6 : Nat → Int32) (hx : p.tables.exec = Jvm.exec) (hb : c.code = cL_law) (hml : c.maxLocals = 8) (hown : s.vm.findClass RL = some m.cls) (hts : ∀ w ∈ wsL_law, w.before args s = true) (hBs : B ≤ s.heap.size) (hKK : KK G B s) (hDc : DcI s) (hscB : sc0 < B) (hbl : sc0 < s.heap.size) (hX : va_X sc0 6 fs s s.heap) (L1218 : ∀ (μ9 : mp) (H : Heap) (locs : List Loc), mw G.1 vwCl B μ9 H → va_S (fun q => B ≤ q) s.heap H locs → ∀ ls : Array Slot, lv_has ls 8 [(4, .int (nI 0)), (3, .ref ou), (2, .ref md), (1, .ref d), (0, .ref sc0)] → W p l e room_1 s m args below meth c H locs 138 15799 Q (F0 m 1218 ls [])) (hD : DK G μ d aS aL aR aT aO bn nn s9 lo 0 nf sa la bE F g w9 fS fL fR fT sp fO) (hFS : FS F bE g) (hou : μ ou = some (.inl (G.2 0, 1, .inr (.inl fo)))) (hap : Apt d aO s9 lo sa la sp ou) (hmd : μ md = some (.inr (7, [.int (nI 0), .ref ab, .ref av, .int (nI 0), .ref c1, .ref c2, .ref c3, .ref c4, .ref c5, .ref c6, .ref c7, .ref c8, .ref c9]))) (hab : μ ab = some (.inl (G.2 0, 3744, .inr (.inl f)))) (hav : μ av = some (.inl (G.2 2, 26, .inl v))) (hNM : NM f v) (hc1 : μ c1 = some (.inl (G.2 1, 20, .inl i1))) (hc2 : μ c2 = some (.inl (G.2 1, 20, .inl i2))) (hc3 : μ c3 = some (.inl (G.2 1, 20, .inl i3))) (hc4 : μ c4 = some (.inl (G.2 1, 20, .inl i4))) (hc5 : μ c5 = some (.inl (G.2 1, 20, .inl i5))) (hc6 : μ c6 = some (.inl (G.2 1, 20, .inl i6))) (n12 : c1 ≠ c2) (n13 : c1 ≠ c3) (n14 : c1 ≠ c4) (n15 : c1 ≠ c5) (n16 : c1 ≠ c6) (n23 : c2 ≠ c3) (n24 : c2 ≠ c4) (n25 : c2 ≠ c5) (n26 : c2 ≠ c6) (n34 : c3 ≠ c4) (n35 : c3 ≠ c5) (n36 : c3 ≠ c6) (n45 : c4 ≠ c5) (n46 : c4 ≠ c6) (n56 : c5 ≠ c6) (ap_md : Apt d aO s9 lo sa la sp md) (ap_ab : Apt d aO s9 lo sa la sp ab) (ap_av : Apt d aO s9 lo sa la sp av) (ap_c1 : Apt d aO s9 lo sa la sp c1) (ap_c2 : Apt d aO s9 lo sa la sp c2) (ap_c3 : Apt d aO s9 lo sa la sp c3) (ap_c4 : Apt d aO s9 lo sa la sp c4) (ap_c5 : Apt d aO s9 lo sa la sp c5) (ap_c6 : Apt d aO s9 lo sa la sp c6) (H : Heap) (locs : List Loc) (hP : mw G.1 vwCl B μ H) (hS : va_S (fun q => B ≤ q) s.heap H locs) (ls : Array Slot) (hl : lv_has ls 8 [(4, .int (nI 0)), (3, .ref ou), (2, .ref md), (1, .ref d), (0, .ref sc0)]) : W p l e room_1 s m args below meth c H locs 103 8067 Q (F0 m 637 ls []) := by
  have hK := hKK.k
  refine lv_aload_n hx hb dL_law_637 rfl (lv_at hl 3 rfl) ?_
  refine lv_aload_n hx hb dL_law_638 rfl (lv_at hl 4 rfl) ?_
  refine lv_iload hx hb dL_law_639 (lv_at hl 0 rfl) ?_
  refine lv_iconst (v := nI 1) hx hb dL_law_641 (by decide) ?_
  refine nv_iadd hx hb dL_law_642 ?_
  refine sc_iald (i := 1) hx hb hX hbl hscB hS (by omega) (by omega) dL_law_643 ?_
  refine lv_aload_n hx hb dL_law_644 rfl (lv_at hl 4 rfl) ?_
  refine lv_iload hx hb dL_law_645 (lv_at hl 0 rfl) ?_
  refine lv_iconst (v := nI 2) hx hb dL_law_647 (by decide) ?_
  refine nv_iadd hx hb dL_law_648 ?_
  refine sc_iald (i := 2) hx hb hX hbl hscB hS (by omega) (by omega) dL_law_649 ?_
  refine lv_aload_n hx hb dL_law_650 rfl (lv_at hl 4 rfl) ?_
  refine lv_iload hx hb dL_law_651 (lv_at hl 0 rfl) ?_
  refine lv_iconst (v := nI 3) hx hb dL_law_653 (by decide) ?_
  refine nv_iadd hx hb dL_law_654 ?_
  refine sc_iald (i := 3) hx hb hX hbl hscB hS (by omega) (by omega) dL_law_655 ?_
  refine lv_aload_n hx hb dL_law_656 rfl (lv_at hl 1 rfl) ?_
  refine kx_i (vx_runSX (As := [.ref d, .int (fs 1), .int (fs 2), .int (fs 3), .ref ou]) (rest := []) ⟨hx, hb, hml, hown, hts⟩ (c_L_most l hlt G B (μ) d aS aL aR aT aO bn nn s9 lo nf sa la bE F g w9 fS fL fR fT sp fO (fs 1) (fs 2) (fs 3) ou fo hD hFS hou hap) (vx_cwSW 5 hts gL_law_L_most rfl rfl rfl (by decide +kernel) ⟨Nat.le_of_ble_eq_true rfl, Nat.le_of_ble_eq_true rfl⟩) ⟨KX.blind, fun U9 hU9 hW9 => ⟨rfl, KW.pre hBs hKK hS hP U9 hU9 hW9, hDc.at hW9⟩⟩ rfl rfl hl.1 rfl (lv_room (Nat.le_of_ble_eq_true rfl)) dL_law_657 ⟨(Nat.le_of_ble_eq_true rfl), (Nat.le_of_ble_eq_true rfl)⟩) hS (fun E ce q9 H locs hce hP hS h91 h92 h93 => ?_) (fun r657 m657 H locs hq9 hP hz9 hS => ?_)
  · exact False.elim hce
  obtain ⟨hfr, fo9, hou9, hcase⟩ := hq9
  have hg_md := hfr md _ (hmd) (mp_ne hmd hou (by simp)) ap_md
  have hg_ab := hfr ab _ (hab) (mp_ne hab hou (by simp)) ap_ab
  have hg_av := hfr av _ (hav) (mp_ne hav hou (by simp)) ap_av
  have hg_c1 := hfr c1 _ (hc1) (mp_ne hc1 hou (by simp)) ap_c1
  have hg_c2 := hfr c2 _ (hc2) (mp_ne hc2 hou (by simp)) ap_c2
  have hg_c3 := hfr c3 _ (hc3) (mp_ne hc3 hou (by simp)) ap_c3
  have hg_c4 := hfr c4 _ (hc4) (mp_ne hc4 hou (by simp)) ap_c4
  have hg_c5 := hfr c5 _ (hc5) (mp_ne hc5 hou (by simp)) ap_c5
  have hg_c6 := hfr c6 _ (hc6) (mp_ne hc6 hou (by simp)) ap_c6
  refine lv_istore (lv' := [(5, .int r657), (4, .int (nI 0)), (3, .ref ou), (2, .ref md), (1, .ref d), (0, .ref sc0)]) hx hb dL_law_660 hl (by decide) rfl (fun ls hl => ?_)
  refine lv_aload_n hx hb dL_law_662 rfl (lv_at hl 3 rfl) ?_
  refine lv_aload_n hx hb dL_law_663 rfl (lv_at hl 5 rfl) ?_
  refine lv_iload hx hb dL_law_664 (lv_at hl 1 rfl) ?_
  refine lv_iconst (v := nI 1) hx hb dL_law_666 (by decide) ?_
  refine nv_iadd hx hb dL_law_667 ?_
  refine sc_iald (i := 1) hx hb hX hbl hscB hS (by omega) (by omega) dL_law_668 ?_
  refine lv_aload_n hx hb dL_law_669 rfl (lv_at hl 5 rfl) ?_
  refine lv_iload hx hb dL_law_670 (lv_at hl 1 rfl) ?_
  refine lv_iconst (v := nI 2) hx hb dL_law_672 (by decide) ?_
  refine nv_iadd hx hb dL_law_673 ?_
  refine sc_iald (i := 2) hx hb hX hbl hscB hS (by omega) (by omega) dL_law_674 ?_
  refine lv_aload_n hx hb dL_law_675 rfl (lv_at hl 5 rfl) ?_
  refine lv_iload hx hb dL_law_676 (lv_at hl 1 rfl) ?_
  refine lv_iconst (v := nI 3) hx hb dL_law_678 (by decide) ?_
  refine nv_iadd hx hb dL_law_679 ?_
  refine sc_iald (i := 3) hx hb hX hbl hscB hS (by omega) (by omega) dL_law_680 ?_
  refine kc_l (va_runV (As := [.int (fs 1), .int (fs 2), .int (fs 3)]) (rest := []) ⟨hx, hb, hml, hown, hts⟩ (c_X7_most l G B (m657) md ab av c1 c2 c3 c4 c5 c6 c7 c8 c9 0 0 f v (fs 1) (fs 2) (fs 3) (hg_md) (hg_ab) (hg_av) hNM) (cwV 3 hts gL_law_X7_most rfl rfl rfl (by decide +kernel) ⟨Nat.le_of_ble_eq_true rfl, Nat.le_of_ble_eq_true rfl⟩) ⟨KW.blind, hP.recv hK rfl (hg_md), fun U9 hU9 hW9 => ⟨rfl, KW.pre hBs hKK hS hP U9 hU9 hW9⟩⟩ rfl rfl hl.1 rfl (lv_room (Nat.le_of_ble_eq_true rfl)) dL_law_681 ⟨(Nat.le_of_ble_eq_true rfl), (Nat.le_of_ble_eq_true rfl)⟩) hS (fun r681 m681 H locs hq9 hP hz9 hS => ?_)
  obtain ⟨fl9, g9, w9, he9, hm9⟩ := hq9
  rw [he9] at hP
  rcases hcase with ⟨hr9, hok, hv9⟩ | ⟨hr9, hno⟩
  · rcases hm9 with ⟨hf9, hok2, hb9⟩ | ⟨hf9, hno2⟩
    · subst hf9
      obtain rfl : r657 = nI 0 := hr9
      subst hb9
      refine lv_lstore (lv' := [(6, .long INF), (5, .int (nI 0)), (4, .int (nI 0)), (3, .ref ou), (2, .ref md), (1, .ref d), (0, .ref sc0)]) hx hb dL_law_684 hl (by decide) rfl (fun ls hl => ?_)
      refine lv_aload_n hx hb dL_law_686 rfl (lv_at hl 4 rfl) ?_
      refine kc_i (va_runV (As := []) (rest := []) ⟨hx, hb, hml, hown, hts⟩ (c_X7_thrown l G B (mu (mu (mu m657 md (.inr (7, [.int (nI 0), .ref ab, .ref av, .int (nI 0), .ref c1, .ref c2, .ref c3, .ref c4, .ref c5, .ref c6, .ref c7, .ref c8, .ref c9]))) ab (.inl (G.2 0, 3744, .inr (.inl g9)))) av (.inl (G.2 2, 26, .inl w9))) md ab av c1 c2 c3 c4 c5 c6 c7 c8 c9 0 0 g9 w9 ((mu_n ((mp_ne hg_md hg_av (by simp)))).trans ((mu_n ((mp_ne hg_md hg_ab (by simp)))).trans (mu_s _ _ _))) ((mu_n ((mp_ne hg_ab hg_av (by simp)))).trans (mu_s _ _ _)) (mu_s _ _ _)) (cwV 0 hts gL_law_X7_thrown rfl rfl rfl (by decide +kernel) ⟨Nat.le_of_ble_eq_true rfl, Nat.le_of_ble_eq_true rfl⟩) ⟨KW.blind, hP.recv hK rfl ((mu_n ((mp_ne hg_md hg_av (by simp)))).trans ((mu_n ((mp_ne hg_md hg_ab (by simp)))).trans (mu_s _ _ _))), fun U9 hU9 hW9 => ⟨rfl, KW.pre hBs hKK hS hP U9 hU9 hW9⟩⟩ rfl rfl hl.1 rfl (lv_room (Nat.le_of_ble_eq_true rfl)) dL_law_687 ⟨(Nat.le_of_ble_eq_true rfl), (Nat.le_of_ble_eq_true rfl)⟩) hS (fun r687 m687 H locs hq9 hP hz9 hS => ?_)
      obtain ⟨he8, hr8⟩ := hq9
      rw [he8] at hP
      obtain rfl : r687 = nI 0 := hr8
      refine lv_iload hx hb dL_law_690 (lv_at hl 1 rfl) ?_
      refine nv_icmp_eq (tgt := 697) hx hb (by omega) (by omega) dL_law_692 (by decide) (fun hc692 => ?_) (fun hc692 => ?_)
      · refine lv_iload hx hb dL_law_697 (lv_at hl 1 rfl) ?_
        refine lv_if_ne (tgt := 713) hx hb dL_law_699 (by decide) (fun hc699 => ?_) (fun hc699 => ?_)
        · exact absurd rfl hc699
        · refine lv_aload_n hx hb dL_law_702 rfl (lv_at hl 3 rfl) ?_
          refine lv_iconst (v := nI 0) hx hb dL_law_703 (by decide) ?_
          refine mw_lald hx hb hK hP 0 ((mu_n ((mp_ne hou9 hg_av (by simp)))).trans ((mu_n ((mp_ne hou9 hg_ab (by simp)))).trans ((mu_n ((mp_ne hou9 hg_md (by simp)))).trans (hou9)))) rfl (by omega) (by omega) dL_law_704 ?_
          refine lv_lload hx hb dL_law_705 (lv_at hl 0 rfl) ?_
          refine nl_if_eq (tgt := 713) hx hb dL_law_707 dL_law_708 (by decide) (fun hc707 => ?_) (fun hc707 => ?_)
          · refine lv_goto (tgt := 1218) hx hb dL_law_713 (by decide) ?_
            refine W.widen (k := 138) (n := 15799) (by omega) (by omega) ?_
            exact L1218 (mu (mu (mu m657 md (.inr (7, [.int (nI 0), .ref ab, .ref av, .int (nI 0), .ref c1, .ref c2, .ref c3, .ref c4, .ref c5, .ref c6, .ref c7, .ref c8, .ref c9]))) ab (.inl (G.2 0, 3744, .inr (.inl g9)))) av (.inl (G.2 2, 26, .inl w9)))  _ _ hP hS ls (lv_sub hl [2, 3, 4, 5, 6] rfl)
          · exact absurd (hv9.trans (by first | rfl | decide | (subst_vars; decide))) hc707
      · exfalso; omega
    · exact absurd hok hno2
  · rcases hm9 with ⟨hf9, hok2, hb9⟩ | ⟨hf9, hno2⟩
    · exact absurd hok2 hno
    · subst hf9
      obtain rfl : r657 = nI 1 := hr9
      refine lv_lstore (lv' := [(6, .long r681), (5, .int (nI 1)), (4, .int (nI 0)), (3, .ref ou), (2, .ref md), (1, .ref d), (0, .ref sc0)]) hx hb dL_law_684 hl (by decide) rfl (fun ls hl => ?_)
      refine lv_aload_n hx hb dL_law_686 rfl (lv_at hl 4 rfl) ?_
      refine kc_i (va_runV (As := []) (rest := []) ⟨hx, hb, hml, hown, hts⟩ (c_X7_thrown l G B (mu (mu (mu m657 md (.inr (7, [.int (nI 1), .ref ab, .ref av, .int (nI 0), .ref c1, .ref c2, .ref c3, .ref c4, .ref c5, .ref c6, .ref c7, .ref c8, .ref c9]))) ab (.inl (G.2 0, 3744, .inr (.inl g9)))) av (.inl (G.2 2, 26, .inl w9))) md ab av c1 c2 c3 c4 c5 c6 c7 c8 c9 1 0 g9 w9 ((mu_n ((mp_ne hg_md hg_av (by simp)))).trans ((mu_n ((mp_ne hg_md hg_ab (by simp)))).trans (mu_s _ _ _))) ((mu_n ((mp_ne hg_ab hg_av (by simp)))).trans (mu_s _ _ _)) (mu_s _ _ _)) (cwV 0 hts gL_law_X7_thrown rfl rfl rfl (by decide +kernel) ⟨Nat.le_of_ble_eq_true rfl, Nat.le_of_ble_eq_true rfl⟩) ⟨KW.blind, hP.recv hK rfl ((mu_n ((mp_ne hg_md hg_av (by simp)))).trans ((mu_n ((mp_ne hg_md hg_ab (by simp)))).trans (mu_s _ _ _))), fun U9 hU9 hW9 => ⟨rfl, KW.pre hBs hKK hS hP U9 hU9 hW9⟩⟩ rfl rfl hl.1 rfl (lv_room (Nat.le_of_ble_eq_true rfl)) dL_law_687 ⟨(Nat.le_of_ble_eq_true rfl), (Nat.le_of_ble_eq_true rfl)⟩) hS (fun r687 m687 H locs hq9 hP hz9 hS => ?_)
      obtain ⟨he8, hr8⟩ := hq9
      rw [he8] at hP
      obtain rfl : r687 = nI 1 := hr8
      refine lv_iload hx hb dL_law_690 (lv_at hl 1 rfl) ?_
      refine nv_icmp_eq (tgt := 697) hx hb (by omega) (by omega) dL_law_692 (by decide) (fun hc692 => ?_) (fun hc692 => ?_)
      · refine lv_iload hx hb dL_law_697 (lv_at hl 1 rfl) ?_
        refine lv_if_ne (tgt := 713) hx hb dL_law_699 (by decide) (fun hc699 => ?_) (fun hc699 => ?_)
        · refine lv_goto (tgt := 1218) hx hb dL_law_713 (by decide) ?_
          refine W.widen (k := 138) (n := 15799) (by omega) (by omega) ?_
          exact L1218 (mu (mu (mu m657 md (.inr (7, [.int (nI 1), .ref ab, .ref av, .int (nI 0), .ref c1, .ref c2, .ref c3, .ref c4, .ref c5, .ref c6, .ref c7, .ref c8, .ref c9]))) ab (.inl (G.2 0, 3744, .inr (.inl g9)))) av (.inl (G.2 2, 26, .inl w9)))  _ _ hP hS ls (lv_sub hl [2, 3, 4, 5, 6] rfl)
        · exact absurd hc699 (by decide)
      · exfalso; omega

set_option maxHeartbeats 4000000 in
set_option maxRecDepth 100000 in
theorem lw_k9 (l : Launch) (hlt : l.stackTraces = false) (G : GG) (B : Nat) (sc0 : Nat) (fs : Nat → Int32) {p : Program} {e : Env} {s : State} {m : MethodId} {args : Array Value} {below : List Frame} {meth : Method} {c : Code} {Q : State → Prop} (μ : mp) (d aS aL aR aT aO bn nn s9 lo : Nat) (nf : List Value) (sa la bE : Nat → Nat) (F : Nat → Nat → Int64) (g : Nat → Int64) (w9 : Nat → Int32) (fS fL fR fT : Nat → Option Nat) (sp : Nat → Nat) (fO : Nat → Int64) (ou : Nat) (fo : Nat → Int64) (md ab av c1 c2 c3 c4 c5 c6 c7 c8 c9 : Nat) (f : Nat → Int64) (v : Nat → Int32) (i1 i2 i3 i4 i5 i6 : Nat → Int32) (hx : p.tables.exec = Jvm.exec) (hb : c.code = cL_law) (hml : c.maxLocals = 8) (hown : s.vm.findClass RL = some m.cls) (hts : ∀ w ∈ wsL_law, w.before args s = true) (hBs : B ≤ s.heap.size) (hKK : KK G B s) (hDc : DcI s) (hscB : sc0 < B) (hbl : sc0 < s.heap.size) (hX : va_X sc0 6 fs s s.heap) (L1218 : ∀ (μ9 : mp) (H : Heap) (locs : List Loc), mw G.1 vwCl B μ9 H → va_S (fun q => B ≤ q) s.heap H locs → ∀ ls : Array Slot, lv_has ls 8 [(4, .int (nI 0)), (3, .ref ou), (2, .ref md), (1, .ref d), (0, .ref sc0)] → W p l e room_1 s m args below meth c H locs 138 15799 Q (F0 m 1218 ls [])) (hD : DK G μ d aS aL aR aT aO bn nn s9 lo 0 nf sa la bE F g w9 fS fL fR fT sp fO) (hFS : FS F bE g) (hou : μ ou = some (.inl (G.2 0, 1, .inr (.inl fo)))) (hap : Apt d aO s9 lo sa la sp ou) (hmd : μ md = some (.inr (7, [.int (nI 0), .ref ab, .ref av, .int (nI 0), .ref c1, .ref c2, .ref c3, .ref c4, .ref c5, .ref c6, .ref c7, .ref c8, .ref c9]))) (hab : μ ab = some (.inl (G.2 0, 3744, .inr (.inl f)))) (hav : μ av = some (.inl (G.2 2, 26, .inl v))) (hNM : NM f v) (hc1 : μ c1 = some (.inl (G.2 1, 20, .inl i1))) (hc2 : μ c2 = some (.inl (G.2 1, 20, .inl i2))) (hc3 : μ c3 = some (.inl (G.2 1, 20, .inl i3))) (hc4 : μ c4 = some (.inl (G.2 1, 20, .inl i4))) (hc5 : μ c5 = some (.inl (G.2 1, 20, .inl i5))) (hc6 : μ c6 = some (.inl (G.2 1, 20, .inl i6))) (n12 : c1 ≠ c2) (n13 : c1 ≠ c3) (n14 : c1 ≠ c4) (n15 : c1 ≠ c5) (n16 : c1 ≠ c6) (n23 : c2 ≠ c3) (n24 : c2 ≠ c4) (n25 : c2 ≠ c5) (n26 : c2 ≠ c6) (n34 : c3 ≠ c4) (n35 : c3 ≠ c5) (n36 : c3 ≠ c6) (n45 : c4 ≠ c5) (n46 : c4 ≠ c6) (n56 : c5 ≠ c6) (ap_md : Apt d aO s9 lo sa la sp md) (ap_ab : Apt d aO s9 lo sa la sp ab) (ap_av : Apt d aO s9 lo sa la sp av) (ap_c1 : Apt d aO s9 lo sa la sp c1) (ap_c2 : Apt d aO s9 lo sa la sp c2) (ap_c3 : Apt d aO s9 lo sa la sp c3) (ap_c4 : Apt d aO s9 lo sa la sp c4) (ap_c5 : Apt d aO s9 lo sa la sp c5) (ap_c6 : Apt d aO s9 lo sa la sp c6) (H : Heap) (locs : List Loc) (hP : mw G.1 vwCl B μ H) (hS : va_S (fun q => B ≤ q) s.heap H locs) (ls : Array Slot) (hl : lv_has ls 8 [(4, .int (nI 0)), (3, .ref ou), (2, .ref md), (1, .ref d), (0, .ref sc0)]) : W p l e room_1 s m args below meth c H locs 103 8067 Q (F0 m 716 ls []) := by
  have hK := hKK.k
  refine lv_aload_n hx hb dL_law_716 rfl (lv_at hl 3 rfl) ?_
  refine lv_aload_n hx hb dL_law_717 rfl (lv_at hl 4 rfl) ?_
  refine lv_iload hx hb dL_law_718 (lv_at hl 0 rfl) ?_
  refine lv_iconst (v := nI 1) hx hb dL_law_720 (by decide) ?_
  refine nv_iadd hx hb dL_law_721 ?_
  refine sc_iald (i := 1) hx hb hX hbl hscB hS (by omega) (by omega) dL_law_722 ?_
  refine lv_aload_n hx hb dL_law_723 rfl (lv_at hl 4 rfl) ?_
  refine lv_iload hx hb dL_law_724 (lv_at hl 0 rfl) ?_
  refine lv_iconst (v := nI 2) hx hb dL_law_726 (by decide) ?_
  refine nv_iadd hx hb dL_law_727 ?_
  refine sc_iald (i := 2) hx hb hX hbl hscB hS (by omega) (by omega) dL_law_728 ?_
  refine lv_aload_n hx hb dL_law_729 rfl (lv_at hl 1 rfl) ?_
  refine kx_i (vx_runSX (As := [.ref d, .int (fs 1), .int (fs 2), .ref ou]) (rest := []) ⟨hx, hb, hml, hown, hts⟩ (c_L_inside l hlt G B (μ) d aS aL aR aT aO bn nn s9 lo nf sa la bE F g w9 fS fL fR fT sp fO (fs 1) (fs 2) ou fo hD hFS hou hap) (vx_cwSW 4 hts gL_law_L_inside rfl rfl rfl (by decide +kernel) ⟨Nat.le_of_ble_eq_true rfl, Nat.le_of_ble_eq_true rfl⟩) ⟨KX.blind, fun U9 hU9 hW9 => ⟨rfl, KW.pre hBs hKK hS hP U9 hU9 hW9, hDc.at hW9⟩⟩ rfl rfl hl.1 rfl (lv_room (Nat.le_of_ble_eq_true rfl)) dL_law_730 ⟨(Nat.le_of_ble_eq_true rfl), (Nat.le_of_ble_eq_true rfl)⟩) hS (fun E ce q9 H locs hce hP hS h91 h92 h93 => ?_) (fun r730 m730 H locs hq9 hP hz9 hS => ?_)
  · exact False.elim hce
  obtain ⟨hfr, fo9, hou9, hcase⟩ := hq9
  have hg_md := hfr md _ (hmd) (mp_ne hmd hou (by simp)) ap_md
  have hg_ab := hfr ab _ (hab) (mp_ne hab hou (by simp)) ap_ab
  have hg_av := hfr av _ (hav) (mp_ne hav hou (by simp)) ap_av
  have hg_c1 := hfr c1 _ (hc1) (mp_ne hc1 hou (by simp)) ap_c1
  have hg_c2 := hfr c2 _ (hc2) (mp_ne hc2 hou (by simp)) ap_c2
  have hg_c3 := hfr c3 _ (hc3) (mp_ne hc3 hou (by simp)) ap_c3
  have hg_c4 := hfr c4 _ (hc4) (mp_ne hc4 hou (by simp)) ap_c4
  have hg_c5 := hfr c5 _ (hc5) (mp_ne hc5 hou (by simp)) ap_c5
  have hg_c6 := hfr c6 _ (hc6) (mp_ne hc6 hou (by simp)) ap_c6
  refine lv_istore (lv' := [(5, .int r730), (4, .int (nI 0)), (3, .ref ou), (2, .ref md), (1, .ref d), (0, .ref sc0)]) hx hb dL_law_733 hl (by decide) rfl (fun ls hl => ?_)
  refine lv_aload_n hx hb dL_law_735 rfl (lv_at hl 3 rfl) ?_
  refine lv_aload_n hx hb dL_law_736 rfl (lv_at hl 5 rfl) ?_
  refine lv_iload hx hb dL_law_737 (lv_at hl 1 rfl) ?_
  refine lv_iconst (v := nI 1) hx hb dL_law_739 (by decide) ?_
  refine nv_iadd hx hb dL_law_740 ?_
  refine sc_iald (i := 1) hx hb hX hbl hscB hS (by omega) (by omega) dL_law_741 ?_
  refine lv_aload_n hx hb dL_law_742 rfl (lv_at hl 5 rfl) ?_
  refine lv_iload hx hb dL_law_743 (lv_at hl 1 rfl) ?_
  refine lv_iconst (v := nI 2) hx hb dL_law_745 (by decide) ?_
  refine nv_iadd hx hb dL_law_746 ?_
  refine sc_iald (i := 2) hx hb hX hbl hscB hS (by omega) (by omega) dL_law_747 ?_
  refine kc_i (va_runV (As := [.int (fs 1), .int (fs 2)]) (rest := []) ⟨hx, hb, hml, hown, hts⟩ (c_X7_inside l G B (m730) md ab av c1 c2 c3 c4 c5 c6 c7 c8 c9 0 0 f v (fs 1) (fs 2) (hg_md) (hg_ab) (hg_av) hNM) (cwV 2 hts gL_law_X7_inside rfl rfl rfl (by decide +kernel) ⟨Nat.le_of_ble_eq_true rfl, Nat.le_of_ble_eq_true rfl⟩) ⟨KW.blind, hP.recv hK rfl (hg_md), fun U9 hU9 hW9 => ⟨rfl, KW.pre hBs hKK hS hP U9 hU9 hW9⟩⟩ rfl rfl hl.1 rfl (lv_room (Nat.le_of_ble_eq_true rfl)) dL_law_748 ⟨(Nat.le_of_ble_eq_true rfl), (Nat.le_of_ble_eq_true rfl)⟩) hS (fun r748 m748 H locs hq9 hP hz9 hS => ?_)
  obtain ⟨fl9, g9, w9, he9, hm9⟩ := hq9
  rw [he9] at hP
  rcases hcase with ⟨hr9, hok, hv9⟩ | ⟨hr9, hno⟩
  · rcases hm9 with ⟨hf9, hok2, hb9⟩ | ⟨hf9, hno2⟩
    · subst hf9
      obtain rfl : r730 = nI 0 := hr9
      obtain rfl : r748 = nI 1 := hb9
      refine lv_istore (lv' := [(6, .int (nI 1)), (5, .int (nI 0)), (4, .int (nI 0)), (3, .ref ou), (2, .ref md), (1, .ref d), (0, .ref sc0)]) hx hb dL_law_751 hl (by decide) rfl (fun ls hl => ?_)
      refine lv_aload_n hx hb dL_law_753 rfl (lv_at hl 4 rfl) ?_
      refine kc_i (va_runV (As := []) (rest := []) ⟨hx, hb, hml, hown, hts⟩ (c_X7_thrown l G B (mu (mu (mu m730 md (.inr (7, [.int (nI 0), .ref ab, .ref av, .int (nI 0), .ref c1, .ref c2, .ref c3, .ref c4, .ref c5, .ref c6, .ref c7, .ref c8, .ref c9]))) ab (.inl (G.2 0, 3744, .inr (.inl g9)))) av (.inl (G.2 2, 26, .inl w9))) md ab av c1 c2 c3 c4 c5 c6 c7 c8 c9 0 0 g9 w9 ((mu_n ((mp_ne hg_md hg_av (by simp)))).trans ((mu_n ((mp_ne hg_md hg_ab (by simp)))).trans (mu_s _ _ _))) ((mu_n ((mp_ne hg_ab hg_av (by simp)))).trans (mu_s _ _ _)) (mu_s _ _ _)) (cwV 0 hts gL_law_X7_thrown rfl rfl rfl (by decide +kernel) ⟨Nat.le_of_ble_eq_true rfl, Nat.le_of_ble_eq_true rfl⟩) ⟨KW.blind, hP.recv hK rfl ((mu_n ((mp_ne hg_md hg_av (by simp)))).trans ((mu_n ((mp_ne hg_md hg_ab (by simp)))).trans (mu_s _ _ _))), fun U9 hU9 hW9 => ⟨rfl, KW.pre hBs hKK hS hP U9 hU9 hW9⟩⟩ rfl rfl hl.1 rfl (lv_room (Nat.le_of_ble_eq_true rfl)) dL_law_754 ⟨(Nat.le_of_ble_eq_true rfl), (Nat.le_of_ble_eq_true rfl)⟩) hS (fun r754 m754 H locs hq9 hP hz9 hS => ?_)
      obtain ⟨he8, hr8⟩ := hq9
      rw [he8] at hP
      obtain rfl : r754 = nI 0 := hr8
      refine lv_iload hx hb dL_law_757 (lv_at hl 1 rfl) ?_
      refine nv_icmp_eq (tgt := 764) hx hb (by omega) (by omega) dL_law_759 (by decide) (fun hc759 => ?_) (fun hc759 => ?_)
      · refine lv_iload hx hb dL_law_764 (lv_at hl 1 rfl) ?_
        refine lv_if_ne (tgt := 788) hx hb dL_law_766 (by decide) (fun hc766 => ?_) (fun hc766 => ?_)
        · exact absurd rfl hc766
        · refine lv_aload_n hx hb dL_law_769 rfl (lv_at hl 3 rfl) ?_
          refine lv_iconst (v := nI 0) hx hb dL_law_770 (by decide) ?_
          refine mw_lald hx hb hK hP 0 ((mu_n ((mp_ne hou9 hg_av (by simp)))).trans ((mu_n ((mp_ne hou9 hg_ab (by simp)))).trans ((mu_n ((mp_ne hou9 hg_md (by simp)))).trans (hou9)))) rfl (by omega) (by omega) dL_law_771 ?_
          refine lv_iload hx hb dL_law_772 (lv_at hl 0 rfl) ?_
          refine lv_if_eq (tgt := 781) hx hb dL_law_774 (by decide) (fun hc774 => ?_) (fun hc774 => ?_)
          · exact absurd hc774 (by decide)
          · refine lv_lconst (v := 1) hx hb dL_law_777 (by decide) ?_
            refine lv_goto (tgt := 782) hx hb dL_law_778 (by decide) ?_
            refine nl_if_eq (tgt := 788) hx hb dL_law_782 dL_law_783 (by decide) (fun hc782 => ?_) (fun hc782 => ?_)
            · refine lv_goto (tgt := 1218) hx hb dL_law_788 (by decide) ?_
              refine W.widen (k := 138) (n := 15799) (by omega) (by omega) ?_
              exact L1218 (mu (mu (mu m730 md (.inr (7, [.int (nI 0), .ref ab, .ref av, .int (nI 0), .ref c1, .ref c2, .ref c3, .ref c4, .ref c5, .ref c6, .ref c7, .ref c8, .ref c9]))) ab (.inl (G.2 0, 3744, .inr (.inl g9)))) av (.inl (G.2 2, 26, .inl w9)))  _ _ hP hS ls (lv_sub hl [2, 3, 4, 5, 6] rfl)
            · exact absurd (hv9.trans (by first | rfl | decide | (subst_vars; decide))) hc782
      · exfalso; omega
    · exact absurd hok hno2
  · rcases hm9 with ⟨hf9, hok2, hb9⟩ | ⟨hf9, hno2⟩
    · exact absurd hok2 hno
    · subst hf9
      obtain rfl : r730 = nI 1 := hr9
      refine lv_istore (lv' := [(6, .int r748), (5, .int (nI 1)), (4, .int (nI 0)), (3, .ref ou), (2, .ref md), (1, .ref d), (0, .ref sc0)]) hx hb dL_law_751 hl (by decide) rfl (fun ls hl => ?_)
      refine lv_aload_n hx hb dL_law_753 rfl (lv_at hl 4 rfl) ?_
      refine kc_i (va_runV (As := []) (rest := []) ⟨hx, hb, hml, hown, hts⟩ (c_X7_thrown l G B (mu (mu (mu m730 md (.inr (7, [.int (nI 1), .ref ab, .ref av, .int (nI 0), .ref c1, .ref c2, .ref c3, .ref c4, .ref c5, .ref c6, .ref c7, .ref c8, .ref c9]))) ab (.inl (G.2 0, 3744, .inr (.inl g9)))) av (.inl (G.2 2, 26, .inl w9))) md ab av c1 c2 c3 c4 c5 c6 c7 c8 c9 1 0 g9 w9 ((mu_n ((mp_ne hg_md hg_av (by simp)))).trans ((mu_n ((mp_ne hg_md hg_ab (by simp)))).trans (mu_s _ _ _))) ((mu_n ((mp_ne hg_ab hg_av (by simp)))).trans (mu_s _ _ _)) (mu_s _ _ _)) (cwV 0 hts gL_law_X7_thrown rfl rfl rfl (by decide +kernel) ⟨Nat.le_of_ble_eq_true rfl, Nat.le_of_ble_eq_true rfl⟩) ⟨KW.blind, hP.recv hK rfl ((mu_n ((mp_ne hg_md hg_av (by simp)))).trans ((mu_n ((mp_ne hg_md hg_ab (by simp)))).trans (mu_s _ _ _))), fun U9 hU9 hW9 => ⟨rfl, KW.pre hBs hKK hS hP U9 hU9 hW9⟩⟩ rfl rfl hl.1 rfl (lv_room (Nat.le_of_ble_eq_true rfl)) dL_law_754 ⟨(Nat.le_of_ble_eq_true rfl), (Nat.le_of_ble_eq_true rfl)⟩) hS (fun r754 m754 H locs hq9 hP hz9 hS => ?_)
      obtain ⟨he8, hr8⟩ := hq9
      rw [he8] at hP
      obtain rfl : r754 = nI 1 := hr8
      refine lv_iload hx hb dL_law_757 (lv_at hl 1 rfl) ?_
      refine nv_icmp_eq (tgt := 764) hx hb (by omega) (by omega) dL_law_759 (by decide) (fun hc759 => ?_) (fun hc759 => ?_)
      · refine lv_iload hx hb dL_law_764 (lv_at hl 1 rfl) ?_
        refine lv_if_ne (tgt := 788) hx hb dL_law_766 (by decide) (fun hc766 => ?_) (fun hc766 => ?_)
        · refine lv_goto (tgt := 1218) hx hb dL_law_788 (by decide) ?_
          refine W.widen (k := 138) (n := 15799) (by omega) (by omega) ?_
          exact L1218 (mu (mu (mu m730 md (.inr (7, [.int (nI 1), .ref ab, .ref av, .int (nI 0), .ref c1, .ref c2, .ref c3, .ref c4, .ref c5, .ref c6, .ref c7, .ref c8, .ref c9]))) ab (.inl (G.2 0, 3744, .inr (.inl g9)))) av (.inl (G.2 2, 26, .inl w9)))  _ _ hP hS ls (lv_sub hl [2, 3, 4, 5, 6] rfl)
        · exact absurd hc766 (by decide)
      · exfalso; omega

set_option maxHeartbeats 4000000 in
set_option maxRecDepth 100000 in
theorem lw_k10 (l : Launch) (hlt : l.stackTraces = false) (G : GG) (B : Nat) (sc0 : Nat) (fs : Nat → Int32) {p : Program} {e : Env} {s : State} {m : MethodId} {args : Array Value} {below : List Frame} {meth : Method} {c : Code} {Q : State → Prop} (μ : mp) (d aS aL aR aT aO bn nn s9 lo : Nat) (nf : List Value) (sa la bE : Nat → Nat) (F : Nat → Nat → Int64) (g : Nat → Int64) (w9 : Nat → Int32) (fS fL fR fT : Nat → Option Nat) (sp : Nat → Nat) (fO : Nat → Int64) (ou : Nat) (fo : Nat → Int64) (md ab av c1 c2 c3 c4 c5 c6 c7 c8 c9 : Nat) (f : Nat → Int64) (v : Nat → Int32) (i1 i2 i3 i4 i5 i6 : Nat → Int32) (hx : p.tables.exec = Jvm.exec) (hb : c.code = cL_law) (hml : c.maxLocals = 8) (hown : s.vm.findClass RL = some m.cls) (hts : ∀ w ∈ wsL_law, w.before args s = true) (hBs : B ≤ s.heap.size) (hKK : KK G B s) (hDc : DcI s) (hscB : sc0 < B) (hbl : sc0 < s.heap.size) (hX : va_X sc0 6 fs s s.heap) (L1218 : ∀ (μ9 : mp) (H : Heap) (locs : List Loc), mw G.1 vwCl B μ9 H → va_S (fun q => B ≤ q) s.heap H locs → ∀ ls : Array Slot, lv_has ls 8 [(4, .int (nI 0)), (3, .ref ou), (2, .ref md), (1, .ref d), (0, .ref sc0)] → W p l e room_1 s m args below meth c H locs 138 15799 Q (F0 m 1218 ls [])) (hD : DK G μ d aS aL aR aT aO bn nn s9 lo 0 nf sa la bE F g w9 fS fL fR fT sp fO) (hFS : FS F bE g) (hou : μ ou = some (.inl (G.2 0, 1, .inr (.inl fo)))) (hap : Apt d aO s9 lo sa la sp ou) (hmd : μ md = some (.inr (7, [.int (nI 0), .ref ab, .ref av, .int (nI 0), .ref c1, .ref c2, .ref c3, .ref c4, .ref c5, .ref c6, .ref c7, .ref c8, .ref c9]))) (hab : μ ab = some (.inl (G.2 0, 3744, .inr (.inl f)))) (hav : μ av = some (.inl (G.2 2, 26, .inl v))) (hNM : NM f v) (hc1 : μ c1 = some (.inl (G.2 1, 20, .inl i1))) (hc2 : μ c2 = some (.inl (G.2 1, 20, .inl i2))) (hc3 : μ c3 = some (.inl (G.2 1, 20, .inl i3))) (hc4 : μ c4 = some (.inl (G.2 1, 20, .inl i4))) (hc5 : μ c5 = some (.inl (G.2 1, 20, .inl i5))) (hc6 : μ c6 = some (.inl (G.2 1, 20, .inl i6))) (n12 : c1 ≠ c2) (n13 : c1 ≠ c3) (n14 : c1 ≠ c4) (n15 : c1 ≠ c5) (n16 : c1 ≠ c6) (n23 : c2 ≠ c3) (n24 : c2 ≠ c4) (n25 : c2 ≠ c5) (n26 : c2 ≠ c6) (n34 : c3 ≠ c4) (n35 : c3 ≠ c5) (n36 : c3 ≠ c6) (n45 : c4 ≠ c5) (n46 : c4 ≠ c6) (n56 : c5 ≠ c6) (ap_md : Apt d aO s9 lo sa la sp md) (ap_ab : Apt d aO s9 lo sa la sp ab) (ap_av : Apt d aO s9 lo sa la sp av) (ap_c1 : Apt d aO s9 lo sa la sp c1) (ap_c2 : Apt d aO s9 lo sa la sp c2) (ap_c3 : Apt d aO s9 lo sa la sp c3) (ap_c4 : Apt d aO s9 lo sa la sp c4) (ap_c5 : Apt d aO s9 lo sa la sp c5) (ap_c6 : Apt d aO s9 lo sa la sp c6) (H : Heap) (locs : List Loc) (hP : mw G.1 vwCl B μ H) (hS : va_S (fun q => B ≤ q) s.heap H locs) (ls : Array Slot) (hl : lv_has ls 8 [(4, .int (nI 0)), (3, .ref ou), (2, .ref md), (1, .ref d), (0, .ref sc0)]) : W p l e room_1 s m args below meth c H locs 103 8067 Q (F0 m 791 ls []) := by
  have hK := hKK.k
  refine lv_aload_n hx hb dL_law_791 rfl (lv_at hl 3 rfl) ?_
  refine lv_aload_n hx hb dL_law_792 rfl (lv_at hl 4 rfl) ?_
  refine lv_iload hx hb dL_law_793 (lv_at hl 0 rfl) ?_
  refine lv_iconst (v := nI 1) hx hb dL_law_795 (by decide) ?_
  refine nv_iadd hx hb dL_law_796 ?_
  refine sc_iald (i := 1) hx hb hX hbl hscB hS (by omega) (by omega) dL_law_797 ?_
  refine lv_aload_n hx hb dL_law_798 rfl (lv_at hl 1 rfl) ?_
  refine kx_i (vx_runSX (As := [.ref d, .int (fs 1), .ref ou]) (rest := []) ⟨hx, hb, hml, hown, hts⟩ (c_L_bounds l hlt G B (μ) d aS aL aR aT aO bn nn s9 lo nf sa la bE F g w9 fS fL fR fT sp fO (fs 1) ou fo hD hFS hou hap) (vx_cwSW 3 hts gL_law_L_bounds rfl rfl rfl (by decide +kernel) ⟨Nat.le_of_ble_eq_true rfl, Nat.le_of_ble_eq_true rfl⟩) ⟨KX.blind, fun U9 hU9 hW9 => ⟨rfl, KW.pre hBs hKK hS hP U9 hU9 hW9, hDc.at hW9⟩⟩ rfl rfl hl.1 rfl (lv_room (Nat.le_of_ble_eq_true rfl)) dL_law_799 ⟨(Nat.le_of_ble_eq_true rfl), (Nat.le_of_ble_eq_true rfl)⟩) hS (fun E ce q9 H locs hce hP hS h91 h92 h93 => ?_) (fun r799 m799 H locs hq9 hP hz9 hS => ?_)
  · exact False.elim hce
  obtain ⟨hfr, fo9, hou9, hcase⟩ := hq9
  have hg_md := hfr md _ (hmd) (mp_ne hmd hou (by simp)) ap_md
  have hg_ab := hfr ab _ (hab) (mp_ne hab hou (by simp)) ap_ab
  have hg_av := hfr av _ (hav) (mp_ne hav hou (by simp)) ap_av
  have hg_c1 := hfr c1 _ (hc1) (mp_ne hc1 hou (by simp)) ap_c1
  have hg_c2 := hfr c2 _ (hc2) (mp_ne hc2 hou (by simp)) ap_c2
  have hg_c3 := hfr c3 _ (hc3) (mp_ne hc3 hou (by simp)) ap_c3
  have hg_c4 := hfr c4 _ (hc4) (mp_ne hc4 hou (by simp)) ap_c4
  have hg_c5 := hfr c5 _ (hc5) (mp_ne hc5 hou (by simp)) ap_c5
  have hg_c6 := hfr c6 _ (hc6) (mp_ne hc6 hou (by simp)) ap_c6
  refine lv_istore (lv' := [(5, .int r799), (4, .int (nI 0)), (3, .ref ou), (2, .ref md), (1, .ref d), (0, .ref sc0)]) hx hb dL_law_802 hl (by decide) rfl (fun ls hl => ?_)
  refine lv_aload_n hx hb dL_law_804 rfl (lv_at hl 3 rfl) ?_
  refine lv_aload_n hx hb dL_law_805 rfl (lv_at hl 5 rfl) ?_
  refine lv_iload hx hb dL_law_806 (lv_at hl 1 rfl) ?_
  refine lv_iconst (v := nI 1) hx hb dL_law_808 (by decide) ?_
  refine nv_iadd hx hb dL_law_809 ?_
  refine sc_iald (i := 1) hx hb hX hbl hscB hS (by omega) (by omega) dL_law_810 ?_
  refine kc_i (va_runV (As := [.int (fs 1)]) (rest := []) ⟨hx, hb, hml, hown, hts⟩ (c_X7_bounds l G B (m799) md ab av c1 c2 c3 c4 c5 c6 c7 c8 c9 0 0 f v (fs 1) (hg_md) (hg_ab) (hg_av) hNM) (cwV 1 hts gL_law_X7_bounds rfl rfl rfl (by decide +kernel) ⟨Nat.le_of_ble_eq_true rfl, Nat.le_of_ble_eq_true rfl⟩) ⟨KW.blind, hP.recv hK rfl (hg_md), fun U9 hU9 hW9 => ⟨rfl, KW.pre hBs hKK hS hP U9 hU9 hW9⟩⟩ rfl rfl hl.1 rfl (lv_room (Nat.le_of_ble_eq_true rfl)) dL_law_811 ⟨(Nat.le_of_ble_eq_true rfl), (Nat.le_of_ble_eq_true rfl)⟩) hS (fun r811 m811 H locs hq9 hP hz9 hS => ?_)
  obtain ⟨fl9, g9, w9, he9, hm9⟩ := hq9
  rw [he9] at hP
  rcases hcase with ⟨hr9, hok, hv9⟩ | ⟨hr9, hno⟩
  · rcases hm9 with ⟨hf9, hok2, hb9⟩ | ⟨hf9, hno2⟩
    · subst hf9
      obtain rfl : r799 = nI 0 := hr9
      obtain rfl : r811 = nI 0 := hb9
      refine lv_istore (lv' := [(6, .int (nI 0)), (5, .int (nI 0)), (4, .int (nI 0)), (3, .ref ou), (2, .ref md), (1, .ref d), (0, .ref sc0)]) hx hb dL_law_814 hl (by decide) rfl (fun ls hl => ?_)
      refine lv_aload_n hx hb dL_law_816 rfl (lv_at hl 4 rfl) ?_
      refine kc_i (va_runV (As := []) (rest := []) ⟨hx, hb, hml, hown, hts⟩ (c_X7_thrown l G B (mu (mu (mu m799 md (.inr (7, [.int (nI 0), .ref ab, .ref av, .int (nI 0), .ref c1, .ref c2, .ref c3, .ref c4, .ref c5, .ref c6, .ref c7, .ref c8, .ref c9]))) ab (.inl (G.2 0, 3744, .inr (.inl g9)))) av (.inl (G.2 2, 26, .inl w9))) md ab av c1 c2 c3 c4 c5 c6 c7 c8 c9 0 0 g9 w9 ((mu_n ((mp_ne hg_md hg_av (by simp)))).trans ((mu_n ((mp_ne hg_md hg_ab (by simp)))).trans (mu_s _ _ _))) ((mu_n ((mp_ne hg_ab hg_av (by simp)))).trans (mu_s _ _ _)) (mu_s _ _ _)) (cwV 0 hts gL_law_X7_thrown rfl rfl rfl (by decide +kernel) ⟨Nat.le_of_ble_eq_true rfl, Nat.le_of_ble_eq_true rfl⟩) ⟨KW.blind, hP.recv hK rfl ((mu_n ((mp_ne hg_md hg_av (by simp)))).trans ((mu_n ((mp_ne hg_md hg_ab (by simp)))).trans (mu_s _ _ _))), fun U9 hU9 hW9 => ⟨rfl, KW.pre hBs hKK hS hP U9 hU9 hW9⟩⟩ rfl rfl hl.1 rfl (lv_room (Nat.le_of_ble_eq_true rfl)) dL_law_817 ⟨(Nat.le_of_ble_eq_true rfl), (Nat.le_of_ble_eq_true rfl)⟩) hS (fun r817 m817 H locs hq9 hP hz9 hS => ?_)
      obtain ⟨he8, hr8⟩ := hq9
      rw [he8] at hP
      obtain rfl : r817 = nI 0 := hr8
      refine lv_iload hx hb dL_law_820 (lv_at hl 1 rfl) ?_
      refine nv_icmp_eq (tgt := 827) hx hb (by omega) (by omega) dL_law_822 (by decide) (fun hc822 => ?_) (fun hc822 => ?_)
      · refine lv_iload hx hb dL_law_827 (lv_at hl 1 rfl) ?_
        refine lv_if_ne (tgt := 844) hx hb dL_law_829 (by decide) (fun hc829 => ?_) (fun hc829 => ?_)
        · exact absurd rfl hc829
        · refine lv_aload_n hx hb dL_law_832 rfl (lv_at hl 3 rfl) ?_
          refine lv_iconst (v := nI 0) hx hb dL_law_833 (by decide) ?_
          refine mw_lald hx hb hK hP 0 ((mu_n ((mp_ne hou9 hg_av (by simp)))).trans ((mu_n ((mp_ne hou9 hg_ab (by simp)))).trans ((mu_n ((mp_ne hou9 hg_md (by simp)))).trans (hou9)))) rfl (by omega) (by omega) dL_law_834 ?_
          refine lv_iload hx hb dL_law_835 (lv_at hl 0 rfl) ?_
          refine lv_i2l (v := (nI 0).toInt64) hx hb dL_law_837 rfl ?_
          refine nl_if_eq (tgt := 844) hx hb dL_law_838 dL_law_839 (by decide) (fun hc838 => ?_) (fun hc838 => ?_)
          · refine lv_goto (tgt := 1218) hx hb dL_law_844 (by decide) ?_
            refine W.widen (k := 138) (n := 15799) (by omega) (by omega) ?_
            exact L1218 (mu (mu (mu m799 md (.inr (7, [.int (nI 0), .ref ab, .ref av, .int (nI 0), .ref c1, .ref c2, .ref c3, .ref c4, .ref c5, .ref c6, .ref c7, .ref c8, .ref c9]))) ab (.inl (G.2 0, 3744, .inr (.inl g9)))) av (.inl (G.2 2, 26, .inl w9)))  _ _ hP hS ls (lv_sub hl [2, 3, 4, 5, 6] rfl)
          · exact absurd (hv9.trans (by first | rfl | decide | (subst_vars; decide))) hc838
      · exfalso; omega
    · exact absurd hok hno2
  · rcases hm9 with ⟨hf9, hok2, hb9⟩ | ⟨hf9, hno2⟩
    · exact absurd hok2 hno
    · subst hf9
      obtain rfl : r799 = nI 1 := hr9
      refine lv_istore (lv' := [(6, .int r811), (5, .int (nI 1)), (4, .int (nI 0)), (3, .ref ou), (2, .ref md), (1, .ref d), (0, .ref sc0)]) hx hb dL_law_814 hl (by decide) rfl (fun ls hl => ?_)
      refine lv_aload_n hx hb dL_law_816 rfl (lv_at hl 4 rfl) ?_
      refine kc_i (va_runV (As := []) (rest := []) ⟨hx, hb, hml, hown, hts⟩ (c_X7_thrown l G B (mu (mu (mu m799 md (.inr (7, [.int (nI 1), .ref ab, .ref av, .int (nI 0), .ref c1, .ref c2, .ref c3, .ref c4, .ref c5, .ref c6, .ref c7, .ref c8, .ref c9]))) ab (.inl (G.2 0, 3744, .inr (.inl g9)))) av (.inl (G.2 2, 26, .inl w9))) md ab av c1 c2 c3 c4 c5 c6 c7 c8 c9 1 0 g9 w9 ((mu_n ((mp_ne hg_md hg_av (by simp)))).trans ((mu_n ((mp_ne hg_md hg_ab (by simp)))).trans (mu_s _ _ _))) ((mu_n ((mp_ne hg_ab hg_av (by simp)))).trans (mu_s _ _ _)) (mu_s _ _ _)) (cwV 0 hts gL_law_X7_thrown rfl rfl rfl (by decide +kernel) ⟨Nat.le_of_ble_eq_true rfl, Nat.le_of_ble_eq_true rfl⟩) ⟨KW.blind, hP.recv hK rfl ((mu_n ((mp_ne hg_md hg_av (by simp)))).trans ((mu_n ((mp_ne hg_md hg_ab (by simp)))).trans (mu_s _ _ _))), fun U9 hU9 hW9 => ⟨rfl, KW.pre hBs hKK hS hP U9 hU9 hW9⟩⟩ rfl rfl hl.1 rfl (lv_room (Nat.le_of_ble_eq_true rfl)) dL_law_817 ⟨(Nat.le_of_ble_eq_true rfl), (Nat.le_of_ble_eq_true rfl)⟩) hS (fun r817 m817 H locs hq9 hP hz9 hS => ?_)
      obtain ⟨he8, hr8⟩ := hq9
      rw [he8] at hP
      obtain rfl : r817 = nI 1 := hr8
      refine lv_iload hx hb dL_law_820 (lv_at hl 1 rfl) ?_
      refine nv_icmp_eq (tgt := 827) hx hb (by omega) (by omega) dL_law_822 (by decide) (fun hc822 => ?_) (fun hc822 => ?_)
      · refine lv_iload hx hb dL_law_827 (lv_at hl 1 rfl) ?_
        refine lv_if_ne (tgt := 844) hx hb dL_law_829 (by decide) (fun hc829 => ?_) (fun hc829 => ?_)
        · refine lv_goto (tgt := 1218) hx hb dL_law_844 (by decide) ?_
          refine W.widen (k := 138) (n := 15799) (by omega) (by omega) ?_
          exact L1218 (mu (mu (mu m799 md (.inr (7, [.int (nI 1), .ref ab, .ref av, .int (nI 0), .ref c1, .ref c2, .ref c3, .ref c4, .ref c5, .ref c6, .ref c7, .ref c8, .ref c9]))) ab (.inl (G.2 0, 3744, .inr (.inl g9)))) av (.inl (G.2 2, 26, .inl w9)))  _ _ hP hS ls (lv_sub hl [2, 3, 4, 5, 6] rfl)
        · exact absurd hc829 (by decide)
      · exfalso; omega

set_option maxHeartbeats 4000000 in
set_option maxRecDepth 100000 in
theorem lw_k11 (l : Launch) (hlt : l.stackTraces = false) (G : GG) (B : Nat) (sc0 : Nat) (fs : Nat → Int32) {p : Program} {e : Env} {s : State} {m : MethodId} {args : Array Value} {below : List Frame} {meth : Method} {c : Code} {Q : State → Prop} (μ : mp) (d aS aL aR aT aO bn nn s9 lo : Nat) (nf : List Value) (sa la bE : Nat → Nat) (F : Nat → Nat → Int64) (g : Nat → Int64) (w9 : Nat → Int32) (fS fL fR fT : Nat → Option Nat) (sp : Nat → Nat) (fO : Nat → Int64) (ou : Nat) (fo : Nat → Int64) (md ab av c1 c2 c3 c4 c5 c6 c7 c8 c9 : Nat) (f : Nat → Int64) (v : Nat → Int32) (i1 i2 i3 i4 i5 i6 : Nat → Int32) (hx : p.tables.exec = Jvm.exec) (hb : c.code = cL_law) (hml : c.maxLocals = 8) (hown : s.vm.findClass RL = some m.cls) (hts : ∀ w ∈ wsL_law, w.before args s = true) (hBs : B ≤ s.heap.size) (hKK : KK G B s) (hDc : DcI s) (hscB : sc0 < B) (hbl : sc0 < s.heap.size) (hX : va_X sc0 6 fs s s.heap) (L1218 : ∀ (μ9 : mp) (H : Heap) (locs : List Loc), mw G.1 vwCl B μ9 H → va_S (fun q => B ≤ q) s.heap H locs → ∀ ls : Array Slot, lv_has ls 8 [(4, .int (nI 0)), (3, .ref ou), (2, .ref md), (1, .ref d), (0, .ref sc0)] → W p l e room_1 s m args below meth c H locs 138 15799 Q (F0 m 1218 ls [])) (hD : DK G μ d aS aL aR aT aO bn nn s9 lo 0 nf sa la bE F g w9 fS fL fR fT sp fO) (hFS : FS F bE g) (hou : μ ou = some (.inl (G.2 0, 1, .inr (.inl fo)))) (hap : Apt d aO s9 lo sa la sp ou) (hmd : μ md = some (.inr (7, [.int (nI 0), .ref ab, .ref av, .int (nI 0), .ref c1, .ref c2, .ref c3, .ref c4, .ref c5, .ref c6, .ref c7, .ref c8, .ref c9]))) (hab : μ ab = some (.inl (G.2 0, 3744, .inr (.inl f)))) (hav : μ av = some (.inl (G.2 2, 26, .inl v))) (hNM : NM f v) (hc1 : μ c1 = some (.inl (G.2 1, 20, .inl i1))) (hc2 : μ c2 = some (.inl (G.2 1, 20, .inl i2))) (hc3 : μ c3 = some (.inl (G.2 1, 20, .inl i3))) (hc4 : μ c4 = some (.inl (G.2 1, 20, .inl i4))) (hc5 : μ c5 = some (.inl (G.2 1, 20, .inl i5))) (hc6 : μ c6 = some (.inl (G.2 1, 20, .inl i6))) (n12 : c1 ≠ c2) (n13 : c1 ≠ c3) (n14 : c1 ≠ c4) (n15 : c1 ≠ c5) (n16 : c1 ≠ c6) (n23 : c2 ≠ c3) (n24 : c2 ≠ c4) (n25 : c2 ≠ c5) (n26 : c2 ≠ c6) (n34 : c3 ≠ c4) (n35 : c3 ≠ c5) (n36 : c3 ≠ c6) (n45 : c4 ≠ c5) (n46 : c4 ≠ c6) (n56 : c5 ≠ c6) (ap_md : Apt d aO s9 lo sa la sp md) (ap_ab : Apt d aO s9 lo sa la sp ab) (ap_av : Apt d aO s9 lo sa la sp av) (ap_c1 : Apt d aO s9 lo sa la sp c1) (ap_c2 : Apt d aO s9 lo sa la sp c2) (ap_c3 : Apt d aO s9 lo sa la sp c3) (ap_c4 : Apt d aO s9 lo sa la sp c4) (ap_c5 : Apt d aO s9 lo sa la sp c5) (ap_c6 : Apt d aO s9 lo sa la sp c6) (H : Heap) (locs : List Loc) (hP : mw G.1 vwCl B μ H) (hS : va_S (fun q => B ≤ q) s.heap H locs) (ls : Array Slot) (hl : lv_has ls 8 [(4, .int (nI 0)), (3, .ref ou), (2, .ref md), (1, .ref d), (0, .ref sc0)]) : W p l e room_1 s m args below meth c H locs 103 8067 Q (F0 m 847 ls []) := by
  have hK := hKK.k
  refine lv_aload_n hx hb dL_law_847 rfl (lv_at hl 3 rfl) ?_
  refine lv_aload_n hx hb dL_law_848 rfl (lv_at hl 4 rfl) ?_
  refine lv_iload hx hb dL_law_849 (lv_at hl 0 rfl) ?_
  refine lv_iconst (v := nI 1) hx hb dL_law_851 (by decide) ?_
  refine nv_iadd hx hb dL_law_852 ?_
  refine sc_iald (i := 1) hx hb hX hbl hscB hS (by omega) (by omega) dL_law_853 ?_
  refine lv_aload_n hx hb dL_law_854 rfl (lv_at hl 4 rfl) ?_
  refine lv_iload hx hb dL_law_855 (lv_at hl 0 rfl) ?_
  refine lv_iconst (v := nI 2) hx hb dL_law_857 (by decide) ?_
  refine nv_iadd hx hb dL_law_858 ?_
  refine sc_iald (i := 2) hx hb hX hbl hscB hS (by omega) (by omega) dL_law_859 ?_
  refine lv_aload_n hx hb dL_law_860 rfl (lv_at hl 1 rfl) ?_
  refine kx_i (vx_runSX (As := [.ref d, .int (fs 1), .int (fs 2), .ref ou]) (rest := []) ⟨hx, hb, hml, hown, hts⟩ (c_L_first l hlt G B (μ) d aS aL aR aT aO bn nn s9 lo nf sa la bE F g w9 fS fL fR fT sp fO (fs 1) (fs 2) ou fo hD hFS hou hap) (vx_cwSW 4 hts gL_law_L_first rfl rfl rfl (by decide +kernel) ⟨Nat.le_of_ble_eq_true rfl, Nat.le_of_ble_eq_true rfl⟩) ⟨KX.blind, fun U9 hU9 hW9 => ⟨rfl, KW.pre hBs hKK hS hP U9 hU9 hW9, hDc.at hW9⟩⟩ rfl rfl hl.1 rfl (lv_room (Nat.le_of_ble_eq_true rfl)) dL_law_861 ⟨(Nat.le_of_ble_eq_true rfl), (Nat.le_of_ble_eq_true rfl)⟩) hS (fun E ce q9 H locs hce hP hS h91 h92 h93 => ?_) (fun r861 m861 H locs hq9 hP hz9 hS => ?_)
  · exact False.elim hce
  obtain ⟨hfr, fo9, hou9, hcase⟩ := hq9
  have hg_md := hfr md _ (hmd) (mp_ne hmd hou (by simp)) ap_md
  have hg_ab := hfr ab _ (hab) (mp_ne hab hou (by simp)) ap_ab
  have hg_av := hfr av _ (hav) (mp_ne hav hou (by simp)) ap_av
  have hg_c1 := hfr c1 _ (hc1) (mp_ne hc1 hou (by simp)) ap_c1
  have hg_c2 := hfr c2 _ (hc2) (mp_ne hc2 hou (by simp)) ap_c2
  have hg_c3 := hfr c3 _ (hc3) (mp_ne hc3 hou (by simp)) ap_c3
  have hg_c4 := hfr c4 _ (hc4) (mp_ne hc4 hou (by simp)) ap_c4
  have hg_c5 := hfr c5 _ (hc5) (mp_ne hc5 hou (by simp)) ap_c5
  have hg_c6 := hfr c6 _ (hc6) (mp_ne hc6 hou (by simp)) ap_c6
  refine lv_istore (lv' := [(5, .int r861), (4, .int (nI 0)), (3, .ref ou), (2, .ref md), (1, .ref d), (0, .ref sc0)]) hx hb dL_law_864 hl (by decide) rfl (fun ls hl => ?_)
  refine lv_aload_n hx hb dL_law_866 rfl (lv_at hl 3 rfl) ?_
  refine lv_aload_n hx hb dL_law_867 rfl (lv_at hl 5 rfl) ?_
  refine lv_iload hx hb dL_law_868 (lv_at hl 1 rfl) ?_
  refine lv_iconst (v := nI 1) hx hb dL_law_870 (by decide) ?_
  refine nv_iadd hx hb dL_law_871 ?_
  refine sc_iald (i := 1) hx hb hX hbl hscB hS (by omega) (by omega) dL_law_872 ?_
  refine lv_aload_n hx hb dL_law_873 rfl (lv_at hl 5 rfl) ?_
  refine lv_iload hx hb dL_law_874 (lv_at hl 1 rfl) ?_
  refine lv_iconst (v := nI 2) hx hb dL_law_876 (by decide) ?_
  refine nv_iadd hx hb dL_law_877 ?_
  refine sc_iald (i := 2) hx hb hX hbl hscB hS (by omega) (by omega) dL_law_878 ?_
  refine kc_l (va_runV (As := [.int (fs 1), .int (fs 2)]) (rest := []) ⟨hx, hb, hml, hown, hts⟩ (c_X7_first l G B (m861) md ab av c1 c2 c3 c4 c5 c6 c7 c8 c9 0 0 f v (fs 1) (fs 2) (hg_md) (hg_ab) (hg_av) hNM) (cwV 2 hts gL_law_X7_first rfl rfl rfl (by decide +kernel) ⟨Nat.le_of_ble_eq_true rfl, Nat.le_of_ble_eq_true rfl⟩) ⟨KW.blind, hP.recv hK rfl (hg_md), fun U9 hU9 hW9 => ⟨rfl, KW.pre hBs hKK hS hP U9 hU9 hW9⟩⟩ rfl rfl hl.1 rfl (lv_room (Nat.le_of_ble_eq_true rfl)) dL_law_879 ⟨(Nat.le_of_ble_eq_true rfl), (Nat.le_of_ble_eq_true rfl)⟩) hS (fun r879 m879 H locs hq9 hP hz9 hS => ?_)
  obtain ⟨fl9, g9, w9, he9, hm9⟩ := hq9
  rw [he9] at hP
  rcases hcase with ⟨hr9, hok, hv9⟩ | ⟨hr9, hno⟩
  · rcases hm9 with ⟨hf9, hok2, hb9⟩ | ⟨hf9, hno2⟩
    · subst hf9
      obtain rfl : r861 = nI 0 := hr9
      subst hb9
      refine lv_lstore (lv' := [(6, .long 0), (5, .int (nI 0)), (4, .int (nI 0)), (3, .ref ou), (2, .ref md), (1, .ref d), (0, .ref sc0)]) hx hb dL_law_882 hl (by decide) rfl (fun ls hl => ?_)
      refine lv_aload_n hx hb dL_law_884 rfl (lv_at hl 4 rfl) ?_
      refine kc_i (va_runV (As := []) (rest := []) ⟨hx, hb, hml, hown, hts⟩ (c_X7_thrown l G B (mu (mu (mu m861 md (.inr (7, [.int (nI 0), .ref ab, .ref av, .int (nI 0), .ref c1, .ref c2, .ref c3, .ref c4, .ref c5, .ref c6, .ref c7, .ref c8, .ref c9]))) ab (.inl (G.2 0, 3744, .inr (.inl g9)))) av (.inl (G.2 2, 26, .inl w9))) md ab av c1 c2 c3 c4 c5 c6 c7 c8 c9 0 0 g9 w9 ((mu_n ((mp_ne hg_md hg_av (by simp)))).trans ((mu_n ((mp_ne hg_md hg_ab (by simp)))).trans (mu_s _ _ _))) ((mu_n ((mp_ne hg_ab hg_av (by simp)))).trans (mu_s _ _ _)) (mu_s _ _ _)) (cwV 0 hts gL_law_X7_thrown rfl rfl rfl (by decide +kernel) ⟨Nat.le_of_ble_eq_true rfl, Nat.le_of_ble_eq_true rfl⟩) ⟨KW.blind, hP.recv hK rfl ((mu_n ((mp_ne hg_md hg_av (by simp)))).trans ((mu_n ((mp_ne hg_md hg_ab (by simp)))).trans (mu_s _ _ _))), fun U9 hU9 hW9 => ⟨rfl, KW.pre hBs hKK hS hP U9 hU9 hW9⟩⟩ rfl rfl hl.1 rfl (lv_room (Nat.le_of_ble_eq_true rfl)) dL_law_885 ⟨(Nat.le_of_ble_eq_true rfl), (Nat.le_of_ble_eq_true rfl)⟩) hS (fun r885 m885 H locs hq9 hP hz9 hS => ?_)
      obtain ⟨he8, hr8⟩ := hq9
      rw [he8] at hP
      obtain rfl : r885 = nI 0 := hr8
      refine lv_iload hx hb dL_law_888 (lv_at hl 1 rfl) ?_
      refine nv_icmp_eq (tgt := 895) hx hb (by omega) (by omega) dL_law_890 (by decide) (fun hc890 => ?_) (fun hc890 => ?_)
      · refine lv_iload hx hb dL_law_895 (lv_at hl 1 rfl) ?_
        refine lv_if_ne (tgt := 911) hx hb dL_law_897 (by decide) (fun hc897 => ?_) (fun hc897 => ?_)
        · exact absurd rfl hc897
        · refine lv_aload_n hx hb dL_law_900 rfl (lv_at hl 3 rfl) ?_
          refine lv_iconst (v := nI 0) hx hb dL_law_901 (by decide) ?_
          refine mw_lald hx hb hK hP 0 ((mu_n ((mp_ne hou9 hg_av (by simp)))).trans ((mu_n ((mp_ne hou9 hg_ab (by simp)))).trans ((mu_n ((mp_ne hou9 hg_md (by simp)))).trans (hou9)))) rfl (by omega) (by omega) dL_law_902 ?_
          refine lv_lload hx hb dL_law_903 (lv_at hl 0 rfl) ?_
          refine nl_if_eq (tgt := 911) hx hb dL_law_905 dL_law_906 (by decide) (fun hc905 => ?_) (fun hc905 => ?_)
          · refine lv_goto (tgt := 1218) hx hb dL_law_911 (by decide) ?_
            refine W.widen (k := 138) (n := 15799) (by omega) (by omega) ?_
            exact L1218 (mu (mu (mu m861 md (.inr (7, [.int (nI 0), .ref ab, .ref av, .int (nI 0), .ref c1, .ref c2, .ref c3, .ref c4, .ref c5, .ref c6, .ref c7, .ref c8, .ref c9]))) ab (.inl (G.2 0, 3744, .inr (.inl g9)))) av (.inl (G.2 2, 26, .inl w9)))  _ _ hP hS ls (lv_sub hl [2, 3, 4, 5, 6] rfl)
          · exact absurd (hv9.trans (by first | rfl | decide | (subst_vars; decide))) hc905
      · exfalso; omega
    · exact absurd hok hno2
  · rcases hm9 with ⟨hf9, hok2, hb9⟩ | ⟨hf9, hno2⟩
    · exact absurd hok2 hno
    · subst hf9
      obtain rfl : r861 = nI 1 := hr9
      refine lv_lstore (lv' := [(6, .long r879), (5, .int (nI 1)), (4, .int (nI 0)), (3, .ref ou), (2, .ref md), (1, .ref d), (0, .ref sc0)]) hx hb dL_law_882 hl (by decide) rfl (fun ls hl => ?_)
      refine lv_aload_n hx hb dL_law_884 rfl (lv_at hl 4 rfl) ?_
      refine kc_i (va_runV (As := []) (rest := []) ⟨hx, hb, hml, hown, hts⟩ (c_X7_thrown l G B (mu (mu (mu m861 md (.inr (7, [.int (nI 1), .ref ab, .ref av, .int (nI 0), .ref c1, .ref c2, .ref c3, .ref c4, .ref c5, .ref c6, .ref c7, .ref c8, .ref c9]))) ab (.inl (G.2 0, 3744, .inr (.inl g9)))) av (.inl (G.2 2, 26, .inl w9))) md ab av c1 c2 c3 c4 c5 c6 c7 c8 c9 1 0 g9 w9 ((mu_n ((mp_ne hg_md hg_av (by simp)))).trans ((mu_n ((mp_ne hg_md hg_ab (by simp)))).trans (mu_s _ _ _))) ((mu_n ((mp_ne hg_ab hg_av (by simp)))).trans (mu_s _ _ _)) (mu_s _ _ _)) (cwV 0 hts gL_law_X7_thrown rfl rfl rfl (by decide +kernel) ⟨Nat.le_of_ble_eq_true rfl, Nat.le_of_ble_eq_true rfl⟩) ⟨KW.blind, hP.recv hK rfl ((mu_n ((mp_ne hg_md hg_av (by simp)))).trans ((mu_n ((mp_ne hg_md hg_ab (by simp)))).trans (mu_s _ _ _))), fun U9 hU9 hW9 => ⟨rfl, KW.pre hBs hKK hS hP U9 hU9 hW9⟩⟩ rfl rfl hl.1 rfl (lv_room (Nat.le_of_ble_eq_true rfl)) dL_law_885 ⟨(Nat.le_of_ble_eq_true rfl), (Nat.le_of_ble_eq_true rfl)⟩) hS (fun r885 m885 H locs hq9 hP hz9 hS => ?_)
      obtain ⟨he8, hr8⟩ := hq9
      rw [he8] at hP
      obtain rfl : r885 = nI 1 := hr8
      refine lv_iload hx hb dL_law_888 (lv_at hl 1 rfl) ?_
      refine nv_icmp_eq (tgt := 895) hx hb (by omega) (by omega) dL_law_890 (by decide) (fun hc890 => ?_) (fun hc890 => ?_)
      · refine lv_iload hx hb dL_law_895 (lv_at hl 1 rfl) ?_
        refine lv_if_ne (tgt := 911) hx hb dL_law_897 (by decide) (fun hc897 => ?_) (fun hc897 => ?_)
        · refine lv_goto (tgt := 1218) hx hb dL_law_911 (by decide) ?_
          refine W.widen (k := 138) (n := 15799) (by omega) (by omega) ?_
          exact L1218 (mu (mu (mu m861 md (.inr (7, [.int (nI 1), .ref ab, .ref av, .int (nI 0), .ref c1, .ref c2, .ref c3, .ref c4, .ref c5, .ref c6, .ref c7, .ref c8, .ref c9]))) ab (.inl (G.2 0, 3744, .inr (.inl g9)))) av (.inl (G.2 2, 26, .inl w9)))  _ _ hP hS ls (lv_sub hl [2, 3, 4, 5, 6] rfl)
        · exact absurd hc897 (by decide)
      · exfalso; omega

set_option maxHeartbeats 4000000 in
set_option maxRecDepth 100000 in
theorem lw_k12 (l : Launch) (hlt : l.stackTraces = false) (G : GG) (B : Nat) (sc0 : Nat) (fs : Nat → Int32) {p : Program} {e : Env} {s : State} {m : MethodId} {args : Array Value} {below : List Frame} {meth : Method} {c : Code} {Q : State → Prop} (μ : mp) (d aS aL aR aT aO bn nn s9 lo : Nat) (nf : List Value) (sa la bE : Nat → Nat) (F : Nat → Nat → Int64) (g : Nat → Int64) (w9 : Nat → Int32) (fS fL fR fT : Nat → Option Nat) (sp : Nat → Nat) (fO : Nat → Int64) (ou : Nat) (fo : Nat → Int64) (md ab av c1 c2 c3 c4 c5 c6 c7 c8 c9 : Nat) (f : Nat → Int64) (v : Nat → Int32) (i1 i2 i3 i4 i5 i6 : Nat → Int32) (hx : p.tables.exec = Jvm.exec) (hb : c.code = cL_law) (hml : c.maxLocals = 8) (hown : s.vm.findClass RL = some m.cls) (hts : ∀ w ∈ wsL_law, w.before args s = true) (hBs : B ≤ s.heap.size) (hKK : KK G B s) (hDc : DcI s) (hscB : sc0 < B) (hbl : sc0 < s.heap.size) (hX : va_X sc0 6 fs s s.heap) (L1218 : ∀ (μ9 : mp) (H : Heap) (locs : List Loc), mw G.1 vwCl B μ9 H → va_S (fun q => B ≤ q) s.heap H locs → ∀ ls : Array Slot, lv_has ls 8 [(4, .int (nI 0)), (3, .ref ou), (2, .ref md), (1, .ref d), (0, .ref sc0)] → W p l e room_1 s m args below meth c H locs 138 15799 Q (F0 m 1218 ls [])) (hD : DK G μ d aS aL aR aT aO bn nn s9 lo 0 nf sa la bE F g w9 fS fL fR fT sp fO) (hFS : FS F bE g) (hou : μ ou = some (.inl (G.2 0, 1, .inr (.inl fo)))) (hap : Apt d aO s9 lo sa la sp ou) (hmd : μ md = some (.inr (7, [.int (nI 0), .ref ab, .ref av, .int (nI 0), .ref c1, .ref c2, .ref c3, .ref c4, .ref c5, .ref c6, .ref c7, .ref c8, .ref c9]))) (hab : μ ab = some (.inl (G.2 0, 3744, .inr (.inl f)))) (hav : μ av = some (.inl (G.2 2, 26, .inl v))) (hNM : NM f v) (hc1 : μ c1 = some (.inl (G.2 1, 20, .inl i1))) (hc2 : μ c2 = some (.inl (G.2 1, 20, .inl i2))) (hc3 : μ c3 = some (.inl (G.2 1, 20, .inl i3))) (hc4 : μ c4 = some (.inl (G.2 1, 20, .inl i4))) (hc5 : μ c5 = some (.inl (G.2 1, 20, .inl i5))) (hc6 : μ c6 = some (.inl (G.2 1, 20, .inl i6))) (n12 : c1 ≠ c2) (n13 : c1 ≠ c3) (n14 : c1 ≠ c4) (n15 : c1 ≠ c5) (n16 : c1 ≠ c6) (n23 : c2 ≠ c3) (n24 : c2 ≠ c4) (n25 : c2 ≠ c5) (n26 : c2 ≠ c6) (n34 : c3 ≠ c4) (n35 : c3 ≠ c5) (n36 : c3 ≠ c6) (n45 : c4 ≠ c5) (n46 : c4 ≠ c6) (n56 : c5 ≠ c6) (ap_md : Apt d aO s9 lo sa la sp md) (ap_ab : Apt d aO s9 lo sa la sp ab) (ap_av : Apt d aO s9 lo sa la sp av) (ap_c1 : Apt d aO s9 lo sa la sp c1) (ap_c2 : Apt d aO s9 lo sa la sp c2) (ap_c3 : Apt d aO s9 lo sa la sp c3) (ap_c4 : Apt d aO s9 lo sa la sp c4) (ap_c5 : Apt d aO s9 lo sa la sp c5) (ap_c6 : Apt d aO s9 lo sa la sp c6) (H : Heap) (locs : List Loc) (hP : mw G.1 vwCl B μ H) (hS : va_S (fun q => B ≤ q) s.heap H locs) (ls : Array Slot) (hl : lv_has ls 8 [(4, .int (nI 0)), (3, .ref ou), (2, .ref md), (1, .ref d), (0, .ref sc0)]) : W p l e room_1 s m args below meth c H locs 103 8067 Q (F0 m 914 ls []) := by
  have hK := hKK.k
  refine lv_aload_n hx hb dL_law_914 rfl (lv_at hl 3 rfl) ?_
  refine lv_aload_n hx hb dL_law_915 rfl (lv_at hl 4 rfl) ?_
  refine lv_iload hx hb dL_law_916 (lv_at hl 0 rfl) ?_
  refine lv_iconst (v := nI 1) hx hb dL_law_918 (by decide) ?_
  refine nv_iadd hx hb dL_law_919 ?_
  refine sc_iald (i := 1) hx hb hX hbl hscB hS (by omega) (by omega) dL_law_920 ?_
  refine lv_aload_n hx hb dL_law_921 rfl (lv_at hl 1 rfl) ?_
  refine kx_i (vx_runSX (As := [.ref d, .int (fs 1), .ref ou]) (rest := []) ⟨hx, hb, hml, hown, hts⟩ (c_L_places l hlt G B (μ) d aS aL aR aT aO bn nn s9 lo nf sa la bE F g w9 fS fL fR fT sp fO (fs 1) ou fo hD hFS hou hap) (vx_cwSW 3 hts gL_law_L_places rfl rfl rfl (by decide +kernel) ⟨Nat.le_of_ble_eq_true rfl, Nat.le_of_ble_eq_true rfl⟩) ⟨KX.blind, fun U9 hU9 hW9 => ⟨rfl, KW.pre hBs hKK hS hP U9 hU9 hW9, hDc.at hW9⟩⟩ rfl rfl hl.1 rfl (lv_room (Nat.le_of_ble_eq_true rfl)) dL_law_922 ⟨(Nat.le_of_ble_eq_true rfl), (Nat.le_of_ble_eq_true rfl)⟩) hS (fun E ce q9 H locs hce hP hS h91 h92 h93 => ?_) (fun r922 m922 H locs hq9 hP hz9 hS => ?_)
  · exact False.elim hce
  obtain ⟨hfr, fo9, hou9, hcase⟩ := hq9
  have hg_md := hfr md _ (hmd) (mp_ne hmd hou (by simp)) ap_md
  have hg_ab := hfr ab _ (hab) (mp_ne hab hou (by simp)) ap_ab
  have hg_av := hfr av _ (hav) (mp_ne hav hou (by simp)) ap_av
  have hg_c1 := hfr c1 _ (hc1) (mp_ne hc1 hou (by simp)) ap_c1
  have hg_c2 := hfr c2 _ (hc2) (mp_ne hc2 hou (by simp)) ap_c2
  have hg_c3 := hfr c3 _ (hc3) (mp_ne hc3 hou (by simp)) ap_c3
  have hg_c4 := hfr c4 _ (hc4) (mp_ne hc4 hou (by simp)) ap_c4
  have hg_c5 := hfr c5 _ (hc5) (mp_ne hc5 hou (by simp)) ap_c5
  have hg_c6 := hfr c6 _ (hc6) (mp_ne hc6 hou (by simp)) ap_c6
  refine lv_istore (lv' := [(5, .int r922), (4, .int (nI 0)), (3, .ref ou), (2, .ref md), (1, .ref d), (0, .ref sc0)]) hx hb dL_law_925 hl (by decide) rfl (fun ls hl => ?_)
  refine lv_aload_n hx hb dL_law_927 rfl (lv_at hl 3 rfl) ?_
  refine lv_aload_n hx hb dL_law_928 rfl (lv_at hl 5 rfl) ?_
  refine lv_iload hx hb dL_law_929 (lv_at hl 1 rfl) ?_
  refine lv_iconst (v := nI 1) hx hb dL_law_931 (by decide) ?_
  refine nv_iadd hx hb dL_law_932 ?_
  refine sc_iald (i := 1) hx hb hX hbl hscB hS (by omega) (by omega) dL_law_933 ?_
  refine kc_i (va_runV (As := [.int (fs 1)]) (rest := []) ⟨hx, hb, hml, hown, hts⟩ (c_X7_places l G B (m922) md ab av c1 c2 c3 c4 c5 c6 c7 c8 c9 0 0 f v (fs 1) (hg_md) (hg_ab) (hg_av) hNM) (cwV 1 hts gL_law_X7_places rfl rfl rfl (by decide +kernel) ⟨Nat.le_of_ble_eq_true rfl, Nat.le_of_ble_eq_true rfl⟩) ⟨KW.blind, hP.recv hK rfl (hg_md), fun U9 hU9 hW9 => ⟨rfl, KW.pre hBs hKK hS hP U9 hU9 hW9⟩⟩ rfl rfl hl.1 rfl (lv_room (Nat.le_of_ble_eq_true rfl)) dL_law_934 ⟨(Nat.le_of_ble_eq_true rfl), (Nat.le_of_ble_eq_true rfl)⟩) hS (fun r934 m934 H locs hq9 hP hz9 hS => ?_)
  obtain ⟨fl9, g9, w9, he9, hm9⟩ := hq9
  rw [he9] at hP
  rcases hcase with ⟨hr9, hok, hv9⟩ | ⟨hr9, hno⟩
  · rcases hm9 with ⟨hf9, hok2, hb9⟩ | ⟨hf9, hno2⟩
    · subst hf9
      obtain rfl : r922 = nI 0 := hr9
      subst hb9
      refine lv_topi (fun v937 ev937 => ?_)
      refine lv_istore (lv' := [(6, .int v937), (5, .int (nI 0)), (4, .int (nI 0)), (3, .ref ou), (2, .ref md), (1, .ref d), (0, .ref sc0)]) hx hb dL_law_937 hl (by decide) rfl (fun ls hl => ?_)
      refine lv_aload_n hx hb dL_law_939 rfl (lv_at hl 4 rfl) ?_
      refine kc_i (va_runV (As := []) (rest := []) ⟨hx, hb, hml, hown, hts⟩ (c_X7_thrown l G B (mu (mu (mu m922 md (.inr (7, [.int (nI 0), .ref ab, .ref av, .int (nI 0), .ref c1, .ref c2, .ref c3, .ref c4, .ref c5, .ref c6, .ref c7, .ref c8, .ref c9]))) ab (.inl (G.2 0, 3744, .inr (.inl g9)))) av (.inl (G.2 2, 26, .inl w9))) md ab av c1 c2 c3 c4 c5 c6 c7 c8 c9 0 0 g9 w9 ((mu_n ((mp_ne hg_md hg_av (by simp)))).trans ((mu_n ((mp_ne hg_md hg_ab (by simp)))).trans (mu_s _ _ _))) ((mu_n ((mp_ne hg_ab hg_av (by simp)))).trans (mu_s _ _ _)) (mu_s _ _ _)) (cwV 0 hts gL_law_X7_thrown rfl rfl rfl (by decide +kernel) ⟨Nat.le_of_ble_eq_true rfl, Nat.le_of_ble_eq_true rfl⟩) ⟨KW.blind, hP.recv hK rfl ((mu_n ((mp_ne hg_md hg_av (by simp)))).trans ((mu_n ((mp_ne hg_md hg_ab (by simp)))).trans (mu_s _ _ _))), fun U9 hU9 hW9 => ⟨rfl, KW.pre hBs hKK hS hP U9 hU9 hW9⟩⟩ rfl rfl hl.1 rfl (lv_room (Nat.le_of_ble_eq_true rfl)) dL_law_940 ⟨(Nat.le_of_ble_eq_true rfl), (Nat.le_of_ble_eq_true rfl)⟩) hS (fun r940 m940 H locs hq9 hP hz9 hS => ?_)
      obtain ⟨he8, hr8⟩ := hq9
      rw [he8] at hP
      obtain rfl : r940 = nI 0 := hr8
      refine lv_iload hx hb dL_law_943 (lv_at hl 1 rfl) ?_
      refine nv_icmp_eq (tgt := 950) hx hb (by omega) (by omega) dL_law_945 (by decide) (fun hc945 => ?_) (fun hc945 => ?_)
      · refine lv_iload hx hb dL_law_950 (lv_at hl 1 rfl) ?_
        refine lv_if_ne (tgt := 967) hx hb dL_law_952 (by decide) (fun hc952 => ?_) (fun hc952 => ?_)
        · exact absurd rfl hc952
        · refine lv_aload_n hx hb dL_law_955 rfl (lv_at hl 3 rfl) ?_
          refine lv_iconst (v := nI 0) hx hb dL_law_956 (by decide) ?_
          refine mw_lald hx hb hK hP 0 ((mu_n ((mp_ne hou9 hg_av (by simp)))).trans ((mu_n ((mp_ne hou9 hg_ab (by simp)))).trans ((mu_n ((mp_ne hou9 hg_md (by simp)))).trans (hou9)))) rfl (by omega) (by omega) dL_law_957 ?_
          refine lv_iload hx hb dL_law_958 (lv_at hl 0 rfl) ?_
          refine lv_i2l (v := v937.toInt64) hx hb dL_law_960 rfl ?_
          refine nl_if_eq (tgt := 967) hx hb dL_law_961 dL_law_962 (by decide) (fun hc961 => ?_) (fun hc961 => ?_)
          · refine lv_goto (tgt := 1218) hx hb dL_law_967 (by decide) ?_
            refine W.widen (k := 138) (n := 15799) (by omega) (by omega) ?_
            exact L1218 (mu (mu (mu m922 md (.inr (7, [.int (nI 0), .ref ab, .ref av, .int (nI 0), .ref c1, .ref c2, .ref c3, .ref c4, .ref c5, .ref c6, .ref c7, .ref c8, .ref c9]))) ab (.inl (G.2 0, 3744, .inr (.inl g9)))) av (.inl (G.2 2, 26, .inl w9)))  _ _ hP hS ls (lv_sub hl [2, 3, 4, 5, 6] rfl)
          · exact absurd (hv9.trans (by first | rfl | decide | (subst_vars; decide))) hc961
      · exfalso; omega
    · exact absurd hok hno2
  · rcases hm9 with ⟨hf9, hok2, hb9⟩ | ⟨hf9, hno2⟩
    · exact absurd hok2 hno
    · subst hf9
      obtain rfl : r922 = nI 1 := hr9
      refine lv_istore (lv' := [(6, .int r934), (5, .int (nI 1)), (4, .int (nI 0)), (3, .ref ou), (2, .ref md), (1, .ref d), (0, .ref sc0)]) hx hb dL_law_937 hl (by decide) rfl (fun ls hl => ?_)
      refine lv_aload_n hx hb dL_law_939 rfl (lv_at hl 4 rfl) ?_
      refine kc_i (va_runV (As := []) (rest := []) ⟨hx, hb, hml, hown, hts⟩ (c_X7_thrown l G B (mu (mu (mu m922 md (.inr (7, [.int (nI 1), .ref ab, .ref av, .int (nI 0), .ref c1, .ref c2, .ref c3, .ref c4, .ref c5, .ref c6, .ref c7, .ref c8, .ref c9]))) ab (.inl (G.2 0, 3744, .inr (.inl g9)))) av (.inl (G.2 2, 26, .inl w9))) md ab av c1 c2 c3 c4 c5 c6 c7 c8 c9 1 0 g9 w9 ((mu_n ((mp_ne hg_md hg_av (by simp)))).trans ((mu_n ((mp_ne hg_md hg_ab (by simp)))).trans (mu_s _ _ _))) ((mu_n ((mp_ne hg_ab hg_av (by simp)))).trans (mu_s _ _ _)) (mu_s _ _ _)) (cwV 0 hts gL_law_X7_thrown rfl rfl rfl (by decide +kernel) ⟨Nat.le_of_ble_eq_true rfl, Nat.le_of_ble_eq_true rfl⟩) ⟨KW.blind, hP.recv hK rfl ((mu_n ((mp_ne hg_md hg_av (by simp)))).trans ((mu_n ((mp_ne hg_md hg_ab (by simp)))).trans (mu_s _ _ _))), fun U9 hU9 hW9 => ⟨rfl, KW.pre hBs hKK hS hP U9 hU9 hW9⟩⟩ rfl rfl hl.1 rfl (lv_room (Nat.le_of_ble_eq_true rfl)) dL_law_940 ⟨(Nat.le_of_ble_eq_true rfl), (Nat.le_of_ble_eq_true rfl)⟩) hS (fun r940 m940 H locs hq9 hP hz9 hS => ?_)
      obtain ⟨he8, hr8⟩ := hq9
      rw [he8] at hP
      obtain rfl : r940 = nI 1 := hr8
      refine lv_iload hx hb dL_law_943 (lv_at hl 1 rfl) ?_
      refine nv_icmp_eq (tgt := 950) hx hb (by omega) (by omega) dL_law_945 (by decide) (fun hc945 => ?_) (fun hc945 => ?_)
      · refine lv_iload hx hb dL_law_950 (lv_at hl 1 rfl) ?_
        refine lv_if_ne (tgt := 967) hx hb dL_law_952 (by decide) (fun hc952 => ?_) (fun hc952 => ?_)
        · refine lv_goto (tgt := 1218) hx hb dL_law_967 (by decide) ?_
          refine W.widen (k := 138) (n := 15799) (by omega) (by omega) ?_
          exact L1218 (mu (mu (mu m922 md (.inr (7, [.int (nI 1), .ref ab, .ref av, .int (nI 0), .ref c1, .ref c2, .ref c3, .ref c4, .ref c5, .ref c6, .ref c7, .ref c8, .ref c9]))) ab (.inl (G.2 0, 3744, .inr (.inl g9)))) av (.inl (G.2 2, 26, .inl w9)))  _ _ hP hS ls (lv_sub hl [2, 3, 4, 5, 6] rfl)
        · exact absurd hc952 (by decide)
      · exfalso; omega

set_option maxHeartbeats 4000000 in
set_option maxRecDepth 100000 in
theorem lw_k13 (l : Launch) (hlt : l.stackTraces = false) (G : GG) (B : Nat) (sc0 : Nat) (fs : Nat → Int32) {p : Program} {e : Env} {s : State} {m : MethodId} {args : Array Value} {below : List Frame} {meth : Method} {c : Code} {Q : State → Prop} (μ : mp) (d aS aL aR aT aO bn nn s9 lo : Nat) (nf : List Value) (sa la bE : Nat → Nat) (F : Nat → Nat → Int64) (g : Nat → Int64) (w9 : Nat → Int32) (fS fL fR fT : Nat → Option Nat) (sp : Nat → Nat) (fO : Nat → Int64) (ou : Nat) (fo : Nat → Int64) (md ab av c1 c2 c3 c4 c5 c6 c7 c8 c9 : Nat) (f : Nat → Int64) (v : Nat → Int32) (i1 i2 i3 i4 i5 i6 : Nat → Int32) (hx : p.tables.exec = Jvm.exec) (hb : c.code = cL_law) (hml : c.maxLocals = 8) (hown : s.vm.findClass RL = some m.cls) (hts : ∀ w ∈ wsL_law, w.before args s = true) (hBs : B ≤ s.heap.size) (hKK : KK G B s) (hDc : DcI s) (hscB : sc0 < B) (hbl : sc0 < s.heap.size) (hX : va_X sc0 6 fs s s.heap) (L1218 : ∀ (μ9 : mp) (H : Heap) (locs : List Loc), mw G.1 vwCl B μ9 H → va_S (fun q => B ≤ q) s.heap H locs → ∀ ls : Array Slot, lv_has ls 8 [(4, .int (nI 0)), (3, .ref ou), (2, .ref md), (1, .ref d), (0, .ref sc0)] → W p l e room_1 s m args below meth c H locs 138 15799 Q (F0 m 1218 ls [])) (hD : DK G μ d aS aL aR aT aO bn nn s9 lo 0 nf sa la bE F g w9 fS fL fR fT sp fO) (hFS : FS F bE g) (hou : μ ou = some (.inl (G.2 0, 1, .inr (.inl fo)))) (hap : Apt d aO s9 lo sa la sp ou) (hmd : μ md = some (.inr (7, [.int (nI 0), .ref ab, .ref av, .int (nI 0), .ref c1, .ref c2, .ref c3, .ref c4, .ref c5, .ref c6, .ref c7, .ref c8, .ref c9]))) (hab : μ ab = some (.inl (G.2 0, 3744, .inr (.inl f)))) (hav : μ av = some (.inl (G.2 2, 26, .inl v))) (hNM : NM f v) (hc1 : μ c1 = some (.inl (G.2 1, 20, .inl i1))) (hc2 : μ c2 = some (.inl (G.2 1, 20, .inl i2))) (hc3 : μ c3 = some (.inl (G.2 1, 20, .inl i3))) (hc4 : μ c4 = some (.inl (G.2 1, 20, .inl i4))) (hc5 : μ c5 = some (.inl (G.2 1, 20, .inl i5))) (hc6 : μ c6 = some (.inl (G.2 1, 20, .inl i6))) (n12 : c1 ≠ c2) (n13 : c1 ≠ c3) (n14 : c1 ≠ c4) (n15 : c1 ≠ c5) (n16 : c1 ≠ c6) (n23 : c2 ≠ c3) (n24 : c2 ≠ c4) (n25 : c2 ≠ c5) (n26 : c2 ≠ c6) (n34 : c3 ≠ c4) (n35 : c3 ≠ c5) (n36 : c3 ≠ c6) (n45 : c4 ≠ c5) (n46 : c4 ≠ c6) (n56 : c5 ≠ c6) (ap_md : Apt d aO s9 lo sa la sp md) (ap_ab : Apt d aO s9 lo sa la sp ab) (ap_av : Apt d aO s9 lo sa la sp av) (ap_c1 : Apt d aO s9 lo sa la sp c1) (ap_c2 : Apt d aO s9 lo sa la sp c2) (ap_c3 : Apt d aO s9 lo sa la sp c3) (ap_c4 : Apt d aO s9 lo sa la sp c4) (ap_c5 : Apt d aO s9 lo sa la sp c5) (ap_c6 : Apt d aO s9 lo sa la sp c6) (H : Heap) (locs : List Loc) (hP : mw G.1 vwCl B μ H) (hS : va_S (fun q => B ≤ q) s.heap H locs) (ls : Array Slot) (hl : lv_has ls 8 [(4, .int (nI 0)), (3, .ref ou), (2, .ref md), (1, .ref d), (0, .ref sc0)]) : W p l e room_1 s m args below meth c H locs 103 8067 Q (F0 m 970 ls []) := by
  have hK := hKK.k
  refine lv_aload_n hx hb dL_law_970 rfl (lv_at hl 3 rfl) ?_
  refine lv_aload_n hx hb dL_law_971 rfl (lv_at hl 4 rfl) ?_
  refine lv_iload hx hb dL_law_972 (lv_at hl 0 rfl) ?_
  refine lv_iconst (v := nI 1) hx hb dL_law_974 (by decide) ?_
  refine nv_iadd hx hb dL_law_975 ?_
  refine sc_iald (i := 1) hx hb hX hbl hscB hS (by omega) (by omega) dL_law_976 ?_
  refine lv_aload_n hx hb dL_law_977 rfl (lv_at hl 4 rfl) ?_
  refine lv_iload hx hb dL_law_978 (lv_at hl 0 rfl) ?_
  refine lv_iconst (v := nI 2) hx hb dL_law_980 (by decide) ?_
  refine nv_iadd hx hb dL_law_981 ?_
  refine sc_iald (i := 2) hx hb hX hbl hscB hS (by omega) (by omega) dL_law_982 ?_
  refine lv_aload_n hx hb dL_law_983 rfl (lv_at hl 4 rfl) ?_
  refine lv_iload hx hb dL_law_984 (lv_at hl 0 rfl) ?_
  refine lv_iconst (v := nI 3) hx hb dL_law_986 (by decide) ?_
  refine nv_iadd hx hb dL_law_987 ?_
  refine sc_iald (i := 3) hx hb hX hbl hscB hS (by omega) (by omega) dL_law_988 ?_
  refine lv_aload_n hx hb dL_law_989 rfl (lv_at hl 4 rfl) ?_
  refine lv_iload hx hb dL_law_990 (lv_at hl 0 rfl) ?_
  refine lv_iconst (v := nI 4) hx hb dL_law_992 (by decide) ?_
  refine nv_iadd hx hb dL_law_993 ?_
  refine sc_iald (i := 4) hx hb hX hbl hscB hS (by omega) (by omega) dL_law_994 ?_
  refine lv_aload_n hx hb dL_law_995 rfl (lv_at hl 4 rfl) ?_
  refine lv_iload hx hb dL_law_996 (lv_at hl 0 rfl) ?_
  refine lv_iconst (v := nI 5) hx hb dL_law_998 (by decide) ?_
  refine nv_iadd hx hb dL_law_999 ?_
  refine sc_iald (i := 5) hx hb hX hbl hscB hS (by omega) (by omega) dL_law_1000 ?_
  refine lv_aload_n hx hb dL_law_1001 rfl (lv_at hl 1 rfl) ?_
  refine kx_i (vx_runSX (As := [.ref d, .int (fs 1), .int (fs 2), .int (fs 3), .int (fs 4), .int (fs 5), .ref ou]) (rest := []) ⟨hx, hb, hml, hown, hts⟩ (c_L_step l hlt G B (μ) d aS aL aR aT aO bn nn s9 lo nf sa la bE F g w9 fS fL fR fT sp fO (fs 1) (fs 2) (fs 3) (fs 4) (fs 5) ou fo hD hFS hou hap) (vx_cwSW 7 hts gL_law_L_step rfl rfl rfl (by decide +kernel) ⟨Nat.le_of_ble_eq_true rfl, Nat.le_of_ble_eq_true rfl⟩) ⟨KX.blind, fun U9 hU9 hW9 => ⟨rfl, KW.pre hBs hKK hS hP U9 hU9 hW9, hDc.at hW9⟩⟩ rfl rfl hl.1 rfl (lv_room (Nat.le_of_ble_eq_true rfl)) dL_law_1002 ⟨(Nat.le_of_ble_eq_true rfl), (Nat.le_of_ble_eq_true rfl)⟩) hS (fun E ce q9 H locs hce hP hS h91 h92 h93 => ?_) (fun r1002 m1002 H locs hq9 hP hz9 hS => ?_)
  · exact False.elim hce
  obtain ⟨hfr, fo9, hou9, hcase⟩ := hq9
  have hg_md := hfr md _ (hmd) (mp_ne hmd hou (by simp)) ap_md
  have hg_ab := hfr ab _ (hab) (mp_ne hab hou (by simp)) ap_ab
  have hg_av := hfr av _ (hav) (mp_ne hav hou (by simp)) ap_av
  have hg_c1 := hfr c1 _ (hc1) (mp_ne hc1 hou (by simp)) ap_c1
  have hg_c2 := hfr c2 _ (hc2) (mp_ne hc2 hou (by simp)) ap_c2
  have hg_c3 := hfr c3 _ (hc3) (mp_ne hc3 hou (by simp)) ap_c3
  have hg_c4 := hfr c4 _ (hc4) (mp_ne hc4 hou (by simp)) ap_c4
  have hg_c5 := hfr c5 _ (hc5) (mp_ne hc5 hou (by simp)) ap_c5
  have hg_c6 := hfr c6 _ (hc6) (mp_ne hc6 hou (by simp)) ap_c6
  refine lv_istore (lv' := [(5, .int r1002), (4, .int (nI 0)), (3, .ref ou), (2, .ref md), (1, .ref d), (0, .ref sc0)]) hx hb dL_law_1005 hl (by decide) rfl (fun ls hl => ?_)
  refine lv_aload_n hx hb dL_law_1007 rfl (lv_at hl 3 rfl) ?_
  refine lv_aload_n hx hb dL_law_1008 rfl (lv_at hl 5 rfl) ?_
  refine lv_iload hx hb dL_law_1009 (lv_at hl 1 rfl) ?_
  refine lv_iconst (v := nI 1) hx hb dL_law_1011 (by decide) ?_
  refine nv_iadd hx hb dL_law_1012 ?_
  refine sc_iald (i := 1) hx hb hX hbl hscB hS (by omega) (by omega) dL_law_1013 ?_
  refine lv_aload_n hx hb dL_law_1014 rfl (lv_at hl 5 rfl) ?_
  refine lv_iload hx hb dL_law_1015 (lv_at hl 1 rfl) ?_
  refine lv_iconst (v := nI 2) hx hb dL_law_1017 (by decide) ?_
  refine nv_iadd hx hb dL_law_1018 ?_
  refine sc_iald (i := 2) hx hb hX hbl hscB hS (by omega) (by omega) dL_law_1019 ?_
  refine lv_aload_n hx hb dL_law_1020 rfl (lv_at hl 5 rfl) ?_
  refine lv_iload hx hb dL_law_1021 (lv_at hl 1 rfl) ?_
  refine lv_iconst (v := nI 3) hx hb dL_law_1023 (by decide) ?_
  refine nv_iadd hx hb dL_law_1024 ?_
  refine sc_iald (i := 3) hx hb hX hbl hscB hS (by omega) (by omega) dL_law_1025 ?_
  refine lv_aload_n hx hb dL_law_1026 rfl (lv_at hl 5 rfl) ?_
  refine lv_iload hx hb dL_law_1027 (lv_at hl 1 rfl) ?_
  refine lv_iconst (v := nI 4) hx hb dL_law_1029 (by decide) ?_
  refine nv_iadd hx hb dL_law_1030 ?_
  refine sc_iald (i := 4) hx hb hX hbl hscB hS (by omega) (by omega) dL_law_1031 ?_
  refine lv_aload_n hx hb dL_law_1032 rfl (lv_at hl 5 rfl) ?_
  refine lv_iload hx hb dL_law_1033 (lv_at hl 1 rfl) ?_
  refine lv_iconst (v := nI 5) hx hb dL_law_1035 (by decide) ?_
  refine nv_iadd hx hb dL_law_1036 ?_
  refine sc_iald (i := 5) hx hb hX hbl hscB hS (by omega) (by omega) dL_law_1037 ?_
  refine kc_i (va_runV (As := [.int (fs 1), .int (fs 2), .int (fs 3), .int (fs 4), .int (fs 5)]) (rest := []) ⟨hx, hb, hml, hown, hts⟩ (c_X7_step l G B (m1002) md ab av c1 c2 c3 c4 c5 c6 c7 c8 c9 0 0 f v i1 i2 i3 i4 i5 i6 (fs 1) (fs 2) (fs 3) (fs 4) (fs 5) (hg_md) (hg_ab) (hg_av) (hg_c1) (hg_c2) (hg_c3) (hg_c4) (hg_c5) (hg_c6) rfl n12 n13 n14 n15 n16 n23 n24 n25 n26 n34 n35 n36 n45 n46 n56) (cwV 5 hts gL_law_X7_step rfl rfl rfl (by decide +kernel) ⟨Nat.le_of_ble_eq_true rfl, Nat.le_of_ble_eq_true rfl⟩) ⟨KW.blind, hP.recv hK rfl (hg_md), fun U9 hU9 hW9 => ⟨rfl, KW.pre hBs hKK hS hP U9 hU9 hW9⟩⟩ rfl rfl hl.1 rfl (lv_room (Nat.le_of_ble_eq_true rfl)) dL_law_1038 ⟨(Nat.le_of_ble_eq_true rfl), (Nat.le_of_ble_eq_true rfl)⟩) hS (fun r1038 m1038 H locs hq9 hP hz9 hS => ?_)
  obtain ⟨hfr2, fl9, st9, hmd9, hm9⟩ := hq9
  have hh_ab := hfr2 ab _ (hg_ab) (mp_ne hg_ab hg_md (by simp)) ⟨(mp_ne hg_ab hg_c1 (by simp)), (mp_ne hg_ab hg_c2 (by simp)), (mp_ne hg_ab hg_c3 (by simp)), (mp_ne hg_ab hg_c4 (by simp)), (mp_ne hg_ab hg_c5 (by simp)), (mp_ne hg_ab hg_c6 (by simp))⟩
  have hh_av := hfr2 av _ (hg_av) (mp_ne hg_av hg_md (by simp)) ⟨(mp_ne hg_av hg_c1 (by simp)), (mp_ne hg_av hg_c2 (by simp)), (mp_ne hg_av hg_c3 (by simp)), (mp_ne hg_av hg_c4 (by simp)), (mp_ne hg_av hg_c5 (by simp)), (mp_ne hg_av hg_c6 (by simp))⟩
  have hh_ou := hfr2 ou _ (hou9) (mp_ne hou9 hg_md (by simp)) ⟨(mp_ne hou9 hg_c1 (by simp)), (mp_ne hou9 hg_c2 (by simp)), (mp_ne hou9 hg_c3 (by simp)), (mp_ne hou9 hg_c4 (by simp)), (mp_ne hou9 hg_c5 (by simp)), (mp_ne hou9 hg_c6 (by simp))⟩
  rcases hcase with ⟨hr9, hok, hv9⟩ | ⟨hr9, hno⟩
  · rcases hm9 with ⟨hf9, hok2, hb9⟩ | ⟨hf9, hno2⟩
    · subst hf9
      obtain rfl : r1002 = nI 0 := hr9
      obtain rfl : r1038 = nI 0 := hb9
      refine lv_istore (lv' := [(6, .int (nI 0)), (5, .int (nI 0)), (4, .int (nI 0)), (3, .ref ou), (2, .ref md), (1, .ref d), (0, .ref sc0)]) hx hb dL_law_1041 hl (by decide) rfl (fun ls hl => ?_)
      refine lv_aload_n hx hb dL_law_1043 rfl (lv_at hl 4 rfl) ?_
      refine kc_i (va_runV (As := []) (rest := []) ⟨hx, hb, hml, hown, hts⟩ (c_X7_thrown l G B (m1038) md ab av c1 c2 c3 c4 c5 c6 c7 c8 c9 0 st9 f v (hmd9) (hh_ab) (hh_av)) (cwV 0 hts gL_law_X7_thrown rfl rfl rfl (by decide +kernel) ⟨Nat.le_of_ble_eq_true rfl, Nat.le_of_ble_eq_true rfl⟩) ⟨KW.blind, hP.recv hK rfl (hmd9), fun U9 hU9 hW9 => ⟨rfl, KW.pre hBs hKK hS hP U9 hU9 hW9⟩⟩ rfl rfl hl.1 rfl (lv_room (Nat.le_of_ble_eq_true rfl)) dL_law_1044 ⟨(Nat.le_of_ble_eq_true rfl), (Nat.le_of_ble_eq_true rfl)⟩) hS (fun r1044 m1044 H locs hq9 hP hz9 hS => ?_)
      obtain ⟨he8, hr8⟩ := hq9
      rw [he8] at hP
      obtain rfl : r1044 = nI 0 := hr8
      refine lv_iload hx hb dL_law_1047 (lv_at hl 1 rfl) ?_
      refine nv_icmp_eq (tgt := 1054) hx hb (by omega) (by omega) dL_law_1049 (by decide) (fun hc1049 => ?_) (fun hc1049 => ?_)
      · refine lv_iload hx hb dL_law_1054 (lv_at hl 1 rfl) ?_
        refine lv_if_ne (tgt := 1071) hx hb dL_law_1056 (by decide) (fun hc1056 => ?_) (fun hc1056 => ?_)
        · exact absurd rfl hc1056
        · refine lv_aload_n hx hb dL_law_1059 rfl (lv_at hl 3 rfl) ?_
          refine lv_iconst (v := nI 0) hx hb dL_law_1060 (by decide) ?_
          refine mw_lald hx hb hK hP 0 (hh_ou) rfl (by omega) (by omega) dL_law_1061 ?_
          refine lv_iload hx hb dL_law_1062 (lv_at hl 0 rfl) ?_
          refine lv_i2l (v := (nI 0).toInt64) hx hb dL_law_1064 rfl ?_
          refine nl_if_eq (tgt := 1071) hx hb dL_law_1065 dL_law_1066 (by decide) (fun hc1065 => ?_) (fun hc1065 => ?_)
          · refine lv_goto (tgt := 1218) hx hb dL_law_1071 (by decide) ?_
            refine W.widen (k := 138) (n := 15799) (by omega) (by omega) ?_
            exact L1218 m1038  _ _ hP hS ls (lv_sub hl [2, 3, 4, 5, 6] rfl)
          · exact absurd (hv9.trans (by first | rfl | decide | (subst_vars; decide))) hc1065
      · exfalso; omega
    · exact absurd hok hno2
  · rcases hm9 with ⟨hf9, hok2, hb9⟩ | ⟨hf9, hno2⟩
    · exact absurd hok2 hno
    · subst hf9
      obtain rfl : r1002 = nI 1 := hr9
      refine lv_istore (lv' := [(6, .int r1038), (5, .int (nI 1)), (4, .int (nI 0)), (3, .ref ou), (2, .ref md), (1, .ref d), (0, .ref sc0)]) hx hb dL_law_1041 hl (by decide) rfl (fun ls hl => ?_)
      refine lv_aload_n hx hb dL_law_1043 rfl (lv_at hl 4 rfl) ?_
      refine kc_i (va_runV (As := []) (rest := []) ⟨hx, hb, hml, hown, hts⟩ (c_X7_thrown l G B (m1038) md ab av c1 c2 c3 c4 c5 c6 c7 c8 c9 1 st9 f v (hmd9) (hh_ab) (hh_av)) (cwV 0 hts gL_law_X7_thrown rfl rfl rfl (by decide +kernel) ⟨Nat.le_of_ble_eq_true rfl, Nat.le_of_ble_eq_true rfl⟩) ⟨KW.blind, hP.recv hK rfl (hmd9), fun U9 hU9 hW9 => ⟨rfl, KW.pre hBs hKK hS hP U9 hU9 hW9⟩⟩ rfl rfl hl.1 rfl (lv_room (Nat.le_of_ble_eq_true rfl)) dL_law_1044 ⟨(Nat.le_of_ble_eq_true rfl), (Nat.le_of_ble_eq_true rfl)⟩) hS (fun r1044 m1044 H locs hq9 hP hz9 hS => ?_)
      obtain ⟨he8, hr8⟩ := hq9
      rw [he8] at hP
      obtain rfl : r1044 = nI 1 := hr8
      refine lv_iload hx hb dL_law_1047 (lv_at hl 1 rfl) ?_
      refine nv_icmp_eq (tgt := 1054) hx hb (by omega) (by omega) dL_law_1049 (by decide) (fun hc1049 => ?_) (fun hc1049 => ?_)
      · refine lv_iload hx hb dL_law_1054 (lv_at hl 1 rfl) ?_
        refine lv_if_ne (tgt := 1071) hx hb dL_law_1056 (by decide) (fun hc1056 => ?_) (fun hc1056 => ?_)
        · refine lv_goto (tgt := 1218) hx hb dL_law_1071 (by decide) ?_
          refine W.widen (k := 138) (n := 15799) (by omega) (by omega) ?_
          exact L1218 m1038  _ _ hP hS ls (lv_sub hl [2, 3, 4, 5, 6] rfl)
        · exact absurd hc1056 (by decide)
      · exfalso; omega

set_option maxHeartbeats 4000000 in
set_option maxRecDepth 100000 in
theorem lw_k14 (l : Launch) (hlt : l.stackTraces = false) (G : GG) (B : Nat) (sc0 : Nat) (fs : Nat → Int32) {p : Program} {e : Env} {s : State} {m : MethodId} {args : Array Value} {below : List Frame} {meth : Method} {c : Code} {Q : State → Prop} (μ : mp) (d aS aL aR aT aO bn nn s9 lo : Nat) (nf : List Value) (sa la bE : Nat → Nat) (F : Nat → Nat → Int64) (g : Nat → Int64) (w9 : Nat → Int32) (fS fL fR fT : Nat → Option Nat) (sp : Nat → Nat) (fO : Nat → Int64) (ou : Nat) (fo : Nat → Int64) (md ab av c1 c2 c3 c4 c5 c6 c7 c8 c9 : Nat) (f : Nat → Int64) (v : Nat → Int32) (i1 i2 i3 i4 i5 i6 : Nat → Int32) (hx : p.tables.exec = Jvm.exec) (hb : c.code = cL_law) (hml : c.maxLocals = 8) (hown : s.vm.findClass RL = some m.cls) (hts : ∀ w ∈ wsL_law, w.before args s = true) (hBs : B ≤ s.heap.size) (hKK : KK G B s) (hDc : DcI s) (hscB : sc0 < B) (hbl : sc0 < s.heap.size) (hX : va_X sc0 6 fs s s.heap) (L1218 : ∀ (μ9 : mp) (H : Heap) (locs : List Loc), mw G.1 vwCl B μ9 H → va_S (fun q => B ≤ q) s.heap H locs → ∀ ls : Array Slot, lv_has ls 8 [(4, .int (nI 0)), (3, .ref ou), (2, .ref md), (1, .ref d), (0, .ref sc0)] → W p l e room_1 s m args below meth c H locs 138 15799 Q (F0 m 1218 ls [])) (hD : DK G μ d aS aL aR aT aO bn nn s9 lo 0 nf sa la bE F g w9 fS fL fR fT sp fO) (hFS : FS F bE g) (hou : μ ou = some (.inl (G.2 0, 1, .inr (.inl fo)))) (hap : Apt d aO s9 lo sa la sp ou) (hmd : μ md = some (.inr (7, [.int (nI 0), .ref ab, .ref av, .int (nI 0), .ref c1, .ref c2, .ref c3, .ref c4, .ref c5, .ref c6, .ref c7, .ref c8, .ref c9]))) (hab : μ ab = some (.inl (G.2 0, 3744, .inr (.inl f)))) (hav : μ av = some (.inl (G.2 2, 26, .inl v))) (hNM : NM f v) (hc1 : μ c1 = some (.inl (G.2 1, 20, .inl i1))) (hc2 : μ c2 = some (.inl (G.2 1, 20, .inl i2))) (hc3 : μ c3 = some (.inl (G.2 1, 20, .inl i3))) (hc4 : μ c4 = some (.inl (G.2 1, 20, .inl i4))) (hc5 : μ c5 = some (.inl (G.2 1, 20, .inl i5))) (hc6 : μ c6 = some (.inl (G.2 1, 20, .inl i6))) (n12 : c1 ≠ c2) (n13 : c1 ≠ c3) (n14 : c1 ≠ c4) (n15 : c1 ≠ c5) (n16 : c1 ≠ c6) (n23 : c2 ≠ c3) (n24 : c2 ≠ c4) (n25 : c2 ≠ c5) (n26 : c2 ≠ c6) (n34 : c3 ≠ c4) (n35 : c3 ≠ c5) (n36 : c3 ≠ c6) (n45 : c4 ≠ c5) (n46 : c4 ≠ c6) (n56 : c5 ≠ c6) (ap_md : Apt d aO s9 lo sa la sp md) (ap_ab : Apt d aO s9 lo sa la sp ab) (ap_av : Apt d aO s9 lo sa la sp av) (ap_c1 : Apt d aO s9 lo sa la sp c1) (ap_c2 : Apt d aO s9 lo sa la sp c2) (ap_c3 : Apt d aO s9 lo sa la sp c3) (ap_c4 : Apt d aO s9 lo sa la sp c4) (ap_c5 : Apt d aO s9 lo sa la sp c5) (ap_c6 : Apt d aO s9 lo sa la sp c6) (H : Heap) (locs : List Loc) (hP : mw G.1 vwCl B μ H) (hS : va_S (fun q => B ≤ q) s.heap H locs) (ls : Array Slot) (hl : lv_has ls 8 [(4, .int (nI 0)), (3, .ref ou), (2, .ref md), (1, .ref d), (0, .ref sc0)]) : W p l e room_1 s m args below meth c H locs 103 8067 Q (F0 m 1074 ls []) := by
  have hK := hKK.k
  refine lv_aload_n hx hb dL_law_1074 rfl (lv_at hl 3 rfl) ?_
  refine kc_i (va_runV (As := []) (rest := []) ⟨hx, hb, hml, hown, hts⟩ (c_X6_erase l G B (μ) d aS aL aR aT aO bn nn s9 lo nf sa la bE F g w9 fS fL fR fT sp fO hD hFS) (cwV 0 hts gL_law_X6_erase rfl rfl rfl (by decide +kernel) ⟨Nat.le_of_ble_eq_true rfl, Nat.le_of_ble_eq_true rfl⟩) ⟨KW.blind, hP.recv hK rfl (hD.1), fun U9 hU9 hW9 => ⟨rfl, KW.pre hBs hKK hS hP U9 hU9 hW9⟩⟩ rfl rfl hl.1 rfl (lv_room (Nat.le_of_ble_eq_true rfl)) dL_law_1075 ⟨(Nat.le_of_ble_eq_true rfl), (Nat.le_of_ble_eq_true rfl)⟩) hS (fun r1075 m1075 H locs hq9 hP hz9 hS => ?_)
  obtain ⟨hr9, hR⟩ := hq9
  obtain rfl : r1075 = nI 0 := hr9
  have hg_md := hR.at (hmd) ap_md
  have hg_ab := hR.at (hab) ap_ab
  have hg_av := hR.at (hav) ap_av
  have hg_c1 := hR.at (hc1) ap_c1
  have hg_c2 := hR.at (hc2) ap_c2
  have hg_c3 := hR.at (hc3) ap_c3
  have hg_c4 := hR.at (hc4) ap_c4
  have hg_c5 := hR.at (hc5) ap_c5
  have hg_c6 := hR.at (hc6) ap_c6
  refine lv_aload_n hx hb dL_law_1078 rfl (lv_at hl 2 rfl) ?_
  refine kc_i (va_runV (As := []) (rest := [.int (nI 0)]) ⟨hx, hb, hml, hown, hts⟩ (c_X7_erase l G B (m1075) md ab av c1 c2 c3 c4 c5 c6 c7 c8 c9 0 0 f v (hg_md) (hg_ab) (hg_av)) (cwV 0 hts gL_law_X7_erase rfl rfl rfl (by decide +kernel) ⟨Nat.le_of_ble_eq_true rfl, Nat.le_of_ble_eq_true rfl⟩) ⟨KW.blind, hP.recv hK rfl (hg_md), fun U9 hU9 hW9 => ⟨rfl, KW.pre hBs hKK hS hP U9 hU9 hW9⟩⟩ rfl rfl hl.1 rfl (lv_room (Nat.le_of_ble_eq_true rfl)) dL_law_1079 ⟨(Nat.le_of_ble_eq_true rfl), (Nat.le_of_ble_eq_true rfl)⟩) hS (fun r1079 m1079 H locs hq9 hP hz9 hS => ?_)
  obtain ⟨hr9, he9⟩ := hq9
  rw [he9] at hP
  obtain rfl : r1079 = nI 0 := hr9
  refine nv_icmp_eq (tgt := 1218) hx hb (by omega) (by omega) dL_law_1082 (by decide) (fun hc1082 => ?_) (fun hc1082 => ?_)
  · refine W.widen (k := 138) (n := 15799) (by omega) (by omega) ?_
    exact L1218 (mu m1075 md (.inr (7, [.int (nI 0), .ref ab, .ref av, .int (nI 0), .ref c1, .ref c2, .ref c3, .ref c4, .ref c5, .ref c6, .ref c7, .ref c8, .ref c9])))  _ _ hP hS ls (lv_sub hl [0, 1, 2, 3, 4] rfl)
  · exfalso; omega

set_option maxHeartbeats 4000000 in
set_option maxRecDepth 100000 in
theorem lw_k15 (l : Launch) (hlt : l.stackTraces = false) (G : GG) (B : Nat) (sc0 : Nat) (fs : Nat → Int32) {p : Program} {e : Env} {s : State} {m : MethodId} {args : Array Value} {below : List Frame} {meth : Method} {c : Code} {Q : State → Prop} (μ : mp) (d aS aL aR aT aO bn nn s9 lo : Nat) (nf : List Value) (sa la bE : Nat → Nat) (F : Nat → Nat → Int64) (g : Nat → Int64) (w9 : Nat → Int32) (fS fL fR fT : Nat → Option Nat) (sp : Nat → Nat) (fO : Nat → Int64) (ou : Nat) (fo : Nat → Int64) (md ab av c1 c2 c3 c4 c5 c6 c7 c8 c9 : Nat) (f : Nat → Int64) (v : Nat → Int32) (i1 i2 i3 i4 i5 i6 : Nat → Int32) (hx : p.tables.exec = Jvm.exec) (hb : c.code = cL_law) (hml : c.maxLocals = 8) (hown : s.vm.findClass RL = some m.cls) (hts : ∀ w ∈ wsL_law, w.before args s = true) (hBs : B ≤ s.heap.size) (hKK : KK G B s) (hDc : DcI s) (hscB : sc0 < B) (hbl : sc0 < s.heap.size) (hX : va_X sc0 6 fs s s.heap) (L1218 : ∀ (μ9 : mp) (H : Heap) (locs : List Loc), mw G.1 vwCl B μ9 H → va_S (fun q => B ≤ q) s.heap H locs → ∀ ls : Array Slot, lv_has ls 8 [(4, .int (nI 0)), (3, .ref ou), (2, .ref md), (1, .ref d), (0, .ref sc0)] → W p l e room_1 s m args below meth c H locs 138 15799 Q (F0 m 1218 ls [])) (hD : DK G μ d aS aL aR aT aO bn nn s9 lo 0 nf sa la bE F g w9 fS fL fR fT sp fO) (hFS : FS F bE g) (hou : μ ou = some (.inl (G.2 0, 1, .inr (.inl fo)))) (hap : Apt d aO s9 lo sa la sp ou) (hmd : μ md = some (.inr (7, [.int (nI 0), .ref ab, .ref av, .int (nI 0), .ref c1, .ref c2, .ref c3, .ref c4, .ref c5, .ref c6, .ref c7, .ref c8, .ref c9]))) (hab : μ ab = some (.inl (G.2 0, 3744, .inr (.inl f)))) (hav : μ av = some (.inl (G.2 2, 26, .inl v))) (hNM : NM f v) (hc1 : μ c1 = some (.inl (G.2 1, 20, .inl i1))) (hc2 : μ c2 = some (.inl (G.2 1, 20, .inl i2))) (hc3 : μ c3 = some (.inl (G.2 1, 20, .inl i3))) (hc4 : μ c4 = some (.inl (G.2 1, 20, .inl i4))) (hc5 : μ c5 = some (.inl (G.2 1, 20, .inl i5))) (hc6 : μ c6 = some (.inl (G.2 1, 20, .inl i6))) (n12 : c1 ≠ c2) (n13 : c1 ≠ c3) (n14 : c1 ≠ c4) (n15 : c1 ≠ c5) (n16 : c1 ≠ c6) (n23 : c2 ≠ c3) (n24 : c2 ≠ c4) (n25 : c2 ≠ c5) (n26 : c2 ≠ c6) (n34 : c3 ≠ c4) (n35 : c3 ≠ c5) (n36 : c3 ≠ c6) (n45 : c4 ≠ c5) (n46 : c4 ≠ c6) (n56 : c5 ≠ c6) (ap_md : Apt d aO s9 lo sa la sp md) (ap_ab : Apt d aO s9 lo sa la sp ab) (ap_av : Apt d aO s9 lo sa la sp av) (ap_c1 : Apt d aO s9 lo sa la sp c1) (ap_c2 : Apt d aO s9 lo sa la sp c2) (ap_c3 : Apt d aO s9 lo sa la sp c3) (ap_c4 : Apt d aO s9 lo sa la sp c4) (ap_c5 : Apt d aO s9 lo sa la sp c5) (ap_c6 : Apt d aO s9 lo sa la sp c6) (H : Heap) (locs : List Loc) (hP : mw G.1 vwCl B μ H) (hS : va_S (fun q => B ≤ q) s.heap H locs) (ls : Array Slot) (hl : lv_has ls 8 [(4, .int (nI 0)), (3, .ref ou), (2, .ref md), (1, .ref d), (0, .ref sc0)]) : W p l e room_1 s m args below meth c H locs 103 8067 Q (F0 m 1087 ls []) := by
  have hK := hKK.k
  refine lv_aload_n hx hb dL_law_1087 rfl (lv_at hl 3 rfl) ?_
  refine lv_aload_n hx hb dL_law_1088 rfl (lv_at hl 4 rfl) ?_
  refine lv_iload hx hb dL_law_1089 (lv_at hl 0 rfl) ?_
  refine lv_iconst (v := nI 1) hx hb dL_law_1091 (by decide) ?_
  refine nv_iadd hx hb dL_law_1092 ?_
  refine sc_iald (i := 1) hx hb hX hbl hscB hS (by omega) (by omega) dL_law_1093 ?_
  refine lv_aload_n hx hb dL_law_1094 rfl (lv_at hl 1 rfl) ?_
  refine kx_i (vx_runSX (As := [.ref d, .int (fs 1), .ref ou]) (rest := []) ⟨hx, hb, hml, hown, hts⟩ (c_L_run l hlt G B (μ) d aS aL aR aT aO bn nn s9 lo nf sa la bE F g w9 fS fL fR fT sp fO (fs 1) ou fo hD hFS hou hap) (vx_cwSW 3 hts gL_law_L_run rfl rfl rfl (by decide +kernel) ⟨Nat.le_of_ble_eq_true rfl, Nat.le_of_ble_eq_true rfl⟩) ⟨KX.blind, fun U9 hU9 hW9 => ⟨rfl, KW.pre hBs hKK hS hP U9 hU9 hW9, hDc.at hW9⟩⟩ rfl rfl hl.1 rfl (lv_room (Nat.le_of_ble_eq_true rfl)) dL_law_1095 ⟨(Nat.le_of_ble_eq_true rfl), (Nat.le_of_ble_eq_true rfl)⟩) hS (fun E ce q9 H locs hce hP hS h91 h92 h93 => ?_) (fun r1095 m1095 H locs hq9 hP hz9 hS => ?_)
  · exact False.elim hce
  obtain ⟨hfr, fo9, hou9, hcase⟩ := hq9
  have hg_md := hfr md _ (hmd) (mp_ne hmd hou (by simp)) ap_md
  have hg_ab := hfr ab _ (hab) (mp_ne hab hou (by simp)) ap_ab
  have hg_av := hfr av _ (hav) (mp_ne hav hou (by simp)) ap_av
  have hg_c1 := hfr c1 _ (hc1) (mp_ne hc1 hou (by simp)) ap_c1
  have hg_c2 := hfr c2 _ (hc2) (mp_ne hc2 hou (by simp)) ap_c2
  have hg_c3 := hfr c3 _ (hc3) (mp_ne hc3 hou (by simp)) ap_c3
  have hg_c4 := hfr c4 _ (hc4) (mp_ne hc4 hou (by simp)) ap_c4
  have hg_c5 := hfr c5 _ (hc5) (mp_ne hc5 hou (by simp)) ap_c5
  have hg_c6 := hfr c6 _ (hc6) (mp_ne hc6 hou (by simp)) ap_c6
  refine lv_istore (lv' := [(5, .int r1095), (4, .int (nI 0)), (3, .ref ou), (2, .ref md), (1, .ref d), (0, .ref sc0)]) hx hb dL_law_1098 hl (by decide) rfl (fun ls hl => ?_)
  refine lv_aload_n hx hb dL_law_1100 rfl (lv_at hl 3 rfl) ?_
  refine lv_aload_n hx hb dL_law_1101 rfl (lv_at hl 5 rfl) ?_
  refine lv_iload hx hb dL_law_1102 (lv_at hl 1 rfl) ?_
  refine lv_iconst (v := nI 1) hx hb dL_law_1104 (by decide) ?_
  refine nv_iadd hx hb dL_law_1105 ?_
  refine sc_iald (i := 1) hx hb hX hbl hscB hS (by omega) (by omega) dL_law_1106 ?_
  refine kc_i (va_runV (As := [.int (fs 1)]) (rest := []) ⟨hx, hb, hml, hown, hts⟩ (c_X7_run l G B (m1095) md ab av c1 c2 c3 c4 c5 c6 c7 c8 c9 0 0 f v (fs 1) (hg_md) (hg_ab) (hg_av) hNM rfl) (cwV 1 hts gL_law_X7_run rfl rfl rfl (by decide +kernel) ⟨Nat.le_of_ble_eq_true rfl, Nat.le_of_ble_eq_true rfl⟩) ⟨KW.blind, hP.recv hK rfl (hg_md), fun U9 hU9 hW9 => ⟨rfl, KW.pre hBs hKK hS hP U9 hU9 hW9⟩⟩ rfl rfl hl.1 rfl (lv_room (Nat.le_of_ble_eq_true rfl)) dL_law_1107 ⟨(Nat.le_of_ble_eq_true rfl), (Nat.le_of_ble_eq_true rfl)⟩) hS (fun r1107 m1107 H locs hq9 hP hz9 hS => ?_)
  obtain ⟨fl9, g9, w9, he9, hm9⟩ := hq9
  rw [he9] at hP
  rcases hcase with ⟨hr9, hok, hv9⟩ | ⟨hr9, hno⟩
  · rcases hm9 with ⟨hf9, hok2, hb9⟩ | ⟨hf9, hno2⟩
    · subst hf9
      obtain rfl : r1095 = nI 0 := hr9
      obtain rfl : r1107 = nI 1 := hb9
      refine lv_istore (lv' := [(6, .int (nI 1)), (5, .int (nI 0)), (4, .int (nI 0)), (3, .ref ou), (2, .ref md), (1, .ref d), (0, .ref sc0)]) hx hb dL_law_1110 hl (by decide) rfl (fun ls hl => ?_)
      refine lv_aload_n hx hb dL_law_1112 rfl (lv_at hl 4 rfl) ?_
      refine kc_i (va_runV (As := []) (rest := []) ⟨hx, hb, hml, hown, hts⟩ (c_X7_thrown l G B (mu (mu (mu m1095 md (.inr (7, [.int (nI 0), .ref ab, .ref av, .int (nI 0), .ref c1, .ref c2, .ref c3, .ref c4, .ref c5, .ref c6, .ref c7, .ref c8, .ref c9]))) ab (.inl (G.2 0, 3744, .inr (.inl g9)))) av (.inl (G.2 2, 26, .inl w9))) md ab av c1 c2 c3 c4 c5 c6 c7 c8 c9 0 0 g9 w9 ((mu_n ((mp_ne hg_md hg_av (by simp)))).trans ((mu_n ((mp_ne hg_md hg_ab (by simp)))).trans (mu_s _ _ _))) ((mu_n ((mp_ne hg_ab hg_av (by simp)))).trans (mu_s _ _ _)) (mu_s _ _ _)) (cwV 0 hts gL_law_X7_thrown rfl rfl rfl (by decide +kernel) ⟨Nat.le_of_ble_eq_true rfl, Nat.le_of_ble_eq_true rfl⟩) ⟨KW.blind, hP.recv hK rfl ((mu_n ((mp_ne hg_md hg_av (by simp)))).trans ((mu_n ((mp_ne hg_md hg_ab (by simp)))).trans (mu_s _ _ _))), fun U9 hU9 hW9 => ⟨rfl, KW.pre hBs hKK hS hP U9 hU9 hW9⟩⟩ rfl rfl hl.1 rfl (lv_room (Nat.le_of_ble_eq_true rfl)) dL_law_1113 ⟨(Nat.le_of_ble_eq_true rfl), (Nat.le_of_ble_eq_true rfl)⟩) hS (fun r1113 m1113 H locs hq9 hP hz9 hS => ?_)
      obtain ⟨he8, hr8⟩ := hq9
      rw [he8] at hP
      obtain rfl : r1113 = nI 0 := hr8
      refine lv_iload hx hb dL_law_1116 (lv_at hl 1 rfl) ?_
      refine nv_icmp_eq (tgt := 1123) hx hb (by omega) (by omega) dL_law_1118 (by decide) (fun hc1118 => ?_) (fun hc1118 => ?_)
      · refine lv_iload hx hb dL_law_1123 (lv_at hl 1 rfl) ?_
        refine lv_if_ne (tgt := 1140) hx hb dL_law_1125 (by decide) (fun hc1125 => ?_) (fun hc1125 => ?_)
        · exact absurd rfl hc1125
        · refine lv_aload_n hx hb dL_law_1128 rfl (lv_at hl 3 rfl) ?_
          refine lv_iconst (v := nI 0) hx hb dL_law_1129 (by decide) ?_
          refine mw_lald hx hb hK hP 0 ((mu_n ((mp_ne hou9 hg_av (by simp)))).trans ((mu_n ((mp_ne hou9 hg_ab (by simp)))).trans ((mu_n ((mp_ne hou9 hg_md (by simp)))).trans (hou9)))) rfl (by omega) (by omega) dL_law_1130 ?_
          refine lv_iload hx hb dL_law_1131 (lv_at hl 0 rfl) ?_
          refine lv_i2l (v := (nI 1).toInt64) hx hb dL_law_1133 rfl ?_
          refine nl_if_eq (tgt := 1140) hx hb dL_law_1134 dL_law_1135 (by decide) (fun hc1134 => ?_) (fun hc1134 => ?_)
          · refine lv_goto (tgt := 1218) hx hb dL_law_1140 (by decide) ?_
            refine W.widen (k := 138) (n := 15799) (by omega) (by omega) ?_
            exact L1218 (mu (mu (mu m1095 md (.inr (7, [.int (nI 0), .ref ab, .ref av, .int (nI 0), .ref c1, .ref c2, .ref c3, .ref c4, .ref c5, .ref c6, .ref c7, .ref c8, .ref c9]))) ab (.inl (G.2 0, 3744, .inr (.inl g9)))) av (.inl (G.2 2, 26, .inl w9)))  _ _ hP hS ls (lv_sub hl [2, 3, 4, 5, 6] rfl)
          · exact absurd (hv9.trans (by first | rfl | decide | (subst_vars; decide))) hc1134
      · exfalso; omega
    · exact absurd hok hno2
  · rcases hm9 with ⟨hf9, hok2, hb9⟩ | ⟨hf9, hno2⟩
    · exact absurd hok2 hno
    · subst hf9
      obtain rfl : r1095 = nI 1 := hr9
      refine lv_istore (lv' := [(6, .int r1107), (5, .int (nI 1)), (4, .int (nI 0)), (3, .ref ou), (2, .ref md), (1, .ref d), (0, .ref sc0)]) hx hb dL_law_1110 hl (by decide) rfl (fun ls hl => ?_)
      refine lv_aload_n hx hb dL_law_1112 rfl (lv_at hl 4 rfl) ?_
      refine kc_i (va_runV (As := []) (rest := []) ⟨hx, hb, hml, hown, hts⟩ (c_X7_thrown l G B (mu (mu (mu m1095 md (.inr (7, [.int (nI 1), .ref ab, .ref av, .int (nI 0), .ref c1, .ref c2, .ref c3, .ref c4, .ref c5, .ref c6, .ref c7, .ref c8, .ref c9]))) ab (.inl (G.2 0, 3744, .inr (.inl g9)))) av (.inl (G.2 2, 26, .inl w9))) md ab av c1 c2 c3 c4 c5 c6 c7 c8 c9 1 0 g9 w9 ((mu_n ((mp_ne hg_md hg_av (by simp)))).trans ((mu_n ((mp_ne hg_md hg_ab (by simp)))).trans (mu_s _ _ _))) ((mu_n ((mp_ne hg_ab hg_av (by simp)))).trans (mu_s _ _ _)) (mu_s _ _ _)) (cwV 0 hts gL_law_X7_thrown rfl rfl rfl (by decide +kernel) ⟨Nat.le_of_ble_eq_true rfl, Nat.le_of_ble_eq_true rfl⟩) ⟨KW.blind, hP.recv hK rfl ((mu_n ((mp_ne hg_md hg_av (by simp)))).trans ((mu_n ((mp_ne hg_md hg_ab (by simp)))).trans (mu_s _ _ _))), fun U9 hU9 hW9 => ⟨rfl, KW.pre hBs hKK hS hP U9 hU9 hW9⟩⟩ rfl rfl hl.1 rfl (lv_room (Nat.le_of_ble_eq_true rfl)) dL_law_1113 ⟨(Nat.le_of_ble_eq_true rfl), (Nat.le_of_ble_eq_true rfl)⟩) hS (fun r1113 m1113 H locs hq9 hP hz9 hS => ?_)
      obtain ⟨he8, hr8⟩ := hq9
      rw [he8] at hP
      obtain rfl : r1113 = nI 1 := hr8
      refine lv_iload hx hb dL_law_1116 (lv_at hl 1 rfl) ?_
      refine nv_icmp_eq (tgt := 1123) hx hb (by omega) (by omega) dL_law_1118 (by decide) (fun hc1118 => ?_) (fun hc1118 => ?_)
      · refine lv_iload hx hb dL_law_1123 (lv_at hl 1 rfl) ?_
        refine lv_if_ne (tgt := 1140) hx hb dL_law_1125 (by decide) (fun hc1125 => ?_) (fun hc1125 => ?_)
        · refine lv_goto (tgt := 1218) hx hb dL_law_1140 (by decide) ?_
          refine W.widen (k := 138) (n := 15799) (by omega) (by omega) ?_
          exact L1218 (mu (mu (mu m1095 md (.inr (7, [.int (nI 1), .ref ab, .ref av, .int (nI 0), .ref c1, .ref c2, .ref c3, .ref c4, .ref c5, .ref c6, .ref c7, .ref c8, .ref c9]))) ab (.inl (G.2 0, 3744, .inr (.inl g9)))) av (.inl (G.2 2, 26, .inl w9)))  _ _ hP hS ls (lv_sub hl [2, 3, 4, 5, 6] rfl)
        · exact absurd hc1125 (by decide)
      · exfalso; omega

set_option maxHeartbeats 4000000 in
set_option maxRecDepth 100000 in
theorem lw_k16 (l : Launch) (hlt : l.stackTraces = false) (G : GG) (B : Nat) (sc0 : Nat) (fs : Nat → Int32) {p : Program} {e : Env} {s : State} {m : MethodId} {args : Array Value} {below : List Frame} {meth : Method} {c : Code} {Q : State → Prop} (μ : mp) (d aS aL aR aT aO bn nn s9 lo : Nat) (nf : List Value) (sa la bE : Nat → Nat) (F : Nat → Nat → Int64) (g : Nat → Int64) (w9 : Nat → Int32) (fS fL fR fT : Nat → Option Nat) (sp : Nat → Nat) (fO : Nat → Int64) (ou : Nat) (fo : Nat → Int64) (md ab av c1 c2 c3 c4 c5 c6 c7 c8 c9 : Nat) (f : Nat → Int64) (v : Nat → Int32) (i1 i2 i3 i4 i5 i6 : Nat → Int32) (hx : p.tables.exec = Jvm.exec) (hb : c.code = cL_law) (hml : c.maxLocals = 8) (hown : s.vm.findClass RL = some m.cls) (hts : ∀ w ∈ wsL_law, w.before args s = true) (hBs : B ≤ s.heap.size) (hKK : KK G B s) (hDc : DcI s) (hscB : sc0 < B) (hbl : sc0 < s.heap.size) (hX : va_X sc0 6 fs s s.heap) (L1218 : ∀ (μ9 : mp) (H : Heap) (locs : List Loc), mw G.1 vwCl B μ9 H → va_S (fun q => B ≤ q) s.heap H locs → ∀ ls : Array Slot, lv_has ls 8 [(4, .int (nI 0)), (3, .ref ou), (2, .ref md), (1, .ref d), (0, .ref sc0)] → W p l e room_1 s m args below meth c H locs 138 15799 Q (F0 m 1218 ls [])) (hD : DK G μ d aS aL aR aT aO bn nn s9 lo 0 nf sa la bE F g w9 fS fL fR fT sp fO) (hFS : FS F bE g) (hou : μ ou = some (.inl (G.2 0, 1, .inr (.inl fo)))) (hap : Apt d aO s9 lo sa la sp ou) (hmd : μ md = some (.inr (7, [.int (nI 0), .ref ab, .ref av, .int (nI 0), .ref c1, .ref c2, .ref c3, .ref c4, .ref c5, .ref c6, .ref c7, .ref c8, .ref c9]))) (hab : μ ab = some (.inl (G.2 0, 3744, .inr (.inl f)))) (hav : μ av = some (.inl (G.2 2, 26, .inl v))) (hNM : NM f v) (hc1 : μ c1 = some (.inl (G.2 1, 20, .inl i1))) (hc2 : μ c2 = some (.inl (G.2 1, 20, .inl i2))) (hc3 : μ c3 = some (.inl (G.2 1, 20, .inl i3))) (hc4 : μ c4 = some (.inl (G.2 1, 20, .inl i4))) (hc5 : μ c5 = some (.inl (G.2 1, 20, .inl i5))) (hc6 : μ c6 = some (.inl (G.2 1, 20, .inl i6))) (n12 : c1 ≠ c2) (n13 : c1 ≠ c3) (n14 : c1 ≠ c4) (n15 : c1 ≠ c5) (n16 : c1 ≠ c6) (n23 : c2 ≠ c3) (n24 : c2 ≠ c4) (n25 : c2 ≠ c5) (n26 : c2 ≠ c6) (n34 : c3 ≠ c4) (n35 : c3 ≠ c5) (n36 : c3 ≠ c6) (n45 : c4 ≠ c5) (n46 : c4 ≠ c6) (n56 : c5 ≠ c6) (ap_md : Apt d aO s9 lo sa la sp md) (ap_ab : Apt d aO s9 lo sa la sp ab) (ap_av : Apt d aO s9 lo sa la sp av) (ap_c1 : Apt d aO s9 lo sa la sp c1) (ap_c2 : Apt d aO s9 lo sa la sp c2) (ap_c3 : Apt d aO s9 lo sa la sp c3) (ap_c4 : Apt d aO s9 lo sa la sp c4) (ap_c5 : Apt d aO s9 lo sa la sp c5) (ap_c6 : Apt d aO s9 lo sa la sp c6) (H : Heap) (locs : List Loc) (hP : mw G.1 vwCl B μ H) (hS : va_S (fun q => B ≤ q) s.heap H locs) (ls : Array Slot) (hl : lv_has ls 8 [(4, .int (nI 0)), (3, .ref ou), (2, .ref md), (1, .ref d), (0, .ref sc0)]) : W p l e room_1 s m args below meth c H locs 103 8067 Q (F0 m 1143 ls []) := by
  have hK := hKK.k
  refine lv_aload_n hx hb dL_law_1143 rfl (lv_at hl 3 rfl) ?_
  refine lv_aload_n hx hb dL_law_1144 rfl (lv_at hl 4 rfl) ?_
  refine lv_iload hx hb dL_law_1145 (lv_at hl 0 rfl) ?_
  refine lv_iconst (v := nI 1) hx hb dL_law_1147 (by decide) ?_
  refine nv_iadd hx hb dL_law_1148 ?_
  refine sc_iald (i := 1) hx hb hX hbl hscB hS (by omega) (by omega) dL_law_1149 ?_
  refine lv_aload_n hx hb dL_law_1150 rfl (lv_at hl 4 rfl) ?_
  refine lv_iload hx hb dL_law_1151 (lv_at hl 0 rfl) ?_
  refine lv_iconst (v := nI 2) hx hb dL_law_1153 (by decide) ?_
  refine nv_iadd hx hb dL_law_1154 ?_
  refine sc_iald (i := 2) hx hb hX hbl hscB hS (by omega) (by omega) dL_law_1155 ?_
  refine lv_aload_n hx hb dL_law_1156 rfl (lv_at hl 1 rfl) ?_
  refine kx_i (vx_runSX (As := [.ref d, .int (fs 1), .int (fs 2), .ref ou]) (rest := []) ⟨hx, hb, hml, hown, hts⟩ (c_L_take l hlt G B (μ) d aS aL aR aT aO bn nn s9 lo nf sa la bE F g w9 fS fL fR fT sp fO (fs 1) (fs 2) ou fo hD hFS hou hap) (vx_cwSW 4 hts gL_law_L_take rfl rfl rfl (by decide +kernel) ⟨Nat.le_of_ble_eq_true rfl, Nat.le_of_ble_eq_true rfl⟩) ⟨KX.blind, fun U9 hU9 hW9 => ⟨rfl, KW.pre hBs hKK hS hP U9 hU9 hW9, hDc.at hW9⟩⟩ rfl rfl hl.1 rfl (lv_room (Nat.le_of_ble_eq_true rfl)) dL_law_1157 ⟨(Nat.le_of_ble_eq_true rfl), (Nat.le_of_ble_eq_true rfl)⟩) hS (fun E ce q9 H locs hce hP hS h91 h92 h93 => ?_) (fun r1157 m1157 H locs hq9 hP hz9 hS => ?_)
  · exact False.elim hce
  obtain ⟨hfr, fo9, hou9, hcase⟩ := hq9
  have hg_md := hfr md _ (hmd) (mp_ne hmd hou (by simp)) ap_md
  have hg_ab := hfr ab _ (hab) (mp_ne hab hou (by simp)) ap_ab
  have hg_av := hfr av _ (hav) (mp_ne hav hou (by simp)) ap_av
  have hg_c1 := hfr c1 _ (hc1) (mp_ne hc1 hou (by simp)) ap_c1
  have hg_c2 := hfr c2 _ (hc2) (mp_ne hc2 hou (by simp)) ap_c2
  have hg_c3 := hfr c3 _ (hc3) (mp_ne hc3 hou (by simp)) ap_c3
  have hg_c4 := hfr c4 _ (hc4) (mp_ne hc4 hou (by simp)) ap_c4
  have hg_c5 := hfr c5 _ (hc5) (mp_ne hc5 hou (by simp)) ap_c5
  have hg_c6 := hfr c6 _ (hc6) (mp_ne hc6 hou (by simp)) ap_c6
  refine lv_istore (lv' := [(5, .int r1157), (4, .int (nI 0)), (3, .ref ou), (2, .ref md), (1, .ref d), (0, .ref sc0)]) hx hb dL_law_1160 hl (by decide) rfl (fun ls hl => ?_)
  refine lv_aload_n hx hb dL_law_1162 rfl (lv_at hl 3 rfl) ?_
  refine lv_aload_n hx hb dL_law_1163 rfl (lv_at hl 5 rfl) ?_
  refine lv_iload hx hb dL_law_1164 (lv_at hl 1 rfl) ?_
  refine lv_iconst (v := nI 1) hx hb dL_law_1166 (by decide) ?_
  refine nv_iadd hx hb dL_law_1167 ?_
  refine sc_iald (i := 1) hx hb hX hbl hscB hS (by omega) (by omega) dL_law_1168 ?_
  refine lv_aload_n hx hb dL_law_1169 rfl (lv_at hl 5 rfl) ?_
  refine lv_iload hx hb dL_law_1170 (lv_at hl 1 rfl) ?_
  refine lv_iconst (v := nI 2) hx hb dL_law_1172 (by decide) ?_
  refine nv_iadd hx hb dL_law_1173 ?_
  refine sc_iald (i := 2) hx hb hX hbl hscB hS (by omega) (by omega) dL_law_1174 ?_
  refine kc_i (va_runV (As := [.int (fs 1), .int (fs 2)]) (rest := []) ⟨hx, hb, hml, hown, hts⟩ (c_X7_take l G B (m1157) md ab av c1 c2 c3 c4 c5 c6 c7 c8 c9 0 0 f v (fs 1) (fs 2) (hg_md) (hg_ab) (hg_av) hNM) (cwV 2 hts gL_law_X7_take rfl rfl rfl (by decide +kernel) ⟨Nat.le_of_ble_eq_true rfl, Nat.le_of_ble_eq_true rfl⟩) ⟨KW.blind, hP.recv hK rfl (hg_md), fun U9 hU9 hW9 => ⟨rfl, KW.pre hBs hKK hS hP U9 hU9 hW9⟩⟩ rfl rfl hl.1 rfl (lv_room (Nat.le_of_ble_eq_true rfl)) dL_law_1175 ⟨(Nat.le_of_ble_eq_true rfl), (Nat.le_of_ble_eq_true rfl)⟩) hS (fun r1175 m1175 H locs hq9 hP hz9 hS => ?_)
  obtain ⟨fl9, g9, w9, he9, hm9⟩ := hq9
  rw [he9] at hP
  rcases hcase with ⟨hr9, hok, hv9⟩ | ⟨hr9, hno⟩
  · rcases hm9 with ⟨hf9, hok2, hb9⟩ | ⟨hf9, hno2⟩
    · subst hf9
      obtain rfl : r1157 = nI 0 := hr9
      obtain rfl : r1175 = nI 0 := hb9
      refine lv_istore (lv' := [(6, .int (nI 0)), (5, .int (nI 0)), (4, .int (nI 0)), (3, .ref ou), (2, .ref md), (1, .ref d), (0, .ref sc0)]) hx hb dL_law_1178 hl (by decide) rfl (fun ls hl => ?_)
      refine lv_aload_n hx hb dL_law_1180 rfl (lv_at hl 4 rfl) ?_
      refine kc_i (va_runV (As := []) (rest := []) ⟨hx, hb, hml, hown, hts⟩ (c_X7_thrown l G B (mu (mu (mu m1157 md (.inr (7, [.int (nI 0), .ref ab, .ref av, .int (nI 0), .ref c1, .ref c2, .ref c3, .ref c4, .ref c5, .ref c6, .ref c7, .ref c8, .ref c9]))) ab (.inl (G.2 0, 3744, .inr (.inl g9)))) av (.inl (G.2 2, 26, .inl w9))) md ab av c1 c2 c3 c4 c5 c6 c7 c8 c9 0 0 g9 w9 ((mu_n ((mp_ne hg_md hg_av (by simp)))).trans ((mu_n ((mp_ne hg_md hg_ab (by simp)))).trans (mu_s _ _ _))) ((mu_n ((mp_ne hg_ab hg_av (by simp)))).trans (mu_s _ _ _)) (mu_s _ _ _)) (cwV 0 hts gL_law_X7_thrown rfl rfl rfl (by decide +kernel) ⟨Nat.le_of_ble_eq_true rfl, Nat.le_of_ble_eq_true rfl⟩) ⟨KW.blind, hP.recv hK rfl ((mu_n ((mp_ne hg_md hg_av (by simp)))).trans ((mu_n ((mp_ne hg_md hg_ab (by simp)))).trans (mu_s _ _ _))), fun U9 hU9 hW9 => ⟨rfl, KW.pre hBs hKK hS hP U9 hU9 hW9⟩⟩ rfl rfl hl.1 rfl (lv_room (Nat.le_of_ble_eq_true rfl)) dL_law_1181 ⟨(Nat.le_of_ble_eq_true rfl), (Nat.le_of_ble_eq_true rfl)⟩) hS (fun r1181 m1181 H locs hq9 hP hz9 hS => ?_)
      obtain ⟨he8, hr8⟩ := hq9
      rw [he8] at hP
      obtain rfl : r1181 = nI 0 := hr8
      refine lv_iload hx hb dL_law_1184 (lv_at hl 1 rfl) ?_
      refine nv_icmp_eq (tgt := 1191) hx hb (by omega) (by omega) dL_law_1186 (by decide) (fun hc1186 => ?_) (fun hc1186 => ?_)
      · refine lv_iload hx hb dL_law_1191 (lv_at hl 1 rfl) ?_
        refine lv_if_ne (tgt := 1215) hx hb dL_law_1193 (by decide) (fun hc1193 => ?_) (fun hc1193 => ?_)
        · exact absurd rfl hc1193
        · refine lv_aload_n hx hb dL_law_1196 rfl (lv_at hl 3 rfl) ?_
          refine lv_iconst (v := nI 0) hx hb dL_law_1197 (by decide) ?_
          refine mw_lald hx hb hK hP 0 ((mu_n ((mp_ne hou9 hg_av (by simp)))).trans ((mu_n ((mp_ne hou9 hg_ab (by simp)))).trans ((mu_n ((mp_ne hou9 hg_md (by simp)))).trans (hou9)))) rfl (by omega) (by omega) dL_law_1198 ?_
          refine lv_iload hx hb dL_law_1199 (lv_at hl 0 rfl) ?_
          refine lv_if_eq (tgt := 1208) hx hb dL_law_1201 (by decide) (fun hc1201 => ?_) (fun hc1201 => ?_)
          · refine lv_lconst (v := 0) hx hb dL_law_1208 (by decide) ?_
            refine nl_if_eq (tgt := 1215) hx hb dL_law_1209 dL_law_1210 (by decide) (fun hc1209 => ?_) (fun hc1209 => ?_)
            · refine lv_goto (tgt := 1218) hx hb dL_law_1215 (by decide) ?_
              refine W.widen (k := 138) (n := 15799) (by omega) (by omega) ?_
              exact L1218 (mu (mu (mu m1157 md (.inr (7, [.int (nI 0), .ref ab, .ref av, .int (nI 0), .ref c1, .ref c2, .ref c3, .ref c4, .ref c5, .ref c6, .ref c7, .ref c8, .ref c9]))) ab (.inl (G.2 0, 3744, .inr (.inl g9)))) av (.inl (G.2 2, 26, .inl w9)))  _ _ hP hS ls (lv_sub hl [2, 3, 4, 5, 6] rfl)
            · exact absurd (hv9.trans (by first | rfl | decide | (subst_vars; decide))) hc1209
          · exact absurd rfl hc1201
      · exfalso; omega
    · exact absurd hok hno2
  · rcases hm9 with ⟨hf9, hok2, hb9⟩ | ⟨hf9, hno2⟩
    · exact absurd hok2 hno
    · subst hf9
      obtain rfl : r1157 = nI 1 := hr9
      refine lv_istore (lv' := [(6, .int r1175), (5, .int (nI 1)), (4, .int (nI 0)), (3, .ref ou), (2, .ref md), (1, .ref d), (0, .ref sc0)]) hx hb dL_law_1178 hl (by decide) rfl (fun ls hl => ?_)
      refine lv_aload_n hx hb dL_law_1180 rfl (lv_at hl 4 rfl) ?_
      refine kc_i (va_runV (As := []) (rest := []) ⟨hx, hb, hml, hown, hts⟩ (c_X7_thrown l G B (mu (mu (mu m1157 md (.inr (7, [.int (nI 1), .ref ab, .ref av, .int (nI 0), .ref c1, .ref c2, .ref c3, .ref c4, .ref c5, .ref c6, .ref c7, .ref c8, .ref c9]))) ab (.inl (G.2 0, 3744, .inr (.inl g9)))) av (.inl (G.2 2, 26, .inl w9))) md ab av c1 c2 c3 c4 c5 c6 c7 c8 c9 1 0 g9 w9 ((mu_n ((mp_ne hg_md hg_av (by simp)))).trans ((mu_n ((mp_ne hg_md hg_ab (by simp)))).trans (mu_s _ _ _))) ((mu_n ((mp_ne hg_ab hg_av (by simp)))).trans (mu_s _ _ _)) (mu_s _ _ _)) (cwV 0 hts gL_law_X7_thrown rfl rfl rfl (by decide +kernel) ⟨Nat.le_of_ble_eq_true rfl, Nat.le_of_ble_eq_true rfl⟩) ⟨KW.blind, hP.recv hK rfl ((mu_n ((mp_ne hg_md hg_av (by simp)))).trans ((mu_n ((mp_ne hg_md hg_ab (by simp)))).trans (mu_s _ _ _))), fun U9 hU9 hW9 => ⟨rfl, KW.pre hBs hKK hS hP U9 hU9 hW9⟩⟩ rfl rfl hl.1 rfl (lv_room (Nat.le_of_ble_eq_true rfl)) dL_law_1181 ⟨(Nat.le_of_ble_eq_true rfl), (Nat.le_of_ble_eq_true rfl)⟩) hS (fun r1181 m1181 H locs hq9 hP hz9 hS => ?_)
      obtain ⟨he8, hr8⟩ := hq9
      rw [he8] at hP
      obtain rfl : r1181 = nI 1 := hr8
      refine lv_iload hx hb dL_law_1184 (lv_at hl 1 rfl) ?_
      refine nv_icmp_eq (tgt := 1191) hx hb (by omega) (by omega) dL_law_1186 (by decide) (fun hc1186 => ?_) (fun hc1186 => ?_)
      · refine lv_iload hx hb dL_law_1191 (lv_at hl 1 rfl) ?_
        refine lv_if_ne (tgt := 1215) hx hb dL_law_1193 (by decide) (fun hc1193 => ?_) (fun hc1193 => ?_)
        · refine lv_goto (tgt := 1218) hx hb dL_law_1215 (by decide) ?_
          refine W.widen (k := 138) (n := 15799) (by omega) (by omega) ?_
          exact L1218 (mu (mu (mu m1157 md (.inr (7, [.int (nI 1), .ref ab, .ref av, .int (nI 0), .ref c1, .ref c2, .ref c3, .ref c4, .ref c5, .ref c6, .ref c7, .ref c8, .ref c9]))) ab (.inl (G.2 0, 3744, .inr (.inl g9)))) av (.inl (G.2 2, 26, .inl w9)))  _ _ hP hS ls (lv_sub hl [2, 3, 4, 5, 6] rfl)
        · exact absurd hc1193 (by decide)
      · exfalso; omega
