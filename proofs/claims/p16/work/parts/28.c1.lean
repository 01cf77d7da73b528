set_option maxHeartbeats 4000000 in
set_option maxRecDepth 100000 in
theorem lg_9 (l : Launch) (hlt : l.stackTraces = false) (G : GG) (B : Nat) (sc0 : Nat) (fs : Nat → Int32) (n9 : Nat) {p : Program} {e : Env} {s : State} {m : MethodId} {args : Array Value} {below : List Frame} {meth : Method} {c : Code} {Q : State → Prop} (d md ou ab av c1 c2 c3 c4 c5 c6 c7 c8 c9 k sc j : Nat) (μ : mp) (D : Nat → Prop) (hx : p.tables.exec = Jvm.exec) (hb : c.code = cL_law) (hml : c.maxLocals = 8) (hown : s.vm.findClass RL = some m.cls) (hts : ∀ w ∈ wsL_law, w.before args s = true) (hBs : B ≤ s.heap.size) (hKK : KK G B s) (hDc : DcI s) (hNc : va_Nc exS exA s) (hscB : sc0 < B) (hbl : sc0 < s.heap.size) (hX : va_X sc0 n9 fs s s.heap) (hn9 : n9 ≤ 3072) (hj : 6 * j + 6 ≤ n9) (LN : ∀ (μ9 : mp) (k9 sc9 : Nat) (D9 : Nat → Prop) (_ : LI G μ9 d md ou ab av c1 c2 c3 c4 c5 c6 c7 c8 c9 k9 sc9 D9) (H : Heap) (locs : List Loc), mw G.1 vwCl B μ9 H → va_S (fun q => B ≤ q) s.heap H locs → ∀ ls : Array Slot, lv_has ls 8 [(4, .int (nI (6 * j))), (3, .ref ou), (2, .ref md), (1, .ref d), (0, .ref sc0)] → W p l e room_1 s m args below meth c H locs (108 + 5 * (j + 1) + 23 * k9) (7869 + 30 * (j + 1) + 7268 * k9) Q (F0 m 822 ls [])) (hI : LI G μ d md ou ab av c1 c2 c3 c4 c5 c6 c7 c8 c9 k sc D) (H : Heap) (locs : List Loc) (hP : mw G.1 vwCl B μ H) (hS : va_S (fun q => B ≤ q) s.heap H locs) (ls : Array Slot) (hl : lv_has ls 8 [(4, .int (nI (6 * j))), (3, .ref ou), (2, .ref md), (1, .ref d), (0, .ref sc0)]) : W p l e room_1 s m args below meth c H locs (108 + 5 * j + 23 * k) (7869 + 30 * j + 7268 * k) Q (F0 m 529 ls []) := by
  have hK := hKK.k
  obtain ⟨hG, ⟨fl, hmd⟩, ⟨f, hab, hsy⟩, ⟨v, hav, hvb⟩, ⟨i1, i2, i3, i4, i5, i6, ⟨hc1, hc2, hc3, hc4, hc5, hc6⟩, hSM⟩, ⟨l7, l8, l9, hc7, hc8, hc9⟩, ⟨fo, hou⟩, ⟨hn_md, hn_ou, hn_ab, hn_av, hn_c1, hn_c2, hn_c3, hn_c4, hn_c5, hn_c6, hn_c7, hn_c8, hn_c9⟩, ⟨n12, n13, n14, n15, n16, n23, n24, n25, n26, n34, n35, n36, n45, n46, n56, n78, n79, n89⟩⟩ := hI
  have hst := hG.nD
  have hk5 := hG.kl
  obtain ⟨fsd, hdd⟩ := hG.dd
  refine lv_aload_n hx hb dL_law_529 rfl (lv_at hl 3 rfl) ?_
  refine lv_aload_n hx hb dL_law_530 rfl (lv_at hl 4 rfl) ?_
  refine lv_iload hx hb dL_law_531 (lv_at hl 0 rfl) ?_
  refine lv_iconst (v := nI 1) hx hb dL_law_533 (by decide) ?_
  refine nv_iadd hx hb dL_law_534 ?_
  refine sc_iald (i := (6 * j) + 1) hx hb hX hbl hscB hS (by omega) (by omega) dL_law_535 ?_
  refine lv_aload_n hx hb dL_law_536 rfl (lv_at hl 4 rfl) ?_
  refine lv_iload hx hb dL_law_537 (lv_at hl 0 rfl) ?_
  refine lv_iconst (v := nI 2) hx hb dL_law_539 (by decide) ?_
  refine nv_iadd hx hb dL_law_540 ?_
  refine sc_iald (i := (6 * j) + 2) hx hb hX hbl hscB hS (by omega) (by omega) dL_law_541 ?_
  refine lv_aload_n hx hb dL_law_542 rfl (lv_at hl 1 rfl) ?_
  refine kx_i (vx_runSX (As := [.ref d, .int (fs ((6 * j) + 1)), .int (fs ((6 * j) + 2)), .ref ou]) (rest := []) ⟨hx, hb, hml, hown, hts⟩ (w_L_inside l hlt G B (μ) d k sc D (fs ((6 * j) + 1)) (fs ((6 * j) + 2)) ou fo hG hou hn_ou) (vx_cwSW 4 hts gL_law_L_inside rfl rfl rfl (by decide +kernel) ⟨Nat.le_of_ble_eq_true rfl, Nat.le_of_ble_eq_true rfl⟩) ⟨KXC.blind, fun U9 hU9 hW9 => ⟨rfl, ⟨KW.pre hBs hKK hS hP U9 hU9 hW9, hDc.at hW9⟩, hNc.moved hW9.alike⟩⟩ rfl rfl hl.1 rfl (lv_room (Nat.le_of_ble_eq_true rfl)) dL_law_543 ⟨(Nat.le_trans (m := 601024) (by omega) (Nat.le_refl _)), (Nat.le_trans (m := 7293033) (by omega) (Nat.le_refl _))⟩) hS (fun E ce q9 H locs hce hP hS h91 h92 h93 => ?_) (fun r543 m543 H locs hq9 hP hz9 hS => ?_)
  · exact False.elim hce
  obtain ⟨hG1, hF1, fo9, hou9⟩ := hq9
  have hk6 := hG1.kl
  have hg_md := hF1.1 md _ (hmd) (mp_ne hmd hou (by simp)) hn_md
  have hg_ab := hF1.1 ab _ (hab) (mp_ne hab hou (by simp)) hn_ab
  have hg_av := hF1.1 av _ (hav) (mp_ne hav hou (by simp)) hn_av
  have hg_c1 := hF1.1 c1 _ (hc1) (mp_ne hc1 hou (by simp)) hn_c1
  have hg_c2 := hF1.1 c2 _ (hc2) (mp_ne hc2 hou (by simp)) hn_c2
  have hg_c3 := hF1.1 c3 _ (hc3) (mp_ne hc3 hou (by simp)) hn_c3
  have hg_c4 := hF1.1 c4 _ (hc4) (mp_ne hc4 hou (by simp)) hn_c4
  have hg_c5 := hF1.1 c5 _ (hc5) (mp_ne hc5 hou (by simp)) hn_c5
  have hg_c6 := hF1.1 c6 _ (hc6) (mp_ne hc6 hou (by simp)) hn_c6
  have hg_c7 := hF1.1 c7 _ (hc7) (mp_ne hc7 hou (by simp)) hn_c7
  have hg_c8 := hF1.1 c8 _ (hc8) (mp_ne hc8 hou (by simp)) hn_c8
  have hg_c9 := hF1.1 c9 _ (hc9) (mp_ne hc9 hou (by simp)) hn_c9
  refine lv_istore (lv' := [(5, .int r543), (4, .int (nI (6 * j))), (3, .ref ou), (2, .ref md), (1, .ref d), (0, .ref sc0)]) hx hb dL_law_546 hl (by decide) rfl (fun ls hl => ?_)
  refine lv_aload_n hx hb dL_law_548 rfl (lv_at hl 3 rfl) ?_
  refine lv_aload_n hx hb dL_law_549 rfl (lv_at hl 5 rfl) ?_
  refine lv_iload hx hb dL_law_550 (lv_at hl 1 rfl) ?_
  refine lv_iconst (v := nI 1) hx hb dL_law_552 (by decide) ?_
  refine nv_iadd hx hb dL_law_553 ?_
  refine sc_iald (i := (6 * j) + 1) hx hb hX hbl hscB hS (by omega) (by omega) dL_law_554 ?_
  refine lv_aload_n hx hb dL_law_555 rfl (lv_at hl 5 rfl) ?_
  refine lv_iload hx hb dL_law_556 (lv_at hl 1 rfl) ?_
  refine lv_iconst (v := nI 2) hx hb dL_law_558 (by decide) ?_
  refine nv_iadd hx hb dL_law_559 ?_
  refine sc_iald (i := (6 * j) + 2) hx hb hX hbl hscB hS (by omega) (by omega) dL_law_560 ?_
  refine kc_i (va_runV (As := [.int (fs ((6 * j) + 1)), .int (fs ((6 * j) + 2))]) (rest := []) ⟨hx, hb, hml, hown, hts⟩ (m_X4_inside l G B (m543) md ab av c1 c2 c3 c4 c5 c6 c7 c8 c9 fl sc f v (fs ((6 * j) + 1)) (fs ((6 * j) + 2)) (hg_md) (hg_ab) (hg_av) hsy hvb) (cwV 2 hts gL_law_X4_inside rfl rfl rfl (by decide +kernel) ⟨Nat.le_of_ble_eq_true rfl, Nat.le_of_ble_eq_true rfl⟩) ⟨KW.blind, hP.recv hK rfl (hg_md), fun U9 hU9 hW9 => ⟨rfl, KW.pre hBs hKK hS hP U9 hU9 hW9⟩⟩ rfl rfl hl.1 rfl (lv_room (Nat.le_of_ble_eq_true rfl)) dL_law_561 ⟨(Nat.le_trans (m := 601024) (by omega) (Nat.le_refl _)), (Nat.le_trans (m := 7293033) (by omega) (Nat.le_refl _))⟩) hS (fun r561 m561 H locs hq9 hP hz9 hS => ?_)
  obtain ⟨fl9, g9, w9, he9, ⟨hsy9, hvb9⟩⟩ := hq9
  rw [he9] at hP
  refine lv_istore (lv' := [(6, .int r561), (5, .int r543), (4, .int (nI (6 * j))), (3, .ref ou), (2, .ref md), (1, .ref d), (0, .ref sc0)]) hx hb dL_law_564 hl (by decide) rfl (fun ls hl => ?_)
  refine lv_goto (tgt := 822) hx hb dL_law_566 (by decide) ?_
  refine W.widen (k := 108 + 5 * (j + 1) + 23 * k) (n := 7869 + 30 * (j + 1) + 7268 * k) (by omega) (by omega) ?_
  exact LN (mu (mu (mu m543 md (.inr (4, [.int (nI fl9), .ref ab, .ref av, .int (nI sc), .ref c1, .ref c2, .ref c3, .ref c4, .ref c5, .ref c6, .ref c7, .ref c8, .ref c9]))) ab (.inl (G.2 0, 3744, .inr (.inl g9)))) av (.inl (G.2 2, 26, .inl w9))) k sc (DN2 D μ) (⟨(DG.mux (DG.mux (DG.mux hG1 (hg_md) (DN2.no (hmd) hn_md) (by intro _ _ _ h9; simp at h9)) ((mu_n ((mp_ne hg_ab hg_md (by simp)))).trans (hg_ab)) (DN2.no (hab) hn_ab) (by intro _ _ _ h9; simp at h9)) ((mu_n ((mp_ne hg_av hg_ab (by simp)))).trans ((mu_n ((mp_ne hg_av hg_md (by simp)))).trans (hg_av))) (DN2.no (hav) hn_av) (by intro _ _ _ h9; simp at h9)), ⟨_, ((mu_n ((mp_ne hg_md hg_av (by simp)))).trans ((mu_n ((mp_ne hg_md hg_ab (by simp)))).trans (mu_s _ _ _)))⟩, ⟨_, ((mu_n ((mp_ne hg_ab hg_av (by simp)))).trans (mu_s _ _ _)), hsy9⟩, ⟨_, (mu_s _ _ _), hvb9⟩, ⟨_, _, _, _, _, _, ⟨((mu_n ((mp_ne hg_c1 hg_av (by simp)))).trans ((mu_n ((mp_ne hg_c1 hg_ab (by simp)))).trans ((mu_n ((mp_ne hg_c1 hg_md (by simp)))).trans (hg_c1)))), ((mu_n ((mp_ne hg_c2 hg_av (by simp)))).trans ((mu_n ((mp_ne hg_c2 hg_ab (by simp)))).trans ((mu_n ((mp_ne hg_c2 hg_md (by simp)))).trans (hg_c2)))), ((mu_n ((mp_ne hg_c3 hg_av (by simp)))).trans ((mu_n ((mp_ne hg_c3 hg_ab (by simp)))).trans ((mu_n ((mp_ne hg_c3 hg_md (by simp)))).trans (hg_c3)))), ((mu_n ((mp_ne hg_c4 hg_av (by simp)))).trans ((mu_n ((mp_ne hg_c4 hg_ab (by simp)))).trans ((mu_n ((mp_ne hg_c4 hg_md (by simp)))).trans (hg_c4)))), ((mu_n ((mp_ne hg_c5 hg_av (by simp)))).trans ((mu_n ((mp_ne hg_c5 hg_ab (by simp)))).trans ((mu_n ((mp_ne hg_c5 hg_md (by simp)))).trans (hg_c5)))), ((mu_n ((mp_ne hg_c6 hg_av (by simp)))).trans ((mu_n ((mp_ne hg_c6 hg_ab (by simp)))).trans ((mu_n ((mp_ne hg_c6 hg_md (by simp)))).trans (hg_c6))))⟩, hSM⟩, ⟨_, _, _, ((mu_n ((mp_ne hg_c7 hg_av (by simp)))).trans ((mu_n ((mp_ne hg_c7 hg_ab (by simp)))).trans ((mu_n ((mp_ne hg_c7 hg_md (by simp)))).trans (hg_c7)))), ((mu_n ((mp_ne hg_c8 hg_av (by simp)))).trans ((mu_n ((mp_ne hg_c8 hg_ab (by simp)))).trans ((mu_n ((mp_ne hg_c8 hg_md (by simp)))).trans (hg_c8)))), ((mu_n ((mp_ne hg_c9 hg_av (by simp)))).trans ((mu_n ((mp_ne hg_c9 hg_ab (by simp)))).trans ((mu_n ((mp_ne hg_c9 hg_md (by simp)))).trans (hg_c9))))⟩, ⟨_, ((mu_n ((mp_ne hou9 hg_av (by simp)))).trans ((mu_n ((mp_ne hou9 hg_ab (by simp)))).trans ((mu_n ((mp_ne hou9 hg_md (by simp)))).trans (hou9))))⟩, ⟨DN2.no (hmd) hn_md, DN2.no (hou) hn_ou, DN2.no (hab) hn_ab, DN2.no (hav) hn_av, DN2.no (hc1) hn_c1, DN2.no (hc2) hn_c2, DN2.no (hc3) hn_c3, DN2.no (hc4) hn_c4, DN2.no (hc5) hn_c5, DN2.no (hc6) hn_c6, DN2.no (hc7) hn_c7, DN2.no (hc8) hn_c8, DN2.no (hc9) hn_c9⟩, ⟨n12, n13, n14, n15, n16, n23, n24, n25, n26, n34, n35, n36, n45, n46, n56, n78, n79, n89⟩⟩) _ _ hP hS ls (lv_sub hl [2, 3, 4, 5, 6] rfl)

set_option maxHeartbeats 4000000 in
set_option maxRecDepth 100000 in
theorem lg_10 (l : Launch) (hlt : l.stackTraces = false) (G : GG) (B : Nat) (sc0 : Nat) (fs : Nat → Int32) (n9 : Nat) {p : Program} {e : Env} {s : State} {m : MethodId} {args : Array Value} {below : List Frame} {meth : Method} {c : Code} {Q : State → Prop} (d md ou ab av c1 c2 c3 c4 c5 c6 c7 c8 c9 k sc j : Nat) (μ : mp) (D : Nat → Prop) (hx : p.tables.exec = Jvm.exec) (hb : c.code = cL_law) (hml : c.maxLocals = 8) (hown : s.vm.findClass RL = some m.cls) (hts : ∀ w ∈ wsL_law, w.before args s = true) (hBs : B ≤ s.heap.size) (hKK : KK G B s) (hDc : DcI s) (hNc : va_Nc exS exA s) (hscB : sc0 < B) (hbl : sc0 < s.heap.size) (hX : va_X sc0 n9 fs s s.heap) (hn9 : n9 ≤ 3072) (hj : 6 * j + 6 ≤ n9) (LN : ∀ (μ9 : mp) (k9 sc9 : Nat) (D9 : Nat → Prop) (_ : LI G μ9 d md ou ab av c1 c2 c3 c4 c5 c6 c7 c8 c9 k9 sc9 D9) (H : Heap) (locs : List Loc), mw G.1 vwCl B μ9 H → va_S (fun q => B ≤ q) s.heap H locs → ∀ ls : Array Slot, lv_has ls 8 [(4, .int (nI (6 * j))), (3, .ref ou), (2, .ref md), (1, .ref d), (0, .ref sc0)] → W p l e room_1 s m args below meth c H locs (108 + 5 * (j + 1) + 23 * k9) (7869 + 30 * (j + 1) + 7268 * k9) Q (F0 m 822 ls [])) (hI : LI G μ d md ou ab av c1 c2 c3 c4 c5 c6 c7 c8 c9 k sc D) (H : Heap) (locs : List Loc) (hP : mw G.1 vwCl B μ H) (hS : va_S (fun q => B ≤ q) s.heap H locs) (ls : Array Slot) (hl : lv_has ls 8 [(4, .int (nI (6 * j))), (3, .ref ou), (2, .ref md), (1, .ref d), (0, .ref sc0)]) : W p l e room_1 s m args below meth c H locs (108 + 5 * j + 23 * k) (7869 + 30 * j + 7268 * k) Q (F0 m 569 ls []) := by
  have hK := hKK.k
  obtain ⟨hG, ⟨fl, hmd⟩, ⟨f, hab, hsy⟩, ⟨v, hav, hvb⟩, ⟨i1, i2, i3, i4, i5, i6, ⟨hc1, hc2, hc3, hc4, hc5, hc6⟩, hSM⟩, ⟨l7, l8, l9, hc7, hc8, hc9⟩, ⟨fo, hou⟩, ⟨hn_md, hn_ou, hn_ab, hn_av, hn_c1, hn_c2, hn_c3, hn_c4, hn_c5, hn_c6, hn_c7, hn_c8, hn_c9⟩, ⟨n12, n13, n14, n15, n16, n23, n24, n25, n26, n34, n35, n36, n45, n46, n56, n78, n79, n89⟩⟩ := hI
  have hst := hG.nD
  have hk5 := hG.kl
  obtain ⟨fsd, hdd⟩ := hG.dd
  refine lv_aload_n hx hb dL_law_569 rfl (lv_at hl 3 rfl) ?_
  refine lv_aload_n hx hb dL_law_570 rfl (lv_at hl 4 rfl) ?_
  refine lv_iload hx hb dL_law_571 (lv_at hl 0 rfl) ?_
  refine lv_iconst (v := nI 1) hx hb dL_law_573 (by decide) ?_
  refine nv_iadd hx hb dL_law_574 ?_
  refine sc_iald (i := (6 * j) + 1) hx hb hX hbl hscB hS (by omega) (by omega) dL_law_575 ?_
  refine lv_aload_n hx hb dL_law_576 rfl (lv_at hl 1 rfl) ?_
  refine kx_i (vx_runSX (As := [.ref d, .int (fs ((6 * j) + 1)), .ref ou]) (rest := []) ⟨hx, hb, hml, hown, hts⟩ (w_L_bounds l hlt G B (μ) d k sc D (fs ((6 * j) + 1)) ou fo hG hou hn_ou) (vx_cwSW 3 hts gL_law_L_bounds rfl rfl rfl (by decide +kernel) ⟨Nat.le_of_ble_eq_true rfl, Nat.le_of_ble_eq_true rfl⟩) ⟨KXC.blind, fun U9 hU9 hW9 => ⟨rfl, ⟨KW.pre hBs hKK hS hP U9 hU9 hW9, hDc.at hW9⟩, hNc.moved hW9.alike⟩⟩ rfl rfl hl.1 rfl (lv_room (Nat.le_of_ble_eq_true rfl)) dL_law_577 ⟨(Nat.le_trans (m := 601024) (by omega) (Nat.le_refl _)), (Nat.le_trans (m := 7293033) (by omega) (Nat.le_refl _))⟩) hS (fun E ce q9 H locs hce hP hS h91 h92 h93 => ?_) (fun r577 m577 H locs hq9 hP hz9 hS => ?_)
  · exact False.elim hce
  obtain ⟨hG1, hF1, fo9, hou9⟩ := hq9
  have hk6 := hG1.kl
  have hg_md := hF1.1 md _ (hmd) (mp_ne hmd hou (by simp)) hn_md
  have hg_ab := hF1.1 ab _ (hab) (mp_ne hab hou (by simp)) hn_ab
  have hg_av := hF1.1 av _ (hav) (mp_ne hav hou (by simp)) hn_av
  have hg_c1 := hF1.1 c1 _ (hc1) (mp_ne hc1 hou (by simp)) hn_c1
  have hg_c2 := hF1.1 c2 _ (hc2) (mp_ne hc2 hou (by simp)) hn_c2
  have hg_c3 := hF1.1 c3 _ (hc3) (mp_ne hc3 hou (by simp)) hn_c3
  have hg_c4 := hF1.1 c4 _ (hc4) (mp_ne hc4 hou (by simp)) hn_c4
  have hg_c5 := hF1.1 c5 _ (hc5) (mp_ne hc5 hou (by simp)) hn_c5
  have hg_c6 := hF1.1 c6 _ (hc6) (mp_ne hc6 hou (by simp)) hn_c6
  have hg_c7 := hF1.1 c7 _ (hc7) (mp_ne hc7 hou (by simp)) hn_c7
  have hg_c8 := hF1.1 c8 _ (hc8) (mp_ne hc8 hou (by simp)) hn_c8
  have hg_c9 := hF1.1 c9 _ (hc9) (mp_ne hc9 hou (by simp)) hn_c9
  refine lv_istore (lv' := [(5, .int r577), (4, .int (nI (6 * j))), (3, .ref ou), (2, .ref md), (1, .ref d), (0, .ref sc0)]) hx hb dL_law_580 hl (by decide) rfl (fun ls hl => ?_)
  refine lv_aload_n hx hb dL_law_582 rfl (lv_at hl 3 rfl) ?_
  refine lv_aload_n hx hb dL_law_583 rfl (lv_at hl 5 rfl) ?_
  refine lv_iload hx hb dL_law_584 (lv_at hl 1 rfl) ?_
  refine lv_iconst (v := nI 1) hx hb dL_law_586 (by decide) ?_
  refine nv_iadd hx hb dL_law_587 ?_
  refine sc_iald (i := (6 * j) + 1) hx hb hX hbl hscB hS (by omega) (by omega) dL_law_588 ?_
  refine kc_i (va_runV (As := [.int (fs ((6 * j) + 1))]) (rest := []) ⟨hx, hb, hml, hown, hts⟩ (m_X4_bounds l G B (m577) md ab av c1 c2 c3 c4 c5 c6 c7 c8 c9 fl sc f v (fs ((6 * j) + 1)) (hg_md) (hg_ab) (hg_av) hsy hvb) (cwV 1 hts gL_law_X4_bounds rfl rfl rfl (by decide +kernel) ⟨Nat.le_of_ble_eq_true rfl, Nat.le_of_ble_eq_true rfl⟩) ⟨KW.blind, hP.recv hK rfl (hg_md), fun U9 hU9 hW9 => ⟨rfl, KW.pre hBs hKK hS hP U9 hU9 hW9⟩⟩ rfl rfl hl.1 rfl (lv_room (Nat.le_of_ble_eq_true rfl)) dL_law_589 ⟨(Nat.le_trans (m := 601024) (by omega) (Nat.le_refl _)), (Nat.le_trans (m := 7293033) (by omega) (Nat.le_refl _))⟩) hS (fun r589 m589 H locs hq9 hP hz9 hS => ?_)
  obtain ⟨fl9, g9, w9, he9, ⟨hsy9, hvb9⟩⟩ := hq9
  rw [he9] at hP
  refine lv_istore (lv' := [(6, .int r589), (5, .int r577), (4, .int (nI (6 * j))), (3, .ref ou), (2, .ref md), (1, .ref d), (0, .ref sc0)]) hx hb dL_law_592 hl (by decide) rfl (fun ls hl => ?_)
  refine lv_goto (tgt := 822) hx hb dL_law_594 (by decide) ?_
  refine W.widen (k := 108 + 5 * (j + 1) + 23 * k) (n := 7869 + 30 * (j + 1) + 7268 * k) (by omega) (by omega) ?_
  exact LN (mu (mu (mu m577 md (.inr (4, [.int (nI fl9), .ref ab, .ref av, .int (nI sc), .ref c1, .ref c2, .ref c3, .ref c4, .ref c5, .ref c6, .ref c7, .ref c8, .ref c9]))) ab (.inl (G.2 0, 3744, .inr (.inl g9)))) av (.inl (G.2 2, 26, .inl w9))) k sc (DN2 D μ) (⟨(DG.mux (DG.mux (DG.mux hG1 (hg_md) (DN2.no (hmd) hn_md) (by intro _ _ _ h9; simp at h9)) ((mu_n ((mp_ne hg_ab hg_md (by simp)))).trans (hg_ab)) (DN2.no (hab) hn_ab) (by intro _ _ _ h9; simp at h9)) ((mu_n ((mp_ne hg_av hg_ab (by simp)))).trans ((mu_n ((mp_ne hg_av hg_md (by simp)))).trans (hg_av))) (DN2.no (hav) hn_av) (by intro _ _ _ h9; simp at h9)), ⟨_, ((mu_n ((mp_ne hg_md hg_av (by simp)))).trans ((mu_n ((mp_ne hg_md hg_ab (by simp)))).trans (mu_s _ _ _)))⟩, ⟨_, ((mu_n ((mp_ne hg_ab hg_av (by simp)))).trans (mu_s _ _ _)), hsy9⟩, ⟨_, (mu_s _ _ _), hvb9⟩, ⟨_, _, _, _, _, _, ⟨((mu_n ((mp_ne hg_c1 hg_av (by simp)))).trans ((mu_n ((mp_ne hg_c1 hg_ab (by simp)))).trans ((mu_n ((mp_ne hg_c1 hg_md (by simp)))).trans (hg_c1)))), ((mu_n ((mp_ne hg_c2 hg_av (by simp)))).trans ((mu_n ((mp_ne hg_c2 hg_ab (by simp)))).trans ((mu_n ((mp_ne hg_c2 hg_md (by simp)))).trans (hg_c2)))), ((mu_n ((mp_ne hg_c3 hg_av (by simp)))).trans ((mu_n ((mp_ne hg_c3 hg_ab (by simp)))).trans ((mu_n ((mp_ne hg_c3 hg_md (by simp)))).trans (hg_c3)))), ((mu_n ((mp_ne hg_c4 hg_av (by simp)))).trans ((mu_n ((mp_ne hg_c4 hg_ab (by simp)))).trans ((mu_n ((mp_ne hg_c4 hg_md (by simp)))).trans (hg_c4)))), ((mu_n ((mp_ne hg_c5 hg_av (by simp)))).trans ((mu_n ((mp_ne hg_c5 hg_ab (by simp)))).trans ((mu_n ((mp_ne hg_c5 hg_md (by simp)))).trans (hg_c5)))), ((mu_n ((mp_ne hg_c6 hg_av (by simp)))).trans ((mu_n ((mp_ne hg_c6 hg_ab (by simp)))).trans ((mu_n ((mp_ne hg_c6 hg_md (by simp)))).trans (hg_c6))))⟩, hSM⟩, ⟨_, _, _, ((mu_n ((mp_ne hg_c7 hg_av (by simp)))).trans ((mu_n ((mp_ne hg_c7 hg_ab (by simp)))).trans ((mu_n ((mp_ne hg_c7 hg_md (by simp)))).trans (hg_c7)))), ((mu_n ((mp_ne hg_c8 hg_av (by simp)))).trans ((mu_n ((mp_ne hg_c8 hg_ab (by simp)))).trans ((mu_n ((mp_ne hg_c8 hg_md (by simp)))).trans (hg_c8)))), ((mu_n ((mp_ne hg_c9 hg_av (by simp)))).trans ((mu_n ((mp_ne hg_c9 hg_ab (by simp)))).trans ((mu_n ((mp_ne hg_c9 hg_md (by simp)))).trans (hg_c9))))⟩, ⟨_, ((mu_n ((mp_ne hou9 hg_av (by simp)))).trans ((mu_n ((mp_ne hou9 hg_ab (by simp)))).trans ((mu_n ((mp_ne hou9 hg_md (by simp)))).trans (hou9))))⟩, ⟨DN2.no (hmd) hn_md, DN2.no (hou) hn_ou, DN2.no (hab) hn_ab, DN2.no (hav) hn_av, DN2.no (hc1) hn_c1, DN2.no (hc2) hn_c2, DN2.no (hc3) hn_c3, DN2.no (hc4) hn_c4, DN2.no (hc5) hn_c5, DN2.no (hc6) hn_c6, DN2.no (hc7) hn_c7, DN2.no (hc8) hn_c8, DN2.no (hc9) hn_c9⟩, ⟨n12, n13, n14, n15, n16, n23, n24, n25, n26, n34, n35, n36, n45, n46, n56, n78, n79, n89⟩⟩) _ _ hP hS ls (lv_sub hl [2, 3, 4, 5, 6] rfl)

set_option maxHeartbeats 4000000 in
set_option maxRecDepth 100000 in
theorem lg_11 (l : Launch) (hlt : l.stackTraces = false) (G : GG) (B : Nat) (sc0 : Nat) (fs : Nat → Int32) (n9 : Nat) {p : Program} {e : Env} {s : State} {m : MethodId} {args : Array Value} {below : List Frame} {meth : Method} {c : Code} {Q : State → Prop} (d md ou ab av c1 c2 c3 c4 c5 c6 c7 c8 c9 k sc j : Nat) (μ : mp) (D : Nat → Prop) (hx : p.tables.exec = Jvm.exec) (hb : c.code = cL_law) (hml : c.maxLocals = 8) (hown : s.vm.findClass RL = some m.cls) (hts : ∀ w ∈ wsL_law, w.before args s = true) (hBs : B ≤ s.heap.size) (hKK : KK G B s) (hDc : DcI s) (hNc : va_Nc exS exA s) (hscB : sc0 < B) (hbl : sc0 < s.heap.size) (hX : va_X sc0 n9 fs s s.heap) (hn9 : n9 ≤ 3072) (hj : 6 * j + 6 ≤ n9) (LN : ∀ (μ9 : mp) (k9 sc9 : Nat) (D9 : Nat → Prop) (_ : LI G μ9 d md ou ab av c1 c2 c3 c4 c5 c6 c7 c8 c9 k9 sc9 D9) (H : Heap) (locs : List Loc), mw G.1 vwCl B μ9 H → va_S (fun q => B ≤ q) s.heap H locs → ∀ ls : Array Slot, lv_has ls 8 [(4, .int (nI (6 * j))), (3, .ref ou), (2, .ref md), (1, .ref d), (0, .ref sc0)] → W p l e room_1 s m args below meth c H locs (108 + 5 * (j + 1) + 23 * k9) (7869 + 30 * (j + 1) + 7268 * k9) Q (F0 m 822 ls [])) (hI : LI G μ d md ou ab av c1 c2 c3 c4 c5 c6 c7 c8 c9 k sc D) (H : Heap) (locs : List Loc) (hP : mw G.1 vwCl B μ H) (hS : va_S (fun q => B ≤ q) s.heap H locs) (ls : Array Slot) (hl : lv_has ls 8 [(4, .int (nI (6 * j))), (3, .ref ou), (2, .ref md), (1, .ref d), (0, .ref sc0)]) : W p l e room_1 s m args below meth c H locs (108 + 5 * j + 23 * k) (7869 + 30 * j + 7268 * k) Q (F0 m 597 ls []) := by
  have hK := hKK.k
  obtain ⟨hG, ⟨fl, hmd⟩, ⟨f, hab, hsy⟩, ⟨v, hav, hvb⟩, ⟨i1, i2, i3, i4, i5, i6, ⟨hc1, hc2, hc3, hc4, hc5, hc6⟩, hSM⟩, ⟨l7, l8, l9, hc7, hc8, hc9⟩, ⟨fo, hou⟩, ⟨hn_md, hn_ou, hn_ab, hn_av, hn_c1, hn_c2, hn_c3, hn_c4, hn_c5, hn_c6, hn_c7, hn_c8, hn_c9⟩, ⟨n12, n13, n14, n15, n16, n23, n24, n25, n26, n34, n35, n36, n45, n46, n56, n78, n79, n89⟩⟩ := hI
  have hst := hG.nD
  have hk5 := hG.kl
  obtain ⟨fsd, hdd⟩ := hG.dd
  refine lv_aload_n hx hb dL_law_597 rfl (lv_at hl 3 rfl) ?_
  refine lv_aload_n hx hb dL_law_598 rfl (lv_at hl 4 rfl) ?_
  refine lv_iload hx hb dL_law_599 (lv_at hl 0 rfl) ?_
  refine lv_iconst (v := nI 1) hx hb dL_law_601 (by decide) ?_
  refine nv_iadd hx hb dL_law_602 ?_
  refine sc_iald (i := (6 * j) + 1) hx hb hX hbl hscB hS (by omega) (by omega) dL_law_603 ?_
  refine lv_aload_n hx hb dL_law_604 rfl (lv_at hl 4 rfl) ?_
  refine lv_iload hx hb dL_law_605 (lv_at hl 0 rfl) ?_
  refine lv_iconst (v := nI 2) hx hb dL_law_607 (by decide) ?_
  refine nv_iadd hx hb dL_law_608 ?_
  refine sc_iald (i := (6 * j) + 2) hx hb hX hbl hscB hS (by omega) (by omega) dL_law_609 ?_
  refine lv_aload_n hx hb dL_law_610 rfl (lv_at hl 1 rfl) ?_
  refine kgx_i (vx_runSX (As := [.ref d, .int (fs ((6 * j) + 1)), .int (fs ((6 * j) + 2)), .ref ou]) (rest := []) ⟨hx, hb, hml, hown, hts⟩ (w_L_first l hlt G B (μ) _ _ d k sc D (fs ((6 * j) + 1)) (fs ((6 * j) + 2)) ou fo hG hou hn_ou) (vx_cwSW 4 hts gL_law_L_first rfl rfl rfl (by decide +kernel) ⟨Nat.le_of_ble_eq_true rfl, Nat.le_of_ble_eq_true rfl⟩) ⟨KXCN.blind, fun U9 hU9 hW9 => ⟨rfl, ⟨⟨KW.pre hBs hKK hS hP U9 hU9 hW9, hDc.at hW9⟩, by rw [hU9], by rw [hU9]⟩, hNc.moved hW9.alike⟩⟩ rfl rfl hl.1 rfl (lv_room (Nat.le_of_ble_eq_true rfl)) dL_law_611 ⟨(Nat.le_trans (m := 601024) (by omega) (Nat.le_refl _)), (Nat.le_trans (m := 7293033) (by omega) (Nat.le_refl _))⟩) hS (fun E ce q9 H locs hce hP hS h91 h92 h93 => ?_) (fun r611 m611 k611 H locs hq9 hP hz9 hS => ?_)
  · exact False.elim hce
  obtain ⟨hkq, hG1, hF1, fo9, hou9⟩ := hq9
  have hk6 := hG1.kl
  have hg_md := hF1.1 md _ (hmd) (mp_ne hmd hou (by simp)) hn_md
  have hg_ab := hF1.1 ab _ (hab) (mp_ne hab hou (by simp)) hn_ab
  have hg_av := hF1.1 av _ (hav) (mp_ne hav hou (by simp)) hn_av
  have hg_c1 := hF1.1 c1 _ (hc1) (mp_ne hc1 hou (by simp)) hn_c1
  have hg_c2 := hF1.1 c2 _ (hc2) (mp_ne hc2 hou (by simp)) hn_c2
  have hg_c3 := hF1.1 c3 _ (hc3) (mp_ne hc3 hou (by simp)) hn_c3
  have hg_c4 := hF1.1 c4 _ (hc4) (mp_ne hc4 hou (by simp)) hn_c4
  have hg_c5 := hF1.1 c5 _ (hc5) (mp_ne hc5 hou (by simp)) hn_c5
  have hg_c6 := hF1.1 c6 _ (hc6) (mp_ne hc6 hou (by simp)) hn_c6
  have hg_c7 := hF1.1 c7 _ (hc7) (mp_ne hc7 hou (by simp)) hn_c7
  have hg_c8 := hF1.1 c8 _ (hc8) (mp_ne hc8 hou (by simp)) hn_c8
  have hg_c9 := hF1.1 c9 _ (hc9) (mp_ne hc9 hou (by simp)) hn_c9
  refine lv_istore (lv' := [(5, .int r611), (4, .int (nI (6 * j))), (3, .ref ou), (2, .ref md), (1, .ref d), (0, .ref sc0)]) hx hb dL_law_614 hl (by decide) rfl (fun ls hl => ?_)
  refine lv_aload_n hx hb dL_law_616 rfl (lv_at hl 3 rfl) ?_
  refine lv_aload_n hx hb dL_law_617 rfl (lv_at hl 5 rfl) ?_
  refine lv_iload hx hb dL_law_618 (lv_at hl 1 rfl) ?_
  refine lv_iconst (v := nI 1) hx hb dL_law_620 (by decide) ?_
  refine nv_iadd hx hb dL_law_621 ?_
  refine sc_iald (i := (6 * j) + 1) hx hb hX hbl hscB hS (by omega) (by omega) dL_law_622 ?_
  refine lv_aload_n hx hb dL_law_623 rfl (lv_at hl 5 rfl) ?_
  refine lv_iload hx hb dL_law_624 (lv_at hl 1 rfl) ?_
  refine lv_iconst (v := nI 2) hx hb dL_law_626 (by decide) ?_
  refine nv_iadd hx hb dL_law_627 ?_
  refine sc_iald (i := (6 * j) + 2) hx hb hX hbl hscB hS (by omega) (by omega) dL_law_628 ?_
  refine kc_l (va_runV (As := [.int (fs ((6 * j) + 1)), .int (fs ((6 * j) + 2))]) (rest := []) ⟨hx, hb, hml, hown, hts⟩ (m_X4_first l G B (m611) md ab av c1 c2 c3 c4 c5 c6 c7 c8 c9 fl sc f v (fs ((6 * j) + 1)) (fs ((6 * j) + 2)) (hg_md) (hg_ab) (hg_av) hsy hvb) (cwV 2 hts gL_law_X4_first rfl rfl rfl (by decide +kernel) ⟨Nat.le_of_ble_eq_true rfl, Nat.le_of_ble_eq_true rfl⟩) ⟨KW.blind, hP.recv hK rfl (hg_md), fun U9 hU9 hW9 => ⟨rfl, KW.pre hBs hKK hS hP U9 hU9 hW9⟩⟩ rfl rfl hl.1 rfl (lv_room (Nat.le_of_ble_eq_true rfl)) dL_law_629 ⟨(Nat.le_trans (m := 601024) (by omega) (Nat.le_refl _)), (Nat.le_trans (m := 7293033) (by omega) (Nat.le_refl _))⟩) hS (fun r629 m629 H locs hq9 hP hz9 hS => ?_)
  obtain ⟨fl9, g9, w9, he9, ⟨hsy9, hvb9⟩⟩ := hq9
  rw [he9] at hP
  refine lv_lstore (lv' := [(6, .long r629), (5, .int r611), (4, .int (nI (6 * j))), (3, .ref ou), (2, .ref md), (1, .ref d), (0, .ref sc0)]) hx hb dL_law_632 hl (by decide) rfl (fun ls hl => ?_)
  refine lv_goto (tgt := 822) hx hb dL_law_634 (by decide) ?_
  refine W.widen (k := 108 + 5 * (j + 1) + 23 * k611) (n := 7869 + 30 * (j + 1) + 7268 * k611) (by omega) (by omega) ?_
  exact LN (mu (mu (mu m611 md (.inr (4, [.int (nI fl9), .ref ab, .ref av, .int (nI sc), .ref c1, .ref c2, .ref c3, .ref c4, .ref c5, .ref c6, .ref c7, .ref c8, .ref c9]))) ab (.inl (G.2 0, 3744, .inr (.inl g9)))) av (.inl (G.2 2, 26, .inl w9))) k611 sc (DN2 D μ) (⟨(DG.mux (DG.mux (DG.mux hG1 (hg_md) (DN2.no (hmd) hn_md) (by intro _ _ _ h9; simp at h9)) ((mu_n ((mp_ne hg_ab hg_md (by simp)))).trans (hg_ab)) (DN2.no (hab) hn_ab) (by intro _ _ _ h9; simp at h9)) ((mu_n ((mp_ne hg_av hg_ab (by simp)))).trans ((mu_n ((mp_ne hg_av hg_md (by simp)))).trans (hg_av))) (DN2.no (hav) hn_av) (by intro _ _ _ h9; simp at h9)), ⟨_, ((mu_n ((mp_ne hg_md hg_av (by simp)))).trans ((mu_n ((mp_ne hg_md hg_ab (by simp)))).trans (mu_s _ _ _)))⟩, ⟨_, ((mu_n ((mp_ne hg_ab hg_av (by simp)))).trans (mu_s _ _ _)), hsy9⟩, ⟨_, (mu_s _ _ _), hvb9⟩, ⟨_, _, _, _, _, _, ⟨((mu_n ((mp_ne hg_c1 hg_av (by simp)))).trans ((mu_n ((mp_ne hg_c1 hg_ab (by simp)))).trans ((mu_n ((mp_ne hg_c1 hg_md (by simp)))).trans (hg_c1)))), ((mu_n ((mp_ne hg_c2 hg_av (by simp)))).trans ((mu_n ((mp_ne hg_c2 hg_ab (by simp)))).trans ((mu_n ((mp_ne hg_c2 hg_md (by simp)))).trans (hg_c2)))), ((mu_n ((mp_ne hg_c3 hg_av (by simp)))).trans ((mu_n ((mp_ne hg_c3 hg_ab (by simp)))).trans ((mu_n ((mp_ne hg_c3 hg_md (by simp)))).trans (hg_c3)))), ((mu_n ((mp_ne hg_c4 hg_av (by simp)))).trans ((mu_n ((mp_ne hg_c4 hg_ab (by simp)))).trans ((mu_n ((mp_ne hg_c4 hg_md (by simp)))).trans (hg_c4)))), ((mu_n ((mp_ne hg_c5 hg_av (by simp)))).trans ((mu_n ((mp_ne hg_c5 hg_ab (by simp)))).trans ((mu_n ((mp_ne hg_c5 hg_md (by simp)))).trans (hg_c5)))), ((mu_n ((mp_ne hg_c6 hg_av (by simp)))).trans ((mu_n ((mp_ne hg_c6 hg_ab (by simp)))).trans ((mu_n ((mp_ne hg_c6 hg_md (by simp)))).trans (hg_c6))))⟩, hSM⟩, ⟨_, _, _, ((mu_n ((mp_ne hg_c7 hg_av (by simp)))).trans ((mu_n ((mp_ne hg_c7 hg_ab (by simp)))).trans ((mu_n ((mp_ne hg_c7 hg_md (by simp)))).trans (hg_c7)))), ((mu_n ((mp_ne hg_c8 hg_av (by simp)))).trans ((mu_n ((mp_ne hg_c8 hg_ab (by simp)))).trans ((mu_n ((mp_ne hg_c8 hg_md (by simp)))).trans (hg_c8)))), ((mu_n ((mp_ne hg_c9 hg_av (by simp)))).trans ((mu_n ((mp_ne hg_c9 hg_ab (by simp)))).trans ((mu_n ((mp_ne hg_c9 hg_md (by simp)))).trans (hg_c9))))⟩, ⟨_, ((mu_n ((mp_ne hou9 hg_av (by simp)))).trans ((mu_n ((mp_ne hou9 hg_ab (by simp)))).trans ((mu_n ((mp_ne hou9 hg_md (by simp)))).trans (hou9))))⟩, ⟨DN2.no (hmd) hn_md, DN2.no (hou) hn_ou, DN2.no (hab) hn_ab, DN2.no (hav) hn_av, DN2.no (hc1) hn_c1, DN2.no (hc2) hn_c2, DN2.no (hc3) hn_c3, DN2.no (hc4) hn_c4, DN2.no (hc5) hn_c5, DN2.no (hc6) hn_c6, DN2.no (hc7) hn_c7, DN2.no (hc8) hn_c8, DN2.no (hc9) hn_c9⟩, ⟨n12, n13, n14, n15, n16, n23, n24, n25, n26, n34, n35, n36, n45, n46, n56, n78, n79, n89⟩⟩) _ _ hP hS ls (lv_sub hl [2, 3, 4, 5, 6] rfl)

set_option maxHeartbeats 4000000 in
set_option maxRecDepth 100000 in
theorem lg_12 (l : Launch) (hlt : l.stackTraces = false) (G : GG) (B : Nat) (sc0 : Nat) (fs : Nat → Int32) (n9 : Nat) {p : Program} {e : Env} {s : State} {m : MethodId} {args : Array Value} {below : List Frame} {meth : Method} {c : Code} {Q : State → Prop} (d md ou ab av c1 c2 c3 c4 c5 c6 c7 c8 c9 k sc j : Nat) (μ : mp) (D : Nat → Prop) (hx : p.tables.exec = Jvm.exec) (hb : c.code = cL_law) (hml : c.maxLocals = 8) (hown : s.vm.findClass RL = some m.cls) (hts : ∀ w ∈ wsL_law, w.before args s = true) (hBs : B ≤ s.heap.size) (hKK : KK G B s) (hDc : DcI s) (hNc : va_Nc exS exA s) (hscB : sc0 < B) (hbl : sc0 < s.heap.size) (hX : va_X sc0 n9 fs s s.heap) (hn9 : n9 ≤ 3072) (hj : 6 * j + 6 ≤ n9) (LN : ∀ (μ9 : mp) (k9 sc9 : Nat) (D9 : Nat → Prop) (_ : LI G μ9 d md ou ab av c1 c2 c3 c4 c5 c6 c7 c8 c9 k9 sc9 D9) (H : Heap) (locs : List Loc), mw G.1 vwCl B μ9 H → va_S (fun q => B ≤ q) s.heap H locs → ∀ ls : Array Slot, lv_has ls 8 [(4, .int (nI (6 * j))), (3, .ref ou), (2, .ref md), (1, .ref d), (0, .ref sc0)] → W p l e room_1 s m args below meth c H locs (108 + 5 * (j + 1) + 23 * k9) (7869 + 30 * (j + 1) + 7268 * k9) Q (F0 m 822 ls [])) (hI : LI G μ d md ou ab av c1 c2 c3 c4 c5 c6 c7 c8 c9 k sc D) (H : Heap) (locs : List Loc) (hP : mw G.1 vwCl B μ H) (hS : va_S (fun q => B ≤ q) s.heap H locs) (ls : Array Slot) (hl : lv_has ls 8 [(4, .int (nI (6 * j))), (3, .ref ou), (2, .ref md), (1, .ref d), (0, .ref sc0)]) : W p l e room_1 s m args below meth c H locs (108 + 5 * j + 23 * k) (7869 + 30 * j + 7268 * k) Q (F0 m 637 ls []) := by
  have hK := hKK.k
  obtain ⟨hG, ⟨fl, hmd⟩, ⟨f, hab, hsy⟩, ⟨v, hav, hvb⟩, ⟨i1, i2, i3, i4, i5, i6, ⟨hc1, hc2, hc3, hc4, hc5, hc6⟩, hSM⟩, ⟨l7, l8, l9, hc7, hc8, hc9⟩, ⟨fo, hou⟩, ⟨hn_md, hn_ou, hn_ab, hn_av, hn_c1, hn_c2, hn_c3, hn_c4, hn_c5, hn_c6, hn_c7, hn_c8, hn_c9⟩, ⟨n12, n13, n14, n15, n16, n23, n24, n25, n26, n34, n35, n36, n45, n46, n56, n78, n79, n89⟩⟩ := hI
  have hst := hG.nD
  have hk5 := hG.kl
  obtain ⟨fsd, hdd⟩ := hG.dd
  refine lv_aload_n hx hb dL_law_637 rfl (lv_at hl 3 rfl) ?_
  refine lv_aload_n hx hb dL_law_638 rfl (lv_at hl 4 rfl) ?_
  refine lv_iload hx hb dL_law_639 (lv_at hl 0 rfl) ?_
  refine lv_iconst (v := nI 1) hx hb dL_law_641 (by decide) ?_
  refine nv_iadd hx hb dL_law_642 ?_
  refine sc_iald (i := (6 * j) + 1) hx hb hX hbl hscB hS (by omega) (by omega) dL_law_643 ?_
  refine lv_aload_n hx hb dL_law_644 rfl (lv_at hl 1 rfl) ?_
  refine kx_i (vx_runSX (As := [.ref d, .int (fs ((6 * j) + 1)), .ref ou]) (rest := []) ⟨hx, hb, hml, hown, hts⟩ (w_L_places l hlt G B (μ) d k sc D (fs ((6 * j) + 1)) ou fo hG hou hn_ou) (vx_cwSW 3 hts gL_law_L_places rfl rfl rfl (by decide +kernel) ⟨Nat.le_of_ble_eq_true rfl, Nat.le_of_ble_eq_true rfl⟩) ⟨KXC.blind, fun U9 hU9 hW9 => ⟨rfl, ⟨KW.pre hBs hKK hS hP U9 hU9 hW9, hDc.at hW9⟩, hNc.moved hW9.alike⟩⟩ rfl rfl hl.1 rfl (lv_room (Nat.le_of_ble_eq_true rfl)) dL_law_645 ⟨(Nat.le_trans (m := 601024) (by omega) (Nat.le_refl _)), (Nat.le_trans (m := 7293033) (by omega) (Nat.le_refl _))⟩) hS (fun E ce q9 H locs hce hP hS h91 h92 h93 => ?_) (fun r645 m645 H locs hq9 hP hz9 hS => ?_)
  · exact False.elim hce
  obtain ⟨hG1, hF1, fo9, hou9⟩ := hq9
  have hk6 := hG1.kl
  have hg_md := hF1.1 md _ (hmd) (mp_ne hmd hou (by simp)) hn_md
  have hg_ab := hF1.1 ab _ (hab) (mp_ne hab hou (by simp)) hn_ab
  have hg_av := hF1.1 av _ (hav) (mp_ne hav hou (by simp)) hn_av
  have hg_c1 := hF1.1 c1 _ (hc1) (mp_ne hc1 hou (by simp)) hn_c1
  have hg_c2 := hF1.1 c2 _ (hc2) (mp_ne hc2 hou (by simp)) hn_c2
  have hg_c3 := hF1.1 c3 _ (hc3) (mp_ne hc3 hou (by simp)) hn_c3
  have hg_c4 := hF1.1 c4 _ (hc4) (mp_ne hc4 hou (by simp)) hn_c4
  have hg_c5 := hF1.1 c5 _ (hc5) (mp_ne hc5 hou (by simp)) hn_c5
  have hg_c6 := hF1.1 c6 _ (hc6) (mp_ne hc6 hou (by simp)) hn_c6
  have hg_c7 := hF1.1 c7 _ (hc7) (mp_ne hc7 hou (by simp)) hn_c7
  have hg_c8 := hF1.1 c8 _ (hc8) (mp_ne hc8 hou (by simp)) hn_c8
  have hg_c9 := hF1.1 c9 _ (hc9) (mp_ne hc9 hou (by simp)) hn_c9
  refine lv_istore (lv' := [(5, .int r645), (4, .int (nI (6 * j))), (3, .ref ou), (2, .ref md), (1, .ref d), (0, .ref sc0)]) hx hb dL_law_648 hl (by decide) rfl (fun ls hl => ?_)
  refine lv_aload_n hx hb dL_law_650 rfl (lv_at hl 3 rfl) ?_
  refine lv_aload_n hx hb dL_law_651 rfl (lv_at hl 5 rfl) ?_
  refine lv_iload hx hb dL_law_652 (lv_at hl 1 rfl) ?_
  refine lv_iconst (v := nI 1) hx hb dL_law_654 (by decide) ?_
  refine nv_iadd hx hb dL_law_655 ?_
  refine sc_iald (i := (6 * j) + 1) hx hb hX hbl hscB hS (by omega) (by omega) dL_law_656 ?_
  refine kc_i (va_runV (As := [.int (fs ((6 * j) + 1))]) (rest := []) ⟨hx, hb, hml, hown, hts⟩ (m_X4_places l G B (m645) md ab av c1 c2 c3 c4 c5 c6 c7 c8 c9 fl sc f v l7 l8 l9 (fs ((6 * j) + 1)) (hg_md) (hg_ab) (hg_av) (hg_c7) (hg_c8) (hg_c9) hvb n78 n79 n89) (cwV 1 hts gL_law_X4_places rfl rfl rfl (by decide +kernel) ⟨Nat.le_of_ble_eq_true rfl, Nat.le_of_ble_eq_true rfl⟩) ⟨KW.blind, hP.recv hK rfl (hg_md), fun U9 hU9 hW9 => ⟨rfl, KW.pre hBs hKK hS hP U9 hU9 hW9⟩⟩ rfl rfl hl.1 rfl (lv_room (Nat.le_of_ble_eq_true rfl)) dL_law_657 ⟨(Nat.le_trans (m := 601024) (by omega) (Nat.le_refl _)), (Nat.le_trans (m := 7293033) (by omega) (Nat.le_refl _))⟩) hS (fun r657 m657 H locs hq9 hP hz9 hS => ?_)
  obtain ⟨fl9, k7, k8, k9, he9⟩ := hq9
  rw [he9] at hP
  refine lv_istore (lv' := [(6, .int r657), (5, .int r645), (4, .int (nI (6 * j))), (3, .ref ou), (2, .ref md), (1, .ref d), (0, .ref sc0)]) hx hb dL_law_660 hl (by decide) rfl (fun ls hl => ?_)
  refine lv_goto (tgt := 822) hx hb dL_law_662 (by decide) ?_
  refine W.widen (k := 108 + 5 * (j + 1) + 23 * k) (n := 7869 + 30 * (j + 1) + 7268 * k) (by omega) (by omega) ?_
  exact LN (mu (mu (mu (mu m645 md (.inr (4, [.int (nI fl9), .ref ab, .ref av, .int (nI sc), .ref c1, .ref c2, .ref c3, .ref c4, .ref c5, .ref c6, .ref c7, .ref c8, .ref c9]))) c7 (.inl (G.2 0, 6, .inr (.inl k7)))) c8 (.inl (G.2 0, 6, .inr (.inl k8)))) c9 (.inl (G.2 0, 6, .inr (.inl k9)))) k sc (DN2 D μ) (⟨(DG.mux (DG.mux (DG.mux (DG.mux hG1 (hg_md) (DN2.no (hmd) hn_md) (by intro _ _ _ h9; simp at h9)) ((mu_n ((mp_ne hg_c7 hg_md (by simp)))).trans (hg_c7)) (DN2.no (hc7) hn_c7) (by intro _ _ _ h9; simp at h9)) ((mu_n ((Ne.symm n78))).trans ((mu_n ((mp_ne hg_c8 hg_md (by simp)))).trans (hg_c8))) (DN2.no (hc8) hn_c8) (by intro _ _ _ h9; simp at h9)) ((mu_n ((Ne.symm n89))).trans ((mu_n ((Ne.symm n79))).trans ((mu_n ((mp_ne hg_c9 hg_md (by simp)))).trans (hg_c9)))) (DN2.no (hc9) hn_c9) (by intro _ _ _ h9; simp at h9)), ⟨_, ((mu_n ((mp_ne hg_md hg_c9 (by simp)))).trans ((mu_n ((mp_ne hg_md hg_c8 (by simp)))).trans ((mu_n ((mp_ne hg_md hg_c7 (by simp)))).trans (mu_s _ _ _))))⟩, ⟨_, ((mu_n ((mp_ne hg_ab hg_c9 (by simp)))).trans ((mu_n ((mp_ne hg_ab hg_c8 (by simp)))).trans ((mu_n ((mp_ne hg_ab hg_c7 (by simp)))).trans ((mu_n ((mp_ne hg_ab hg_md (by simp)))).trans (hg_ab))))), hsy⟩, ⟨_, ((mu_n ((mp_ne hg_av hg_c9 (by simp)))).trans ((mu_n ((mp_ne hg_av hg_c8 (by simp)))).trans ((mu_n ((mp_ne hg_av hg_c7 (by simp)))).trans ((mu_n ((mp_ne hg_av hg_md (by simp)))).trans (hg_av))))), hvb⟩, ⟨_, _, _, _, _, _, ⟨((mu_n ((mp_ne hg_c1 hg_c9 (by simp)))).trans ((mu_n ((mp_ne hg_c1 hg_c8 (by simp)))).trans ((mu_n ((mp_ne hg_c1 hg_c7 (by simp)))).trans ((mu_n ((mp_ne hg_c1 hg_md (by simp)))).trans (hg_c1))))), ((mu_n ((mp_ne hg_c2 hg_c9 (by simp)))).trans ((mu_n ((mp_ne hg_c2 hg_c8 (by simp)))).trans ((mu_n ((mp_ne hg_c2 hg_c7 (by simp)))).trans ((mu_n ((mp_ne hg_c2 hg_md (by simp)))).trans (hg_c2))))), ((mu_n ((mp_ne hg_c3 hg_c9 (by simp)))).trans ((mu_n ((mp_ne hg_c3 hg_c8 (by simp)))).trans ((mu_n ((mp_ne hg_c3 hg_c7 (by simp)))).trans ((mu_n ((mp_ne hg_c3 hg_md (by simp)))).trans (hg_c3))))), ((mu_n ((mp_ne hg_c4 hg_c9 (by simp)))).trans ((mu_n ((mp_ne hg_c4 hg_c8 (by simp)))).trans ((mu_n ((mp_ne hg_c4 hg_c7 (by simp)))).trans ((mu_n ((mp_ne hg_c4 hg_md (by simp)))).trans (hg_c4))))), ((mu_n ((mp_ne hg_c5 hg_c9 (by simp)))).trans ((mu_n ((mp_ne hg_c5 hg_c8 (by simp)))).trans ((mu_n ((mp_ne hg_c5 hg_c7 (by simp)))).trans ((mu_n ((mp_ne hg_c5 hg_md (by simp)))).trans (hg_c5))))), ((mu_n ((mp_ne hg_c6 hg_c9 (by simp)))).trans ((mu_n ((mp_ne hg_c6 hg_c8 (by simp)))).trans ((mu_n ((mp_ne hg_c6 hg_c7 (by simp)))).trans ((mu_n ((mp_ne hg_c6 hg_md (by simp)))).trans (hg_c6)))))⟩, hSM⟩, ⟨_, _, _, ((mu_n n79).trans ((mu_n n78).trans (mu_s _ _ _))), ((mu_n n89).trans (mu_s _ _ _)), (mu_s _ _ _)⟩, ⟨_, ((mu_n ((mp_ne hou9 hg_c9 (by simp)))).trans ((mu_n ((mp_ne hou9 hg_c8 (by simp)))).trans ((mu_n ((mp_ne hou9 hg_c7 (by simp)))).trans ((mu_n ((mp_ne hou9 hg_md (by simp)))).trans (hou9)))))⟩, ⟨DN2.no (hmd) hn_md, DN2.no (hou) hn_ou, DN2.no (hab) hn_ab, DN2.no (hav) hn_av, DN2.no (hc1) hn_c1, DN2.no (hc2) hn_c2, DN2.no (hc3) hn_c3, DN2.no (hc4) hn_c4, DN2.no (hc5) hn_c5, DN2.no (hc6) hn_c6, DN2.no (hc7) hn_c7, DN2.no (hc8) hn_c8, DN2.no (hc9) hn_c9⟩, ⟨n12, n13, n14, n15, n16, n23, n24, n25, n26, n34, n35, n36, n45, n46, n56, n78, n79, n89⟩⟩) _ _ hP hS ls (lv_sub hl [2, 3, 4, 5, 6] rfl)

set_option maxHeartbeats 4000000 in
set_option maxRecDepth 100000 in
theorem lg_13 (l : Launch) (hlt : l.stackTraces = false) (G : GG) (B : Nat) (sc0 : Nat) (fs : Nat → Int32) (n9 : Nat) {p : Program} {e : Env} {s : State} {m : MethodId} {args : Array Value} {below : List Frame} {meth : Method} {c : Code} {Q : State → Prop} (d md ou ab av c1 c2 c3 c4 c5 c6 c7 c8 c9 k sc j : Nat) (μ : mp) (D : Nat → Prop) (hx : p.tables.exec = Jvm.exec) (hb : c.code = cL_law) (hml : c.maxLocals = 8) (hown : s.vm.findClass RL = some m.cls) (hts : ∀ w ∈ wsL_law, w.before args s = true) (hBs : B ≤ s.heap.size) (hKK : KK G B s) (hDc : DcI s) (hNc : va_Nc exS exA s) (hscB : sc0 < B) (hbl : sc0 < s.heap.size) (hX : va_X sc0 n9 fs s s.heap) (hn9 : n9 ≤ 3072) (hj : 6 * j + 6 ≤ n9) (LN : ∀ (μ9 : mp) (k9 sc9 : Nat) (D9 : Nat → Prop) (_ : LI G μ9 d md ou ab av c1 c2 c3 c4 c5 c6 c7 c8 c9 k9 sc9 D9) (H : Heap) (locs : List Loc), mw G.1 vwCl B μ9 H → va_S (fun q => B ≤ q) s.heap H locs → ∀ ls : Array Slot, lv_has ls 8 [(4, .int (nI (6 * j))), (3, .ref ou), (2, .ref md), (1, .ref d), (0, .ref sc0)] → W p l e room_1 s m args below meth c H locs (108 + 5 * (j + 1) + 23 * k9) (7869 + 30 * (j + 1) + 7268 * k9) Q (F0 m 822 ls [])) (hI : LI G μ d md ou ab av c1 c2 c3 c4 c5 c6 c7 c8 c9 k sc D) (H : Heap) (locs : List Loc) (hP : mw G.1 vwCl B μ H) (hS : va_S (fun q => B ≤ q) s.heap H locs) (ls : Array Slot) (hl : lv_has ls 8 [(4, .int (nI (6 * j))), (3, .ref ou), (2, .ref md), (1, .ref d), (0, .ref sc0)]) : W p l e room_1 s m args below meth c H locs (108 + 5 * j + 23 * k) (7869 + 30 * j + 7268 * k) Q (F0 m 665 ls []) := by
  have hK := hKK.k
  obtain ⟨hG, ⟨fl, hmd⟩, ⟨f, hab, hsy⟩, ⟨v, hav, hvb⟩, ⟨i1, i2, i3, i4, i5, i6, ⟨hc1, hc2, hc3, hc4, hc5, hc6⟩, hSM⟩, ⟨l7, l8, l9, hc7, hc8, hc9⟩, ⟨fo, hou⟩, ⟨hn_md, hn_ou, hn_ab, hn_av, hn_c1, hn_c2, hn_c3, hn_c4, hn_c5, hn_c6, hn_c7, hn_c8, hn_c9⟩, ⟨n12, n13, n14, n15, n16, n23, n24, n25, n26, n34, n35, n36, n45, n46, n56, n78, n79, n89⟩⟩ := hI
  have hst := hG.nD
  have hk5 := hG.kl
  obtain ⟨fsd, hdd⟩ := hG.dd
  refine lv_aload_n hx hb dL_law_665 rfl (lv_at hl 3 rfl) ?_
  refine lv_aload_n hx hb dL_law_666 rfl (lv_at hl 4 rfl) ?_
  refine lv_iload hx hb dL_law_667 (lv_at hl 0 rfl) ?_
  refine lv_iconst (v := nI 1) hx hb dL_law_669 (by decide) ?_
  refine nv_iadd hx hb dL_law_670 ?_
  refine sc_iald (i := (6 * j) + 1) hx hb hX hbl hscB hS (by omega) (by omega) dL_law_671 ?_
  refine lv_aload_n hx hb dL_law_672 rfl (lv_at hl 4 rfl) ?_
  refine lv_iload hx hb dL_law_673 (lv_at hl 0 rfl) ?_
  refine lv_iconst (v := nI 2) hx hb dL_law_675 (by decide) ?_
  refine nv_iadd hx hb dL_law_676 ?_
  refine sc_iald (i := (6 * j) + 2) hx hb hX hbl hscB hS (by omega) (by omega) dL_law_677 ?_
  refine lv_aload_n hx hb dL_law_678 rfl (lv_at hl 4 rfl) ?_
  refine lv_iload hx hb dL_law_679 (lv_at hl 0 rfl) ?_
  refine lv_iconst (v := nI 3) hx hb dL_law_681 (by decide) ?_
  refine nv_iadd hx hb dL_law_682 ?_
  refine sc_iald (i := (6 * j) + 3) hx hb hX hbl hscB hS (by omega) (by omega) dL_law_683 ?_
  refine lv_aload_n hx hb dL_law_684 rfl (lv_at hl 4 rfl) ?_
  refine lv_iload hx hb dL_law_685 (lv_at hl 0 rfl) ?_
  refine lv_iconst (v := nI 4) hx hb dL_law_687 (by decide) ?_
  refine nv_iadd hx hb dL_law_688 ?_
  refine sc_iald (i := (6 * j) + 4) hx hb hX hbl hscB hS (by omega) (by omega) dL_law_689 ?_
  refine lv_aload_n hx hb dL_law_690 rfl (lv_at hl 4 rfl) ?_
  refine lv_iload hx hb dL_law_691 (lv_at hl 0 rfl) ?_
  refine lv_iconst (v := nI 5) hx hb dL_law_693 (by decide) ?_
  refine nv_iadd hx hb dL_law_694 ?_
  refine sc_iald (i := (6 * j) + 5) hx hb hX hbl hscB hS (by omega) (by omega) dL_law_695 ?_
  refine lv_aload_n hx hb dL_law_696 rfl (lv_at hl 1 rfl) ?_
  refine kx_i (vx_runSX (As := [.ref d, .int (fs ((6 * j) + 1)), .int (fs ((6 * j) + 2)), .int (fs ((6 * j) + 3)), .int (fs ((6 * j) + 4)), .int (fs ((6 * j) + 5)), .ref ou]) (rest := []) ⟨hx, hb, hml, hown, hts⟩ (w_L_step l hlt G B (μ) d k sc D (fs ((6 * j) + 1)) (fs ((6 * j) + 2)) (fs ((6 * j) + 3)) (fs ((6 * j) + 4)) (fs ((6 * j) + 5)) ou fo hG hou hn_ou) (vx_cwSW 7 hts gL_law_L_step rfl rfl rfl (by decide +kernel) ⟨Nat.le_of_ble_eq_true rfl, Nat.le_of_ble_eq_true rfl⟩) ⟨KXC.blind, fun U9 hU9 hW9 => ⟨rfl, ⟨KW.pre hBs hKK hS hP U9 hU9 hW9, hDc.at hW9⟩, hNc.moved hW9.alike⟩⟩ rfl rfl hl.1 rfl (lv_room (Nat.le_of_ble_eq_true rfl)) dL_law_697 ⟨(Nat.le_trans (m := 601024) (by omega) (Nat.le_refl _)), (Nat.le_trans (m := 7293033) (by omega) (Nat.le_refl _))⟩) hS (fun E ce q9 H locs hce hP hS h91 h92 h93 => ?_) (fun r697 m697 H locs hq9 hP hz9 hS => ?_)
  · exact False.elim hce
  obtain ⟨sc9, fo9, hG1, hF1, hou9, hcase⟩ := hq9
  have hk6 := hG1.kl
  have hg_md := hF1.1 md _ (hmd) (mp_ne hmd hou (by simp)) hn_md
  have hg_ab := hF1.1 ab _ (hab) (mp_ne hab hou (by simp)) hn_ab
  have hg_av := hF1.1 av _ (hav) (mp_ne hav hou (by simp)) hn_av
  have hg_c1 := hF1.1 c1 _ (hc1) (mp_ne hc1 hou (by simp)) hn_c1
  have hg_c2 := hF1.1 c2 _ (hc2) (mp_ne hc2 hou (by simp)) hn_c2
  have hg_c3 := hF1.1 c3 _ (hc3) (mp_ne hc3 hou (by simp)) hn_c3
  have hg_c4 := hF1.1 c4 _ (hc4) (mp_ne hc4 hou (by simp)) hn_c4
  have hg_c5 := hF1.1 c5 _ (hc5) (mp_ne hc5 hou (by simp)) hn_c5
  have hg_c6 := hF1.1 c6 _ (hc6) (mp_ne hc6 hou (by simp)) hn_c6
  have hg_c7 := hF1.1 c7 _ (hc7) (mp_ne hc7 hou (by simp)) hn_c7
  have hg_c8 := hF1.1 c8 _ (hc8) (mp_ne hc8 hou (by simp)) hn_c8
  have hg_c9 := hF1.1 c9 _ (hc9) (mp_ne hc9 hou (by simp)) hn_c9
  refine lv_istore (lv' := [(5, .int r697), (4, .int (nI (6 * j))), (3, .ref ou), (2, .ref md), (1, .ref d), (0, .ref sc0)]) hx hb dL_law_700 hl (by decide) rfl (fun ls hl => ?_)
  refine lv_aload_n hx hb dL_law_702 rfl (lv_at hl 3 rfl) ?_
  refine lv_aload_n hx hb dL_law_703 rfl (lv_at hl 5 rfl) ?_
  refine lv_iload hx hb dL_law_704 (lv_at hl 1 rfl) ?_
  refine lv_iconst (v := nI 1) hx hb dL_law_706 (by decide) ?_
  refine nv_iadd hx hb dL_law_707 ?_
  refine sc_iald (i := (6 * j) + 1) hx hb hX hbl hscB hS (by omega) (by omega) dL_law_708 ?_
  refine lv_aload_n hx hb dL_law_709 rfl (lv_at hl 5 rfl) ?_
  refine lv_iload hx hb dL_law_710 (lv_at hl 1 rfl) ?_
  refine lv_iconst (v := nI 2) hx hb dL_law_712 (by decide) ?_
  refine nv_iadd hx hb dL_law_713 ?_
  refine sc_iald (i := (6 * j) + 2) hx hb hX hbl hscB hS (by omega) (by omega) dL_law_714 ?_
  refine lv_aload_n hx hb dL_law_715 rfl (lv_at hl 5 rfl) ?_
  refine lv_iload hx hb dL_law_716 (lv_at hl 1 rfl) ?_
  refine lv_iconst (v := nI 3) hx hb dL_law_718 (by decide) ?_
  refine nv_iadd hx hb dL_law_719 ?_
  refine sc_iald (i := (6 * j) + 3) hx hb hX hbl hscB hS (by omega) (by omega) dL_law_720 ?_
  refine lv_aload_n hx hb dL_law_721 rfl (lv_at hl 5 rfl) ?_
  refine lv_iload hx hb dL_law_722 (lv_at hl 1 rfl) ?_
  refine lv_iconst (v := nI 4) hx hb dL_law_724 (by decide) ?_
  refine nv_iadd hx hb dL_law_725 ?_
  refine sc_iald (i := (6 * j) + 4) hx hb hX hbl hscB hS (by omega) (by omega) dL_law_726 ?_
  refine lv_aload_n hx hb dL_law_727 rfl (lv_at hl 5 rfl) ?_
  refine lv_iload hx hb dL_law_728 (lv_at hl 1 rfl) ?_
  refine lv_iconst (v := nI 5) hx hb dL_law_730 (by decide) ?_
  refine nv_iadd hx hb dL_law_731 ?_
  refine sc_iald (i := (6 * j) + 5) hx hb hX hbl hscB hS (by omega) (by omega) dL_law_732 ?_
  refine kc_i (va_runV (As := [.int (fs ((6 * j) + 1)), .int (fs ((6 * j) + 2)), .int (fs ((6 * j) + 3)), .int (fs ((6 * j) + 4)), .int (fs ((6 * j) + 5))]) (rest := []) ⟨hx, hb, hml, hown, hts⟩ (m_X4_step l G B (m697) md ab av c1 c2 c3 c4 c5 c6 c7 c8 c9 fl sc f v i1 i2 i3 i4 i5 i6 (fs ((6 * j) + 1)) (fs ((6 * j) + 2)) (fs ((6 * j) + 3)) (fs ((6 * j) + 4)) (fs ((6 * j) + 5)) (hg_md) (hg_ab) (hg_av) (hg_c1) (hg_c2) (hg_c3) (hg_c4) (hg_c5) (hg_c6) hst hSM n12 n13 n14 n15 n16 n23 n24 n25 n26 n34 n35 n36 n45 n46 n56) (cwV 5 hts gL_law_X4_step rfl rfl rfl (by decide +kernel) ⟨Nat.le_of_ble_eq_true rfl, Nat.le_of_ble_eq_true rfl⟩) ⟨KW.blind, hP.recv hK rfl (hg_md), fun U9 hU9 hW9 => ⟨rfl, KW.pre hBs hKK hS hP U9 hU9 hW9⟩⟩ rfl rfl hl.1 rfl (lv_room (Nat.le_of_ble_eq_true rfl)) dL_law_733 ⟨(Nat.le_trans (m := 601024) (by omega) (Nat.le_refl _)), (Nat.le_trans (m := 7293033) (by omega) (Nat.le_refl _))⟩) hS (fun r733 m733 H locs hq9 hP hz9 hS => ?_)
  obtain ⟨fl9, st9, j1, j2, j3, j4, j5, j6, he9, ⟨hst9, hSM9⟩, hm9⟩ := hq9
  rw [he9] at hP
  have hse : st9 = sc9 := by rcases hcase with ⟨-, ho, h1, h2, -⟩ | ⟨-, ho, h2⟩ | ⟨-, ho, h1, h2⟩ <;> rcases hm9 with ⟨-, hp, h3, h4, -⟩ | ⟨-, hp, h4⟩ | ⟨-, hp, h3, h4⟩ <;> first | omega | exact absurd ho hp | exact absurd hp ho
  subst hse
  refine lv_istore (lv' := [(6, .int r733), (5, .int r697), (4, .int (nI (6 * j))), (3, .ref ou), (2, .ref md), (1, .ref d), (0, .ref sc0)]) hx hb dL_law_736 hl (by decide) rfl (fun ls hl => ?_)
  refine lv_goto (tgt := 822) hx hb dL_law_738 (by decide) ?_
  refine W.widen (k := 108 + 5 * (j + 1) + 23 * k) (n := 7869 + 30 * (j + 1) + 7268 * k) (by omega) (by omega) ?_
  exact LN (mu (mu (mu (mu (mu (mu (mu m697 md (.inr (4, [.int (nI fl9), .ref ab, .ref av, .int (nI st9), .ref c1, .ref c2, .ref c3, .ref c4, .ref c5, .ref c6, .ref c7, .ref c8, .ref c9]))) c1 (.inl (G.2 1, 20, .inl j1))) c2 (.inl (G.2 1, 20, .inl j2))) c3 (.inl (G.2 1, 20, .inl j3))) c4 (.inl (G.2 1, 20, .inl j4))) c5 (.inl (G.2 1, 20, .inl j5))) c6 (.inl (G.2 1, 20, .inl j6))) k st9 (DN2 D μ) (⟨(DG.mux (DG.mux (DG.mux (DG.mux (DG.mux (DG.mux (DG.mux hG1 (hg_md) (DN2.no (hmd) hn_md) (by intro _ _ _ h9; simp at h9)) ((mu_n ((mp_ne hg_c1 hg_md (by simp)))).trans (hg_c1)) (DN2.no (hc1) hn_c1) (by intro _ _ _ h9; simp at h9)) ((mu_n ((Ne.symm n12))).trans ((mu_n ((mp_ne hg_c2 hg_md (by simp)))).trans (hg_c2))) (DN2.no (hc2) hn_c2) (by intro _ _ _ h9; simp at h9)) ((mu_n ((Ne.symm n23))).trans ((mu_n ((Ne.symm n13))).trans ((mu_n ((mp_ne hg_c3 hg_md (by simp)))).trans (hg_c3)))) (DN2.no (hc3) hn_c3) (by intro _ _ _ h9; simp at h9)) ((mu_n ((Ne.symm n34))).trans ((mu_n ((Ne.symm n24))).trans ((mu_n ((Ne.symm n14))).trans ((mu_n ((mp_ne hg_c4 hg_md (by simp)))).trans (hg_c4))))) (DN2.no (hc4) hn_c4) (by intro _ _ _ h9; simp at h9)) ((mu_n ((Ne.symm n45))).trans ((mu_n ((Ne.symm n35))).trans ((mu_n ((Ne.symm n25))).trans ((mu_n ((Ne.symm n15))).trans ((mu_n ((mp_ne hg_c5 hg_md (by simp)))).trans (hg_c5)))))) (DN2.no (hc5) hn_c5) (by intro _ _ _ h9; simp at h9)) ((mu_n ((Ne.symm n56))).trans ((mu_n ((Ne.symm n46))).trans ((mu_n ((Ne.symm n36))).trans ((mu_n ((Ne.symm n26))).trans ((mu_n ((Ne.symm n16))).trans ((mu_n ((mp_ne hg_c6 hg_md (by simp)))).trans (hg_c6))))))) (DN2.no (hc6) hn_c6) (by intro _ _ _ h9; simp at h9)), ⟨_, ((mu_n ((mp_ne hg_md hg_c6 (by simp)))).trans ((mu_n ((mp_ne hg_md hg_c5 (by simp)))).trans ((mu_n ((mp_ne hg_md hg_c4 (by simp)))).trans ((mu_n ((mp_ne hg_md hg_c3 (by simp)))).trans ((mu_n ((mp_ne hg_md hg_c2 (by simp)))).trans ((mu_n ((mp_ne hg_md hg_c1 (by simp)))).trans (mu_s _ _ _)))))))⟩, ⟨_, ((mu_n ((mp_ne hg_ab hg_c6 (by simp)))).trans ((mu_n ((mp_ne hg_ab hg_c5 (by simp)))).trans ((mu_n ((mp_ne hg_ab hg_c4 (by simp)))).trans ((mu_n ((mp_ne hg_ab hg_c3 (by simp)))).trans ((mu_n ((mp_ne hg_ab hg_c2 (by simp)))).trans ((mu_n ((mp_ne hg_ab hg_c1 (by simp)))).trans ((mu_n ((mp_ne hg_ab hg_md (by simp)))).trans (hg_ab)))))))), hsy⟩, ⟨_, ((mu_n ((mp_ne hg_av hg_c6 (by simp)))).trans ((mu_n ((mp_ne hg_av hg_c5 (by simp)))).trans ((mu_n ((mp_ne hg_av hg_c4 (by simp)))).trans ((mu_n ((mp_ne hg_av hg_c3 (by simp)))).trans ((mu_n ((mp_ne hg_av hg_c2 (by simp)))).trans ((mu_n ((mp_ne hg_av hg_c1 (by simp)))).trans ((mu_n ((mp_ne hg_av hg_md (by simp)))).trans (hg_av)))))))), hvb⟩, ⟨_, _, _, _, _, _, ⟨((mu_n n16).trans ((mu_n n15).trans ((mu_n n14).trans ((mu_n n13).trans ((mu_n n12).trans (mu_s _ _ _)))))), ((mu_n n26).trans ((mu_n n25).trans ((mu_n n24).trans ((mu_n n23).trans (mu_s _ _ _))))), ((mu_n n36).trans ((mu_n n35).trans ((mu_n n34).trans (mu_s _ _ _)))), ((mu_n n46).trans ((mu_n n45).trans (mu_s _ _ _))), ((mu_n n56).trans (mu_s _ _ _)), (mu_s _ _ _)⟩, hSM9⟩, ⟨_, _, _, ((mu_n ((mp_ne hg_c7 hg_c6 (by simp)))).trans ((mu_n ((mp_ne hg_c7 hg_c5 (by simp)))).trans ((mu_n ((mp_ne hg_c7 hg_c4 (by simp)))).trans ((mu_n ((mp_ne hg_c7 hg_c3 (by simp)))).trans ((mu_n ((mp_ne hg_c7 hg_c2 (by simp)))).trans ((mu_n ((mp_ne hg_c7 hg_c1 (by simp)))).trans ((mu_n ((mp_ne hg_c7 hg_md (by simp)))).trans (hg_c7)))))))), ((mu_n ((mp_ne hg_c8 hg_c6 (by simp)))).trans ((mu_n ((mp_ne hg_c8 hg_c5 (by simp)))).trans ((mu_n ((mp_ne hg_c8 hg_c4 (by simp)))).trans ((mu_n ((mp_ne hg_c8 hg_c3 (by simp)))).trans ((mu_n ((mp_ne hg_c8 hg_c2 (by simp)))).trans ((mu_n ((mp_ne hg_c8 hg_c1 (by simp)))).trans ((mu_n ((mp_ne hg_c8 hg_md (by simp)))).trans (hg_c8)))))))), ((mu_n ((mp_ne hg_c9 hg_c6 (by simp)))).trans ((mu_n ((mp_ne hg_c9 hg_c5 (by simp)))).trans ((mu_n ((mp_ne hg_c9 hg_c4 (by simp)))).trans ((mu_n ((mp_ne hg_c9 hg_c3 (by simp)))).trans ((mu_n ((mp_ne hg_c9 hg_c2 (by simp)))).trans ((mu_n ((mp_ne hg_c9 hg_c1 (by simp)))).trans ((mu_n ((mp_ne hg_c9 hg_md (by simp)))).trans (hg_c9))))))))⟩, ⟨_, ((mu_n ((mp_ne hou9 hg_c6 (by simp)))).trans ((mu_n ((mp_ne hou9 hg_c5 (by simp)))).trans ((mu_n ((mp_ne hou9 hg_c4 (by simp)))).trans ((mu_n ((mp_ne hou9 hg_c3 (by simp)))).trans ((mu_n ((mp_ne hou9 hg_c2 (by simp)))).trans ((mu_n ((mp_ne hou9 hg_c1 (by simp)))).trans ((mu_n ((mp_ne hou9 hg_md (by simp)))).trans (hou9))))))))⟩, ⟨DN2.no (hmd) hn_md, DN2.no (hou) hn_ou, DN2.no (hab) hn_ab, DN2.no (hav) hn_av, DN2.no (hc1) hn_c1, DN2.no (hc2) hn_c2, DN2.no (hc3) hn_c3, DN2.no (hc4) hn_c4, DN2.no (hc5) hn_c5, DN2.no (hc6) hn_c6, DN2.no (hc7) hn_c7, DN2.no (hc8) hn_c8, DN2.no (hc9) hn_c9⟩, ⟨n12, n13, n14, n15, n16, n23, n24, n25, n26, n34, n35, n36, n45, n46, n56, n78, n79, n89⟩⟩) _ _ hP hS ls (lv_sub hl [2, 3, 4, 5, 6] rfl)

set_option maxHeartbeats 4000000 in
set_option maxRecDepth 100000 in
theorem lg_14 (l : Launch) (hlt : l.stackTraces = false) (G : GG) (B : Nat) (sc0 : Nat) (fs : Nat → Int32) (n9 : Nat) {p : Program} {e : Env} {s : State} {m : MethodId} {args : Array Value} {below : List Frame} {meth : Method} {c : Code} {Q : State → Prop} (d md ou ab av c1 c2 c3 c4 c5 c6 c7 c8 c9 k sc j : Nat) (μ : mp) (D : Nat → Prop) (hx : p.tables.exec = Jvm.exec) (hb : c.code = cL_law) (hml : c.maxLocals = 8) (hown : s.vm.findClass RL = some m.cls) (hts : ∀ w ∈ wsL_law, w.before args s = true) (hBs : B ≤ s.heap.size) (hKK : KK G B s) (hDc : DcI s) (hNc : va_Nc exS exA s) (hscB : sc0 < B) (hbl : sc0 < s.heap.size) (hX : va_X sc0 n9 fs s s.heap) (hn9 : n9 ≤ 3072) (hj : 6 * j + 6 ≤ n9) (LN : ∀ (μ9 : mp) (k9 sc9 : Nat) (D9 : Nat → Prop) (_ : LI G μ9 d md ou ab av c1 c2 c3 c4 c5 c6 c7 c8 c9 k9 sc9 D9) (H : Heap) (locs : List Loc), mw G.1 vwCl B μ9 H → va_S (fun q => B ≤ q) s.heap H locs → ∀ ls : Array Slot, lv_has ls 8 [(4, .int (nI (6 * j))), (3, .ref ou), (2, .ref md), (1, .ref d), (0, .ref sc0)] → W p l e room_1 s m args below meth c H locs (108 + 5 * (j + 1) + 23 * k9) (7869 + 30 * (j + 1) + 7268 * k9) Q (F0 m 822 ls [])) (hI : LI G μ d md ou ab av c1 c2 c3 c4 c5 c6 c7 c8 c9 k sc D) (H : Heap) (locs : List Loc) (hP : mw G.1 vwCl B μ H) (hS : va_S (fun q => B ≤ q) s.heap H locs) (ls : Array Slot) (hl : lv_has ls 8 [(4, .int (nI (6 * j))), (3, .ref ou), (2, .ref md), (1, .ref d), (0, .ref sc0)]) : W p l e room_1 s m args below meth c H locs (108 + 5 * j + 23 * k) (7869 + 30 * j + 7268 * k) Q (F0 m 741 ls []) := by
  have hK := hKK.k
  obtain ⟨hG, ⟨fl, hmd⟩, ⟨f, hab, hsy⟩, ⟨v, hav, hvb⟩, ⟨i1, i2, i3, i4, i5, i6, ⟨hc1, hc2, hc3, hc4, hc5, hc6⟩, hSM⟩, ⟨l7, l8, l9, hc7, hc8, hc9⟩, ⟨fo, hou⟩, ⟨hn_md, hn_ou, hn_ab, hn_av, hn_c1, hn_c2, hn_c3, hn_c4, hn_c5, hn_c6, hn_c7, hn_c8, hn_c9⟩, ⟨n12, n13, n14, n15, n16, n23, n24, n25, n26, n34, n35, n36, n45, n46, n56, n78, n79, n89⟩⟩ := hI
  have hst := hG.nD
  have hk5 := hG.kl
  obtain ⟨fsd, hdd⟩ := hG.dd
  refine lv_aload_n hx hb dL_law_741 rfl (lv_at hl 3 rfl) ?_
  refine kc_i (va_runV (As := []) (rest := []) ⟨hx, hb, hml, hown, hts⟩ (g_X3_erase l G B (μ) d k sc D hG) (cwV 0 hts gL_law_X3_erase rfl rfl rfl (by decide +kernel) ⟨Nat.le_of_ble_eq_true rfl, Nat.le_of_ble_eq_true rfl⟩) ⟨KW.blind, hP.recv hK rfl (hdd), fun U9 hU9 hW9 => ⟨rfl, KW.pre hBs hKK hS hP U9 hU9 hW9⟩⟩ rfl rfl hl.1 rfl (lv_room (Nat.le_of_ble_eq_true rfl)) dL_law_742 ⟨(Nat.le_trans (m := 601024) (by omega) (Nat.le_refl _)), (Nat.le_trans (m := 7293033) (by omega) (Nat.le_refl _))⟩) hS (fun r742 m742 H locs hq9 hP hz9 hS => ?_)
  obtain ⟨hr9, hG1, hF1⟩ := hq9
  obtain rfl : r742 = nI sc := hr9
  have hk6 := hG1.kl
  have hg_md := hF1.1 md _ (hmd) hn_md
  have hg_ab := hF1.1 ab _ (hab) hn_ab
  have hg_av := hF1.1 av _ (hav) hn_av
  have hg_c1 := hF1.1 c1 _ (hc1) hn_c1
  have hg_c2 := hF1.1 c2 _ (hc2) hn_c2
  have hg_c3 := hF1.1 c3 _ (hc3) hn_c3
  have hg_c4 := hF1.1 c4 _ (hc4) hn_c4
  have hg_c5 := hF1.1 c5 _ (hc5) hn_c5
  have hg_c6 := hF1.1 c6 _ (hc6) hn_c6
  have hg_c7 := hF1.1 c7 _ (hc7) hn_c7
  have hg_c8 := hF1.1 c8 _ (hc8) hn_c8
  have hg_c9 := hF1.1 c9 _ (hc9) hn_c9
  have hg_ou := hF1.1 ou _ (hou) hn_ou
  refine lv_aload_n hx hb dL_law_745 rfl (lv_at hl 2 rfl) ?_
  refine kc_i (va_runV (As := []) (rest := [.int (nI sc)]) ⟨hx, hb, hml, hown, hts⟩ (c_X4_erase l G B (m742) md ab av c1 c2 c3 c4 c5 c6 c7 c8 c9 fl sc f v (hg_md) (hg_ab) (hg_av)) (cwV 0 hts gL_law_X4_erase rfl rfl rfl (by decide +kernel) ⟨Nat.le_of_ble_eq_true rfl, Nat.le_of_ble_eq_true rfl⟩) ⟨KW.blind, hP.recv hK rfl (hg_md), fun U9 hU9 hW9 => ⟨rfl, KW.pre hBs hKK hS hP U9 hU9 hW9⟩⟩ rfl rfl hl.1 rfl (lv_room (Nat.le_of_ble_eq_true rfl)) dL_law_746 ⟨(Nat.le_trans (m := 601024) (by omega) (Nat.le_refl _)), (Nat.le_trans (m := 7293033) (by omega) (Nat.le_refl _))⟩) hS (fun r746 m746 H locs hq9 hP hz9 hS => ?_)
  obtain ⟨hr9, he9⟩ := hq9
  rw [he9] at hP
  obtain rfl : r746 = nI sc := hr9
  refine nv_icmp_eq (tgt := 822) hx hb (by omega) (by omega) dL_law_749 (by decide) (fun hc749 => ?_) (fun hc749 => ?_)
  · refine W.widen (k := 108 + 5 * (j + 1) + 23 * k) (n := 7869 + 30 * (j + 1) + 7268 * k) (by omega) (by omega) ?_
    exact LN (mu m742 md (.inr (4, [.int (nI 0), .ref ab, .ref av, .int (nI 0), .ref c1, .ref c2, .ref c3, .ref c4, .ref c5, .ref c6, .ref c7, .ref c8, .ref c9]))) k 0 (DN2 D μ) (⟨(DG.mux hG1 (hg_md) (DN2.no (hmd) hn_md) (by intro _ _ _ h9; simp at h9)), ⟨_, (mu_s _ _ _)⟩, ⟨_, ((mu_n ((mp_ne hg_ab hg_md (by simp)))).trans (hg_ab)), hsy⟩, ⟨_, ((mu_n ((mp_ne hg_av hg_md (by simp)))).trans (hg_av)), hvb⟩, ⟨_, _, _, _, _, _, ⟨((mu_n ((mp_ne hg_c1 hg_md (by simp)))).trans (hg_c1)), ((mu_n ((mp_ne hg_c2 hg_md (by simp)))).trans (hg_c2)), ((mu_n ((mp_ne hg_c3 hg_md (by simp)))).trans (hg_c3)), ((mu_n ((mp_ne hg_c4 hg_md (by simp)))).trans (hg_c4)), ((mu_n ((mp_ne hg_c5 hg_md (by simp)))).trans (hg_c5)), ((mu_n ((mp_ne hg_c6 hg_md (by simp)))).trans (hg_c6))⟩, (fun j h9 => absurd h9 (Nat.not_lt_zero _))⟩, ⟨_, _, _, ((mu_n ((mp_ne hg_c7 hg_md (by simp)))).trans (hg_c7)), ((mu_n ((mp_ne hg_c8 hg_md (by simp)))).trans (hg_c8)), ((mu_n ((mp_ne hg_c9 hg_md (by simp)))).trans (hg_c9))⟩, ⟨_, ((mu_n ((mp_ne hg_ou hg_md (by simp)))).trans (hg_ou))⟩, ⟨DN2.no (hmd) hn_md, DN2.no (hou) hn_ou, DN2.no (hab) hn_ab, DN2.no (hav) hn_av, DN2.no (hc1) hn_c1, DN2.no (hc2) hn_c2, DN2.no (hc3) hn_c3, DN2.no (hc4) hn_c4, DN2.no (hc5) hn_c5, DN2.no (hc6) hn_c6, DN2.no (hc7) hn_c7, DN2.no (hc8) hn_c8, DN2.no (hc9) hn_c9⟩, ⟨n12, n13, n14, n15, n16, n23, n24, n25, n26, n34, n35, n36, n45, n46, n56, n78, n79, n89⟩⟩) _ _ hP hS ls (lv_sub hl [0, 1, 2, 3, 4] rfl)
  · exact absurd rfl hc749

set_option maxHeartbeats 4000000 in
set_option maxRecDepth 100000 in
theorem lg_15 (l : Launch) (hlt : l.stackTraces = false) (G : GG) (B : Nat) (sc0 : Nat) (fs : Nat → Int32) (n9 : Nat) {p : Program} {e : Env} {s : State} {m : MethodId} {args : Array Value} {below : List Frame} {meth : Method} {c : Code} {Q : State → Prop} (d md ou ab av c1 c2 c3 c4 c5 c6 c7 c8 c9 k sc j : Nat) (μ : mp) (D : Nat → Prop) (hx : p.tables.exec = Jvm.exec) (hb : c.code = cL_law) (hml : c.maxLocals = 8) (hown : s.vm.findClass RL = some m.cls) (hts : ∀ w ∈ wsL_law, w.before args s = true) (hBs : B ≤ s.heap.size) (hKK : KK G B s) (hDc : DcI s) (hNc : va_Nc exS exA s) (hscB : sc0 < B) (hbl : sc0 < s.heap.size) (hX : va_X sc0 n9 fs s s.heap) (hn9 : n9 ≤ 3072) (hj : 6 * j + 6 ≤ n9) (LN : ∀ (μ9 : mp) (k9 sc9 : Nat) (D9 : Nat → Prop) (_ : LI G μ9 d md ou ab av c1 c2 c3 c4 c5 c6 c7 c8 c9 k9 sc9 D9) (H : Heap) (locs : List Loc), mw G.1 vwCl B μ9 H → va_S (fun q => B ≤ q) s.heap H locs → ∀ ls : Array Slot, lv_has ls 8 [(4, .int (nI (6 * j))), (3, .ref ou), (2, .ref md), (1, .ref d), (0, .ref sc0)] → W p l e room_1 s m args below meth c H locs (108 + 5 * (j + 1) + 23 * k9) (7869 + 30 * (j + 1) + 7268 * k9) Q (F0 m 822 ls [])) (hI : LI G μ d md ou ab av c1 c2 c3 c4 c5 c6 c7 c8 c9 k sc D) (H : Heap) (locs : List Loc) (hP : mw G.1 vwCl B μ H) (hS : va_S (fun q => B ≤ q) s.heap H locs) (ls : Array Slot) (hl : lv_has ls 8 [(4, .int (nI (6 * j))), (3, .ref ou), (2, .ref md), (1, .ref d), (0, .ref sc0)]) : W p l e room_1 s m args below meth c H locs (108 + 5 * j + 23 * k) (7869 + 30 * j + 7268 * k) Q (F0 m 754 ls []) := by
  have hK := hKK.k
  obtain ⟨hG, ⟨fl, hmd⟩, ⟨f, hab, hsy⟩, ⟨v, hav, hvb⟩, ⟨i1, i2, i3, i4, i5, i6, ⟨hc1, hc2, hc3, hc4, hc5, hc6⟩, hSM⟩, ⟨l7, l8, l9, hc7, hc8, hc9⟩, ⟨fo, hou⟩, ⟨hn_md, hn_ou, hn_ab, hn_av, hn_c1, hn_c2, hn_c3, hn_c4, hn_c5, hn_c6, hn_c7, hn_c8, hn_c9⟩, ⟨n12, n13, n14, n15, n16, n23, n24, n25, n26, n34, n35, n36, n45, n46, n56, n78, n79, n89⟩⟩ := hI
  have hst := hG.nD
  have hk5 := hG.kl
  obtain ⟨fsd, hdd⟩ := hG.dd
  refine lv_aload_n hx hb dL_law_754 rfl (lv_at hl 3 rfl) ?_
  refine lv_aload_n hx hb dL_law_755 rfl (lv_at hl 4 rfl) ?_
  refine lv_iload hx hb dL_law_756 (lv_at hl 0 rfl) ?_
  refine lv_iconst (v := nI 1) hx hb dL_law_758 (by decide) ?_
  refine nv_iadd hx hb dL_law_759 ?_
  refine sc_iald (i := (6 * j) + 1) hx hb hX hbl hscB hS (by omega) (by omega) dL_law_760 ?_
  refine lv_aload_n hx hb dL_law_761 rfl (lv_at hl 1 rfl) ?_
  refine kgx_i (vx_runSX (As := [.ref d, .int (fs ((6 * j) + 1)), .ref ou]) (rest := []) ⟨hx, hb, hml, hown, hts⟩ (w_L_run l hlt G B (μ) _ _ d k sc D (fs ((6 * j) + 1)) ou fo hG hou hn_ou) (vx_cwSW 3 hts gL_law_L_run rfl rfl rfl (by decide +kernel) ⟨Nat.le_of_ble_eq_true rfl, Nat.le_of_ble_eq_true rfl⟩) ⟨KXCN.blind, fun U9 hU9 hW9 => ⟨rfl, ⟨⟨KW.pre hBs hKK hS hP U9 hU9 hW9, hDc.at hW9⟩, by rw [hU9], by rw [hU9]⟩, hNc.moved hW9.alike⟩⟩ rfl rfl hl.1 rfl (lv_room (Nat.le_of_ble_eq_true rfl)) dL_law_762 ⟨(Nat.le_trans (m := 601024) (by omega) (Nat.le_refl _)), (Nat.le_trans (m := 7293033) (by omega) (Nat.le_refl _))⟩) hS (fun E ce q9 H locs hce hP hS h91 h92 h93 => ?_) (fun r762 m762 k762 H locs hq9 hP hz9 hS => ?_)
  · exact False.elim hce
  obtain ⟨hkq, hG1, hF1, fo9, hou9⟩ := hq9
  have hk6 := hG1.kl
  have hg_md := hF1.1 md _ (hmd) (mp_ne hmd hou (by simp)) hn_md
  have hg_ab := hF1.1 ab _ (hab) (mp_ne hab hou (by simp)) hn_ab
  have hg_av := hF1.1 av _ (hav) (mp_ne hav hou (by simp)) hn_av
  have hg_c1 := hF1.1 c1 _ (hc1) (mp_ne hc1 hou (by simp)) hn_c1
  have hg_c2 := hF1.1 c2 _ (hc2) (mp_ne hc2 hou (by simp)) hn_c2
  have hg_c3 := hF1.1 c3 _ (hc3) (mp_ne hc3 hou (by simp)) hn_c3
  have hg_c4 := hF1.1 c4 _ (hc4) (mp_ne hc4 hou (by simp)) hn_c4
  have hg_c5 := hF1.1 c5 _ (hc5) (mp_ne hc5 hou (by simp)) hn_c5
  have hg_c6 := hF1.1 c6 _ (hc6) (mp_ne hc6 hou (by simp)) hn_c6
  have hg_c7 := hF1.1 c7 _ (hc7) (mp_ne hc7 hou (by simp)) hn_c7
  have hg_c8 := hF1.1 c8 _ (hc8) (mp_ne hc8 hou (by simp)) hn_c8
  have hg_c9 := hF1.1 c9 _ (hc9) (mp_ne hc9 hou (by simp)) hn_c9
  refine lv_istore (lv' := [(5, .int r762), (4, .int (nI (6 * j))), (3, .ref ou), (2, .ref md), (1, .ref d), (0, .ref sc0)]) hx hb dL_law_765 hl (by decide) rfl (fun ls hl => ?_)
  refine lv_aload_n hx hb dL_law_767 rfl (lv_at hl 3 rfl) ?_
  refine lv_aload_n hx hb dL_law_768 rfl (lv_at hl 5 rfl) ?_
  refine lv_iload hx hb dL_law_769 (lv_at hl 1 rfl) ?_
  refine lv_iconst (v := nI 1) hx hb dL_law_771 (by decide) ?_
  refine nv_iadd hx hb dL_law_772 ?_
  refine sc_iald (i := (6 * j) + 1) hx hb hX hbl hscB hS (by omega) (by omega) dL_law_773 ?_
  refine kc_i (va_runV (As := [.int (fs ((6 * j) + 1))]) (rest := []) ⟨hx, hb, hml, hown, hts⟩ (m_X4_run l G B (m762) md ab av c1 c2 c3 c4 c5 c6 c7 c8 c9 fl sc f v i1 i2 i3 i4 i5 i6 (fs ((6 * j) + 1)) (hg_md) (hg_ab) (hg_av) (hg_c1) (hg_c2) (hg_c3) (hg_c4) (hg_c5) (hg_c6) hst hSM hsy hvb) (cwV 1 hts gL_law_X4_run rfl rfl rfl (by decide +kernel) ⟨Nat.le_of_ble_eq_true rfl, Nat.le_of_ble_eq_true rfl⟩) ⟨KW.blind, hP.recv hK rfl (hg_md), fun U9 hU9 hW9 => ⟨rfl, KW.pre hBs hKK hS hP U9 hU9 hW9⟩⟩ rfl rfl hl.1 rfl (lv_room (Nat.le_of_ble_eq_true rfl)) dL_law_774 ⟨(Nat.le_trans (m := 601024) (by omega) (Nat.le_refl _)), (Nat.le_trans (m := 7293033) (by omega) (Nat.le_refl _))⟩) hS (fun r774 m774 H locs hq9 hP hz9 hS => ?_)
  obtain ⟨fl9, g9, w9, he9, ⟨hsy9, hvb9⟩⟩ := hq9
  rw [he9] at hP
  refine lv_istore (lv' := [(6, .int r774), (5, .int r762), (4, .int (nI (6 * j))), (3, .ref ou), (2, .ref md), (1, .ref d), (0, .ref sc0)]) hx hb dL_law_777 hl (by decide) rfl (fun ls hl => ?_)
  refine lv_goto (tgt := 822) hx hb dL_law_779 (by decide) ?_
  refine W.widen (k := 108 + 5 * (j + 1) + 23 * k762) (n := 7869 + 30 * (j + 1) + 7268 * k762) (by omega) (by omega) ?_
  exact LN (mu (mu (mu m762 md (.inr (4, [.int (nI fl9), .ref ab, .ref av, .int (nI sc), .ref c1, .ref c2, .ref c3, .ref c4, .ref c5, .ref c6, .ref c7, .ref c8, .ref c9]))) ab (.inl (G.2 0, 3744, .inr (.inl g9)))) av (.inl (G.2 2, 26, .inl w9))) k762 sc (DN2 D μ) (⟨(DG.mux (DG.mux (DG.mux hG1 (hg_md) (DN2.no (hmd) hn_md) (by intro _ _ _ h9; simp at h9)) ((mu_n ((mp_ne hg_ab hg_md (by simp)))).trans (hg_ab)) (DN2.no (hab) hn_ab) (by intro _ _ _ h9; simp at h9)) ((mu_n ((mp_ne hg_av hg_ab (by simp)))).trans ((mu_n ((mp_ne hg_av hg_md (by simp)))).trans (hg_av))) (DN2.no (hav) hn_av) (by intro _ _ _ h9; simp at h9)), ⟨_, ((mu_n ((mp_ne hg_md hg_av (by simp)))).trans ((mu_n ((mp_ne hg_md hg_ab (by simp)))).trans (mu_s _ _ _)))⟩, ⟨_, ((mu_n ((mp_ne hg_ab hg_av (by simp)))).trans (mu_s _ _ _)), hsy9⟩, ⟨_, (mu_s _ _ _), hvb9⟩, ⟨_, _, _, _, _, _, ⟨((mu_n ((mp_ne hg_c1 hg_av (by simp)))).trans ((mu_n ((mp_ne hg_c1 hg_ab (by simp)))).trans ((mu_n ((mp_ne hg_c1 hg_md (by simp)))).trans (hg_c1)))), ((mu_n ((mp_ne hg_c2 hg_av (by simp)))).trans ((mu_n ((mp_ne hg_c2 hg_ab (by simp)))).trans ((mu_n ((mp_ne hg_c2 hg_md (by simp)))).trans (hg_c2)))), ((mu_n ((mp_ne hg_c3 hg_av (by simp)))).trans ((mu_n ((mp_ne hg_c3 hg_ab (by simp)))).trans ((mu_n ((mp_ne hg_c3 hg_md (by simp)))).trans (hg_c3)))), ((mu_n ((mp_ne hg_c4 hg_av (by simp)))).trans ((mu_n ((mp_ne hg_c4 hg_ab (by simp)))).trans ((mu_n ((mp_ne hg_c4 hg_md (by simp)))).trans (hg_c4)))), ((mu_n ((mp_ne hg_c5 hg_av (by simp)))).trans ((mu_n ((mp_ne hg_c5 hg_ab (by simp)))).trans ((mu_n ((mp_ne hg_c5 hg_md (by simp)))).trans (hg_c5)))), ((mu_n ((mp_ne hg_c6 hg_av (by simp)))).trans ((mu_n ((mp_ne hg_c6 hg_ab (by simp)))).trans ((mu_n ((mp_ne hg_c6 hg_md (by simp)))).trans (hg_c6))))⟩, hSM⟩, ⟨_, _, _, ((mu_n ((mp_ne hg_c7 hg_av (by simp)))).trans ((mu_n ((mp_ne hg_c7 hg_ab (by simp)))).trans ((mu_n ((mp_ne hg_c7 hg_md (by simp)))).trans (hg_c7)))), ((mu_n ((mp_ne hg_c8 hg_av (by simp)))).trans ((mu_n ((mp_ne hg_c8 hg_ab (by simp)))).trans ((mu_n ((mp_ne hg_c8 hg_md (by simp)))).trans (hg_c8)))), ((mu_n ((mp_ne hg_c9 hg_av (by simp)))).trans ((mu_n ((mp_ne hg_c9 hg_ab (by simp)))).trans ((mu_n ((mp_ne hg_c9 hg_md (by simp)))).trans (hg_c9))))⟩, ⟨_, ((mu_n ((mp_ne hou9 hg_av (by simp)))).trans ((mu_n ((mp_ne hou9 hg_ab (by simp)))).trans ((mu_n ((mp_ne hou9 hg_md (by simp)))).trans (hou9))))⟩, ⟨DN2.no (hmd) hn_md, DN2.no (hou) hn_ou, DN2.no (hab) hn_ab, DN2.no (hav) hn_av, DN2.no (hc1) hn_c1, DN2.no (hc2) hn_c2, DN2.no (hc3) hn_c3, DN2.no (hc4) hn_c4, DN2.no (hc5) hn_c5, DN2.no (hc6) hn_c6, DN2.no (hc7) hn_c7, DN2.no (hc8) hn_c8, DN2.no (hc9) hn_c9⟩, ⟨n12, n13, n14, n15, n16, n23, n24, n25, n26, n34, n35, n36, n45, n46, n56, n78, n79, n89⟩⟩) _ _ hP hS ls (lv_sub hl [2, 3, 4, 5, 6] rfl)

set_option maxHeartbeats 4000000 in
set_option maxRecDepth 100000 in
theorem lg_16 (l : Launch) (hlt : l.stackTraces = false) (G : GG) (B : Nat) (sc0 : Nat) (fs : Nat → Int32) (n9 : Nat) {p : Program} {e : Env} {s : State} {m : MethodId} {args : Array Value} {below : List Frame} {meth : Method} {c : Code} {Q : State → Prop} (d md ou ab av c1 c2 c3 c4 c5 c6 c7 c8 c9 k sc j : Nat) (μ : mp) (D : Nat → Prop) (hx : p.tables.exec = Jvm.exec) (hb : c.code = cL_law) (hml : c.maxLocals = 8) (hown : s.vm.findClass RL = some m.cls) (hts : ∀ w ∈ wsL_law, w.before args s = true) (hBs : B ≤ s.heap.size) (hKK : KK G B s) (hDc : DcI s) (hNc : va_Nc exS exA s) (hscB : sc0 < B) (hbl : sc0 < s.heap.size) (hX : va_X sc0 n9 fs s s.heap) (hn9 : n9 ≤ 3072) (hj : 6 * j + 6 ≤ n9) (LN : ∀ (μ9 : mp) (k9 sc9 : Nat) (D9 : Nat → Prop) (_ : LI G μ9 d md ou ab av c1 c2 c3 c4 c5 c6 c7 c8 c9 k9 sc9 D9) (H : Heap) (locs : List Loc), mw G.1 vwCl B μ9 H → va_S (fun q => B ≤ q) s.heap H locs → ∀ ls : Array Slot, lv_has ls 8 [(4, .int (nI (6 * j))), (3, .ref ou), (2, .ref md), (1, .ref d), (0, .ref sc0)] → W p l e room_1 s m args below meth c H locs (108 + 5 * (j + 1) + 23 * k9) (7869 + 30 * (j + 1) + 7268 * k9) Q (F0 m 822 ls [])) (hI : LI G μ d md ou ab av c1 c2 c3 c4 c5 c6 c7 c8 c9 k sc D) (H : Heap) (locs : List Loc) (hP : mw G.1 vwCl B μ H) (hS : va_S (fun q => B ≤ q) s.heap H locs) (ls : Array Slot) (hl : lv_has ls 8 [(4, .int (nI (6 * j))), (3, .ref ou), (2, .ref md), (1, .ref d), (0, .ref sc0)]) : W p l e room_1 s m args below meth c H locs (108 + 5 * j + 23 * k) (7869 + 30 * j + 7268 * k) Q (F0 m 782 ls []) := by
  have hK := hKK.k
  obtain ⟨hG, ⟨fl, hmd⟩, ⟨f, hab, hsy⟩, ⟨v, hav, hvb⟩, ⟨i1, i2, i3, i4, i5, i6, ⟨hc1, hc2, hc3, hc4, hc5, hc6⟩, hSM⟩, ⟨l7, l8, l9, hc7, hc8, hc9⟩, ⟨fo, hou⟩, ⟨hn_md, hn_ou, hn_ab, hn_av, hn_c1, hn_c2, hn_c3, hn_c4, hn_c5, hn_c6, hn_c7, hn_c8, hn_c9⟩, ⟨n12, n13, n14, n15, n16, n23, n24, n25, n26, n34, n35, n36, n45, n46, n56, n78, n79, n89⟩⟩ := hI
  have hst := hG.nD
  have hk5 := hG.kl
  obtain ⟨fsd, hdd⟩ := hG.dd
  refine lv_aload_n hx hb dL_law_782 rfl (lv_at hl 3 rfl) ?_
  refine lv_aload_n hx hb dL_law_783 rfl (lv_at hl 4 rfl) ?_
  refine lv_iload hx hb dL_law_784 (lv_at hl 0 rfl) ?_
  refine lv_iconst (v := nI 1) hx hb dL_law_786 (by decide) ?_
  refine nv_iadd hx hb dL_law_787 ?_
  refine sc_iald (i := (6 * j) + 1) hx hb hX hbl hscB hS (by omega) (by omega) dL_law_788 ?_
  refine lv_aload_n hx hb dL_law_789 rfl (lv_at hl 4 rfl) ?_
  refine lv_iload hx hb dL_law_790 (lv_at hl 0 rfl) ?_
  refine lv_iconst (v := nI 2) hx hb dL_law_792 (by decide) ?_
  refine nv_iadd hx hb dL_law_793 ?_
  refine sc_iald (i := (6 * j) + 2) hx hb hX hbl hscB hS (by omega) (by omega) dL_law_794 ?_
  refine lv_aload_n hx hb dL_law_795 rfl (lv_at hl 1 rfl) ?_
  refine kx_i (vx_runSX (As := [.ref d, .int (fs ((6 * j) + 1)), .int (fs ((6 * j) + 2)), .ref ou]) (rest := []) ⟨hx, hb, hml, hown, hts⟩ (w_L_take l hlt G B (μ) d k sc D (fs ((6 * j) + 1)) (fs ((6 * j) + 2)) ou fo hG hou hn_ou) (vx_cwSW 4 hts gL_law_L_take rfl rfl rfl (by decide +kernel) ⟨Nat.le_of_ble_eq_true rfl, Nat.le_of_ble_eq_true rfl⟩) ⟨KXC.blind, fun U9 hU9 hW9 => ⟨rfl, ⟨KW.pre hBs hKK hS hP U9 hU9 hW9, hDc.at hW9⟩, hNc.moved hW9.alike⟩⟩ rfl rfl hl.1 rfl (lv_room (Nat.le_of_ble_eq_true rfl)) dL_law_796 ⟨(Nat.le_trans (m := 601024) (by omega) (Nat.le_refl _)), (Nat.le_trans (m := 7293033) (by omega) (Nat.le_refl _))⟩) hS (fun E ce q9 H locs hce hP hS h91 h92 h93 => ?_) (fun r796 m796 H locs hq9 hP hz9 hS => ?_)
  · exact False.elim hce
  obtain ⟨hG1, hF1, fo9, hou9⟩ := hq9
  have hk6 := hG1.kl
  have hg_md := hF1.1 md _ (hmd) (mp_ne hmd hou (by simp)) hn_md
  have hg_ab := hF1.1 ab _ (hab) (mp_ne hab hou (by simp)) hn_ab
  have hg_av := hF1.1 av _ (hav) (mp_ne hav hou (by simp)) hn_av
  have hg_c1 := hF1.1 c1 _ (hc1) (mp_ne hc1 hou (by simp)) hn_c1
  have hg_c2 := hF1.1 c2 _ (hc2) (mp_ne hc2 hou (by simp)) hn_c2
  have hg_c3 := hF1.1 c3 _ (hc3) (mp_ne hc3 hou (by simp)) hn_c3
  have hg_c4 := hF1.1 c4 _ (hc4) (mp_ne hc4 hou (by simp)) hn_c4
  have hg_c5 := hF1.1 c5 _ (hc5) (mp_ne hc5 hou (by simp)) hn_c5
  have hg_c6 := hF1.1 c6 _ (hc6) (mp_ne hc6 hou (by simp)) hn_c6
  have hg_c7 := hF1.1 c7 _ (hc7) (mp_ne hc7 hou (by simp)) hn_c7
  have hg_c8 := hF1.1 c8 _ (hc8) (mp_ne hc8 hou (by simp)) hn_c8
  have hg_c9 := hF1.1 c9 _ (hc9) (mp_ne hc9 hou (by simp)) hn_c9
  refine lv_istore (lv' := [(5, .int r796), (4, .int (nI (6 * j))), (3, .ref ou), (2, .ref md), (1, .ref d), (0, .ref sc0)]) hx hb dL_law_799 hl (by decide) rfl (fun ls hl => ?_)
  refine lv_aload_n hx hb dL_law_801 rfl (lv_at hl 3 rfl) ?_
  refine lv_aload_n hx hb dL_law_802 rfl (lv_at hl 5 rfl) ?_
  refine lv_iload hx hb dL_law_803 (lv_at hl 1 rfl) ?_
  refine lv_iconst (v := nI 1) hx hb dL_law_805 (by decide) ?_
  refine nv_iadd hx hb dL_law_806 ?_
  refine sc_iald (i := (6 * j) + 1) hx hb hX hbl hscB hS (by omega) (by omega) dL_law_807 ?_
  refine lv_aload_n hx hb dL_law_808 rfl (lv_at hl 5 rfl) ?_
  refine lv_iload hx hb dL_law_809 (lv_at hl 1 rfl) ?_
  refine lv_iconst (v := nI 2) hx hb dL_law_811 (by decide) ?_
  refine nv_iadd hx hb dL_law_812 ?_
  refine sc_iald (i := (6 * j) + 2) hx hb hX hbl hscB hS (by omega) (by omega) dL_law_813 ?_
  refine kc_i (va_runV (As := [.int (fs ((6 * j) + 1)), .int (fs ((6 * j) + 2))]) (rest := []) ⟨hx, hb, hml, hown, hts⟩ (m_X4_take l G B (m796) md ab av c1 c2 c3 c4 c5 c6 c7 c8 c9 fl sc f v (fs ((6 * j) + 1)) (fs ((6 * j) + 2)) (hg_md) (hg_ab) (hg_av) hsy hvb) (cwV 2 hts gL_law_X4_take rfl rfl rfl (by decide +kernel) ⟨Nat.le_of_ble_eq_true rfl, Nat.le_of_ble_eq_true rfl⟩) ⟨KW.blind, hP.recv hK rfl (hg_md), fun U9 hU9 hW9 => ⟨rfl, KW.pre hBs hKK hS hP U9 hU9 hW9⟩⟩ rfl rfl hl.1 rfl (lv_room (Nat.le_of_ble_eq_true rfl)) dL_law_814 ⟨(Nat.le_trans (m := 601024) (by omega) (Nat.le_refl _)), (Nat.le_trans (m := 7293033) (by omega) (Nat.le_refl _))⟩) hS (fun r814 m814 H locs hq9 hP hz9 hS => ?_)
  obtain ⟨fl9, g9, w9, he9, ⟨hsy9, hvb9⟩⟩ := hq9
  rw [he9] at hP
  refine lv_istore (lv' := [(6, .int r814), (5, .int r796), (4, .int (nI (6 * j))), (3, .ref ou), (2, .ref md), (1, .ref d), (0, .ref sc0)]) hx hb dL_law_817 hl (by decide) rfl (fun ls hl => ?_)
  refine lv_goto (tgt := 822) hx hb dL_law_819 (by decide) ?_
  refine W.widen (k := 108 + 5 * (j + 1) + 23 * k) (n := 7869 + 30 * (j + 1) + 7268 * k) (by omega) (by omega) ?_
  exact LN (mu (mu (mu m796 md (.inr (4, [.int (nI fl9), .ref ab, .ref av, .int (nI sc), .ref c1, .ref c2, .ref c3, .ref c4, .ref c5, .ref c6, .ref c7, .ref c8, .ref c9]))) ab (.inl (G.2 0, 3744, .inr (.inl g9)))) av (.inl (G.2 2, 26, .inl w9))) k sc (DN2 D μ) (⟨(DG.mux (DG.mux (DG.mux hG1 (hg_md) (DN2.no (hmd) hn_md) (by intro _ _ _ h9; simp at h9)) ((mu_n ((mp_ne hg_ab hg_md (by simp)))).trans (hg_ab)) (DN2.no (hab) hn_ab) (by intro _ _ _ h9; simp at h9)) ((mu_n ((mp_ne hg_av hg_ab (by simp)))).trans ((mu_n ((mp_ne hg_av hg_md (by simp)))).trans (hg_av))) (DN2.no (hav) hn_av) (by intro _ _ _ h9; simp at h9)), ⟨_, ((mu_n ((mp_ne hg_md hg_av (by simp)))).trans ((mu_n ((mp_ne hg_md hg_ab (by simp)))).trans (mu_s _ _ _)))⟩, ⟨_, ((mu_n ((mp_ne hg_ab hg_av (by simp)))).trans (mu_s _ _ _)), hsy9⟩, ⟨_, (mu_s _ _ _), hvb9⟩, ⟨_, _, _, _, _, _, ⟨((mu_n ((mp_ne hg_c1 hg_av (by simp)))).trans ((mu_n ((mp_ne hg_c1 hg_ab (by simp)))).trans ((mu_n ((mp_ne hg_c1 hg_md (by simp)))).trans (hg_c1)))), ((mu_n ((mp_ne hg_c2 hg_av (by simp)))).trans ((mu_n ((mp_ne hg_c2 hg_ab (by simp)))).trans ((mu_n ((mp_ne hg_c2 hg_md (by simp)))).trans (hg_c2)))), ((mu_n ((mp_ne hg_c3 hg_av (by simp)))).trans ((mu_n ((mp_ne hg_c3 hg_ab (by simp)))).trans ((mu_n ((mp_ne hg_c3 hg_md (by simp)))).trans (hg_c3)))), ((mu_n ((mp_ne hg_c4 hg_av (by simp)))).trans ((mu_n ((mp_ne hg_c4 hg_ab (by simp)))).trans ((mu_n ((mp_ne hg_c4 hg_md (by simp)))).trans (hg_c4)))), ((mu_n ((mp_ne hg_c5 hg_av (by simp)))).trans ((mu_n ((mp_ne hg_c5 hg_ab (by simp)))).trans ((mu_n ((mp_ne hg_c5 hg_md (by simp)))).trans (hg_c5)))), ((mu_n ((mp_ne hg_c6 hg_av (by simp)))).trans ((mu_n ((mp_ne hg_c6 hg_ab (by simp)))).trans ((mu_n ((mp_ne hg_c6 hg_md (by simp)))).trans (hg_c6))))⟩, hSM⟩, ⟨_, _, _, ((mu_n ((mp_ne hg_c7 hg_av (by simp)))).trans ((mu_n ((mp_ne hg_c7 hg_ab (by simp)))).trans ((mu_n ((mp_ne hg_c7 hg_md (by simp)))).trans (hg_c7)))), ((mu_n ((mp_ne hg_c8 hg_av (by simp)))).trans ((mu_n ((mp_ne hg_c8 hg_ab (by simp)))).trans ((mu_n ((mp_ne hg_c8 hg_md (by simp)))).trans (hg_c8)))), ((mu_n ((mp_ne hg_c9 hg_av (by simp)))).trans ((mu_n ((mp_ne hg_c9 hg_ab (by simp)))).trans ((mu_n ((mp_ne hg_c9 hg_md (by simp)))).trans (hg_c9))))⟩, ⟨_, ((mu_n ((mp_ne hou9 hg_av (by simp)))).trans ((mu_n ((mp_ne hou9 hg_ab (by simp)))).trans ((mu_n ((mp_ne hou9 hg_md (by simp)))).trans (hou9))))⟩, ⟨DN2.no (hmd) hn_md, DN2.no (hou) hn_ou, DN2.no (hab) hn_ab, DN2.no (hav) hn_av, DN2.no (hc1) hn_c1, DN2.no (hc2) hn_c2, DN2.no (hc3) hn_c3, DN2.no (hc4) hn_c4, DN2.no (hc5) hn_c5, DN2.no (hc6) hn_c6, DN2.no (hc7) hn_c7, DN2.no (hc8) hn_c8, DN2.no (hc9) hn_c9⟩, ⟨n12, n13, n14, n15, n16, n23, n24, n25, n26, n34, n35, n36, n45, n46, n56, n78, n79, n89⟩⟩) _ _ hP hS ls (lv_sub hl [2, 3, 4, 5, 6] rfl)
