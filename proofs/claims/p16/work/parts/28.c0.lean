set_option maxHeartbeats 4000000 in
set_option maxRecDepth 100000 in
theorem lg_0 (l : Launch) (hlt : l.stackTraces = false) (G : GG) (B : Nat) (sc0 : Nat) (fs : Nat → Int32) (n9 : Nat) {p : Program} {e : Env} {s : State} {m : MethodId} {args : Array Value} {below : List Frame} {meth : Method} {c : Code} {Q : State → Prop} (d md ou ab av c1 c2 c3 c4 c5 c6 c7 c8 c9 k sc j : Nat) (μ : mp) (D : Nat → Prop) (hx : p.tables.exec = Jvm.exec) (hb : c.code = cL_law) (hml : c.maxLocals = 8) (hown : s.vm.findClass RL = some m.cls) (hts : ∀ w ∈ wsL_law, w.before args s = true) (hBs : B ≤ s.heap.size) (hKK : KK G B s) (hDc : DcI s) (hNc : va_Nc exS exA s) (hscB : sc0 < B) (hbl : sc0 < s.heap.size) (hX : va_X sc0 n9 fs s s.heap) (hn9 : n9 ≤ 3072) (hj : 6 * j + 6 ≤ n9) (LN : ∀ (μ9 : mp) (k9 sc9 : Nat) (D9 : Nat → Prop) (_ : LI G μ9 d md ou ab av c1 c2 c3 c4 c5 c6 c7 c8 c9 k9 sc9 D9) (H : Heap) (locs : List Loc), mw G.1 vwCl B μ9 H → va_S (fun q => B ≤ q) s.heap H locs → ∀ ls : Array Slot, lv_has ls 8 [(4, .int (nI (6 * j))), (3, .ref ou), (2, .ref md), (1, .ref d), (0, .ref sc0)] → W p l e room_1 s m args below meth c H locs (108 + 5 * (j + 1) + 23 * k9) (7869 + 30 * (j + 1) + 7268 * k9) Q (F0 m 822 ls [])) (hI : LI G μ d md ou ab av c1 c2 c3 c4 c5 c6 c7 c8 c9 k sc D) (H : Heap) (locs : List Loc) (hP : mw G.1 vwCl B μ H) (hS : va_S (fun q => B ≤ q) s.heap H locs) (ls : Array Slot) (hl : lv_has ls 8 [(4, .int (nI (6 * j))), (3, .ref ou), (2, .ref md), (1, .ref d), (0, .ref sc0)]) : W p l e room_1 s m args below meth c H locs (108 + 5 * j + 23 * k) (7869 + 30 * j + 7268 * k) Q (F0 m 124 ls []) := by
  have hK := hKK.k
  obtain ⟨hG, ⟨fl, hmd⟩, ⟨f, hab, hsy⟩, ⟨v, hav, hvb⟩, ⟨i1, i2, i3, i4, i5, i6, ⟨hc1, hc2, hc3, hc4, hc5, hc6⟩, hSM⟩, ⟨l7, l8, l9, hc7, hc8, hc9⟩, ⟨fo, hou⟩, ⟨hn_md, hn_ou, hn_ab, hn_av, hn_c1, hn_c2, hn_c3, hn_c4, hn_c5, hn_c6, hn_c7, hn_c8, hn_c9⟩, ⟨n12, n13, n14, n15, n16, n23, n24, n25, n26, n34, n35, n36, n45, n46, n56, n78, n79, n89⟩⟩ := hI
  have hst := hG.nD
  have hk5 := hG.kl
  obtain ⟨fsd, hdd⟩ := hG.dd
  refine lv_aload_n hx hb dL_law_124 rfl (lv_at hl 3 rfl) ?_
  refine lv_aload_n hx hb dL_law_125 rfl (lv_at hl 4 rfl) ?_
  refine lv_iload hx hb dL_law_126 (lv_at hl 0 rfl) ?_
  refine lv_iconst (v := nI 1) hx hb dL_law_128 (by decide) ?_
  refine nv_iadd hx hb dL_law_129 ?_
  refine sc_iald (i := (6 * j) + 1) hx hb hX hbl hscB hS (by omega) (by omega) dL_law_130 ?_
  refine lv_aload_n hx hb dL_law_131 rfl (lv_at hl 4 rfl) ?_
  refine lv_iload hx hb dL_law_132 (lv_at hl 0 rfl) ?_
  refine lv_iconst (v := nI 2) hx hb dL_law_134 (by decide) ?_
  refine nv_iadd hx hb dL_law_135 ?_
  refine sc_iald (i := (6 * j) + 2) hx hb hX hbl hscB hS (by omega) (by omega) dL_law_136 ?_
  refine lv_aload_n hx hb dL_law_137 rfl (lv_at hl 4 rfl) ?_
  refine lv_iload hx hb dL_law_138 (lv_at hl 0 rfl) ?_
  refine lv_iconst (v := nI 3) hx hb dL_law_140 (by decide) ?_
  refine nv_iadd hx hb dL_law_141 ?_
  refine sc_iald (i := (6 * j) + 3) hx hb hX hbl hscB hS (by omega) (by omega) dL_law_142 ?_
  refine lv_aload_n hx hb dL_law_143 rfl (lv_at hl 4 rfl) ?_
  refine lv_iload hx hb dL_law_144 (lv_at hl 0 rfl) ?_
  refine lv_iconst (v := nI 4) hx hb dL_law_146 (by decide) ?_
  refine nv_iadd hx hb dL_law_147 ?_
  refine sc_iald (i := (6 * j) + 4) hx hb hX hbl hscB hS (by omega) (by omega) dL_law_148 ?_
  refine lv_aload_n hx hb dL_law_149 rfl (lv_at hl 4 rfl) ?_
  refine lv_iload hx hb dL_law_150 (lv_at hl 0 rfl) ?_
  refine lv_iconst (v := nI 5) hx hb dL_law_152 (by decide) ?_
  refine nv_iadd hx hb dL_law_153 ?_
  refine sc_iald (i := (6 * j) + 5) hx hb hX hbl hscB hS (by omega) (by omega) dL_law_154 ?_
  refine lv_aload_n hx hb dL_law_155 rfl (lv_at hl 1 rfl) ?_
  refine kgx_i (vx_runSX (As := [.ref d, .int (fs ((6 * j) + 1)), .int (fs ((6 * j) + 2)), .int (fs ((6 * j) + 3)), .int (fs ((6 * j) + 4)), .int (fs ((6 * j) + 5)), .ref ou]) (rest := []) ⟨hx, hb, hml, hown, hts⟩ (w_L_act l hlt G B (μ) _ _ d k sc D (fs ((6 * j) + 1)) (fs ((6 * j) + 2)) (fs ((6 * j) + 3)) (fs ((6 * j) + 4)) (fs ((6 * j) + 5)) ou fo hG hou hn_ou) (vx_cwSW 7 hts gL_law_L_act rfl rfl rfl (by decide +kernel) ⟨Nat.le_of_ble_eq_true rfl, Nat.le_of_ble_eq_true rfl⟩) ⟨KXCN.blind, fun U9 hU9 hW9 => ⟨rfl, ⟨⟨KW.pre hBs hKK hS hP U9 hU9 hW9, hDc.at hW9⟩, by rw [hU9], by rw [hU9]⟩, hNc.moved hW9.alike⟩⟩ rfl rfl hl.1 rfl (lv_room (Nat.le_of_ble_eq_true rfl)) dL_law_156 ⟨(Nat.le_trans (m := 601024) (by omega) (Nat.le_refl _)), (Nat.le_trans (m := 7293033) (by omega) (Nat.le_refl _))⟩) hS (fun E ce q9 H locs hce hP hS h91 h92 h93 => ?_) (fun r156 m156 k156 H locs hq9 hP hz9 hS => ?_)
  · exact False.elim hce
  obtain ⟨hkq, hG1, hF1, fo9, hou9⟩ := hq9
  have hk6 := hG1.kl
  have hg_md := hF1.1 md _ (hmd) (mp_ne hmd hou (by simp)) hn_md
  have hg_ab := hF1.1 ab _ (hab) (mp_ne hab hou (by simp)) hn_ab
  have hg_av := hF1.1 av _ (hav) (mp_ne hav hou (by simp)) hn_av
  have hg_c1 := hF1.1 c1 _ (hc1) (mp_ne hc1 hou (by simp)) hn_c1
  have hg_c2 := hF1.1 c2 _ (hc2) (mp_ne hc2 hou (by simp)) hn_c2
  have hg_c3 := hF1.1 c3 _ (hc3) (mp_ne hc3 hou (by simp)) hn_c3
  have hg_c4 := hF1.1 c4 _ (hc4) (mp_ne hc4 hou (by simp)) hn_c4
  have hg_c5 := hF1.1 c5 _ (hc5) (mp_ne hc5 hou (by simp)) hn_c5
  have hg_c6 := hF1.1 c6 _ (hc6) (mp_ne hc6 hou (by simp)) hn_c6
  have hg_c7 := hF1.1 c7 _ (hc7) (mp_ne hc7 hou (by simp)) hn_c7
  have hg_c8 := hF1.1 c8 _ (hc8) (mp_ne hc8 hou (by simp)) hn_c8
  have hg_c9 := hF1.1 c9 _ (hc9) (mp_ne hc9 hou (by simp)) hn_c9
  refine lv_istore (lv' := [(5, .int r156), (4, .int (nI (6 * j))), (3, .ref ou), (2, .ref md), (1, .ref d), (0, .ref sc0)]) hx hb dL_law_159 hl (by decide) rfl (fun ls hl => ?_)
  refine lv_aload_n hx hb dL_law_161 rfl (lv_at hl 3 rfl) ?_
  refine lv_aload_n hx hb dL_law_162 rfl (lv_at hl 5 rfl) ?_
  refine lv_iload hx hb dL_law_163 (lv_at hl 1 rfl) ?_
  refine lv_iconst (v := nI 1) hx hb dL_law_165 (by decide) ?_
  refine nv_iadd hx hb dL_law_166 ?_
  refine sc_iald (i := (6 * j) + 1) hx hb hX hbl hscB hS (by omega) (by omega) dL_law_167 ?_
  refine lv_aload_n hx hb dL_law_168 rfl (lv_at hl 5 rfl) ?_
  refine lv_iload hx hb dL_law_169 (lv_at hl 1 rfl) ?_
  refine lv_iconst (v := nI 2) hx hb dL_law_171 (by decide) ?_
  refine nv_iadd hx hb dL_law_172 ?_
  refine sc_iald (i := (6 * j) + 2) hx hb hX hbl hscB hS (by omega) (by omega) dL_law_173 ?_
  refine lv_aload_n hx hb dL_law_174 rfl (lv_at hl 5 rfl) ?_
  refine lv_iload hx hb dL_law_175 (lv_at hl 1 rfl) ?_
  refine lv_iconst (v := nI 3) hx hb dL_law_177 (by decide) ?_
  refine nv_iadd hx hb dL_law_178 ?_
  refine sc_iald (i := (6 * j) + 3) hx hb hX hbl hscB hS (by omega) (by omega) dL_law_179 ?_
  refine lv_aload_n hx hb dL_law_180 rfl (lv_at hl 5 rfl) ?_
  refine lv_iload hx hb dL_law_181 (lv_at hl 1 rfl) ?_
  refine lv_iconst (v := nI 4) hx hb dL_law_183 (by decide) ?_
  refine nv_iadd hx hb dL_law_184 ?_
  refine sc_iald (i := (6 * j) + 4) hx hb hX hbl hscB hS (by omega) (by omega) dL_law_185 ?_
  refine lv_aload_n hx hb dL_law_186 rfl (lv_at hl 5 rfl) ?_
  refine lv_iload hx hb dL_law_187 (lv_at hl 1 rfl) ?_
  refine lv_iconst (v := nI 5) hx hb dL_law_189 (by decide) ?_
  refine nv_iadd hx hb dL_law_190 ?_
  refine sc_iald (i := (6 * j) + 5) hx hb hX hbl hscB hS (by omega) (by omega) dL_law_191 ?_
  refine kc_i (va_runV (As := [.int (fs ((6 * j) + 1)), .int (fs ((6 * j) + 2)), .int (fs ((6 * j) + 3)), .int (fs ((6 * j) + 4)), .int (fs ((6 * j) + 5))]) (rest := []) ⟨hx, hb, hml, hown, hts⟩ (m_X4_act l G B (m156) md ab av c1 c2 c3 c4 c5 c6 c7 c8 c9 fl sc f v (fs ((6 * j) + 1)) (fs ((6 * j) + 2)) (fs ((6 * j) + 3)) (fs ((6 * j) + 4)) (fs ((6 * j) + 5)) (hg_md) (hg_ab) (hg_av) hsy hvb) (cwV 5 hts gL_law_X4_act rfl rfl rfl (by decide +kernel) ⟨Nat.le_of_ble_eq_true rfl, Nat.le_of_ble_eq_true rfl⟩) ⟨KW.blind, hP.recv hK rfl (hg_md), fun U9 hU9 hW9 => ⟨rfl, KW.pre hBs hKK hS hP U9 hU9 hW9⟩⟩ rfl rfl hl.1 rfl (lv_room (Nat.le_of_ble_eq_true rfl)) dL_law_192 ⟨(Nat.le_trans (m := 601024) (by omega) (Nat.le_refl _)), (Nat.le_trans (m := 7293033) (by omega) (Nat.le_refl _))⟩) hS (fun r192 m192 H locs hq9 hP hz9 hS => ?_)
  obtain ⟨fl9, g9, w9, he9, ⟨hsy9, hvb9⟩⟩ := hq9
  rw [he9] at hP
  refine lv_istore (lv' := [(6, .int r192), (5, .int r156), (4, .int (nI (6 * j))), (3, .ref ou), (2, .ref md), (1, .ref d), (0, .ref sc0)]) hx hb dL_law_195 hl (by decide) rfl (fun ls hl => ?_)
  refine lv_goto (tgt := 822) hx hb dL_law_197 (by decide) ?_
  refine W.widen (k := 108 + 5 * (j + 1) + 23 * k156) (n := 7869 + 30 * (j + 1) + 7268 * k156) (by omega) (by omega) ?_
  exact LN (mu (mu (mu m156 md (.inr (4, [.int (nI fl9), .ref ab, .ref av, .int (nI sc), .ref c1, .ref c2, .ref c3, .ref c4, .ref c5, .ref c6, .ref c7, .ref c8, .ref c9]))) ab (.inl (G.2 0, 3744, .inr (.inl g9)))) av (.inl (G.2 2, 26, .inl w9))) k156 sc (DN2 D μ) (⟨(DG.mux (DG.mux (DG.mux hG1 (hg_md) (DN2.no (hmd) hn_md) (by intro _ _ _ h9; simp at h9)) ((mu_n ((mp_ne hg_ab hg_md (by simp)))).trans (hg_ab)) (DN2.no (hab) hn_ab) (by intro _ _ _ h9; simp at h9)) ((mu_n ((mp_ne hg_av hg_ab (by simp)))).trans ((mu_n ((mp_ne hg_av hg_md (by simp)))).trans (hg_av))) (DN2.no (hav) hn_av) (by intro _ _ _ h9; simp at h9)), ⟨_, ((mu_n ((mp_ne hg_md hg_av (by simp)))).trans ((mu_n ((mp_ne hg_md hg_ab (by simp)))).trans (mu_s _ _ _)))⟩, ⟨_, ((mu_n ((mp_ne hg_ab hg_av (by simp)))).trans (mu_s _ _ _)), hsy9⟩, ⟨_, (mu_s _ _ _), hvb9⟩, ⟨_, _, _, _, _, _, ⟨((mu_n ((mp_ne hg_c1 hg_av (by simp)))).trans ((mu_n ((mp_ne hg_c1 hg_ab (by simp)))).trans ((mu_n ((mp_ne hg_c1 hg_md (by simp)))).trans (hg_c1)))), ((mu_n ((mp_ne hg_c2 hg_av (by simp)))).trans ((mu_n ((mp_ne hg_c2 hg_ab (by simp)))).trans ((mu_n ((mp_ne hg_c2 hg_md (by simp)))).trans (hg_c2)))), ((mu_n ((mp_ne hg_c3 hg_av (by simp)))).trans ((mu_n ((mp_ne hg_c3 hg_ab (by simp)))).trans ((mu_n ((mp_ne hg_c3 hg_md (by simp)))).trans (hg_c3)))), ((mu_n ((mp_ne hg_c4 hg_av (by simp)))).trans ((mu_n ((mp_ne hg_c4 hg_ab (by simp)))).trans ((mu_n ((mp_ne hg_c4 hg_md (by simp)))).trans (hg_c4)))), ((mu_n ((mp_ne hg_c5 hg_av (by simp)))).trans ((mu_n ((mp_ne hg_c5 hg_ab (by simp)))).trans ((mu_n ((mp_ne hg_c5 hg_md (by simp)))).trans (hg_c5)))), ((mu_n ((mp_ne hg_c6 hg_av (by simp)))).trans ((mu_n ((mp_ne hg_c6 hg_ab (by simp)))).trans ((mu_n ((mp_ne hg_c6 hg_md (by simp)))).trans (hg_c6))))⟩, hSM⟩, ⟨_, _, _, ((mu_n ((mp_ne hg_c7 hg_av (by simp)))).trans ((mu_n ((mp_ne hg_c7 hg_ab (by simp)))).trans ((mu_n ((mp_ne hg_c7 hg_md (by simp)))).trans (hg_c7)))), ((mu_n ((mp_ne hg_c8 hg_av (by simp)))).trans ((mu_n ((mp_ne hg_c8 hg_ab (by simp)))).trans ((mu_n ((mp_ne hg_c8 hg_md (by simp)))).trans (hg_c8)))), ((mu_n ((mp_ne hg_c9 hg_av (by simp)))).trans ((mu_n ((mp_ne hg_c9 hg_ab (by simp)))).trans ((mu_n ((mp_ne hg_c9 hg_md (by simp)))).trans (hg_c9))))⟩, ⟨_, ((mu_n ((mp_ne hou9 hg_av (by simp)))).trans ((mu_n ((mp_ne hou9 hg_ab (by simp)))).trans ((mu_n ((mp_ne hou9 hg_md (by simp)))).trans (hou9))))⟩, ⟨DN2.no (hmd) hn_md, DN2.no (hou) hn_ou, DN2.no (hab) hn_ab, DN2.no (hav) hn_av, DN2.no (hc1) hn_c1, DN2.no (hc2) hn_c2, DN2.no (hc3) hn_c3, DN2.no (hc4) hn_c4, DN2.no (hc5) hn_c5, DN2.no (hc6) hn_c6, DN2.no (hc7) hn_c7, DN2.no (hc8) hn_c8, DN2.no (hc9) hn_c9⟩, ⟨n12, n13, n14, n15, n16, n23, n24, n25, n26, n34, n35, n36, n45, n46, n56, n78, n79, n89⟩⟩) _ _ hP hS ls (lv_sub hl [2, 3, 4, 5, 6] rfl)

set_option maxHeartbeats 4000000 in
set_option maxRecDepth 100000 in
theorem lg_1 (l : Launch) (hlt : l.stackTraces = false) (G : GG) (B : Nat) (sc0 : Nat) (fs : Nat → Int32) (n9 : Nat) {p : Program} {e : Env} {s : State} {m : MethodId} {args : Array Value} {below : List Frame} {meth : Method} {c : Code} {Q : State → Prop} (d md ou ab av c1 c2 c3 c4 c5 c6 c7 c8 c9 k sc j : Nat) (μ : mp) (D : Nat → Prop) (hx : p.tables.exec = Jvm.exec) (hb : c.code = cL_law) (hml : c.maxLocals = 8) (hown : s.vm.findClass RL = some m.cls) (hts : ∀ w ∈ wsL_law, w.before args s = true) (hBs : B ≤ s.heap.size) (hKK : KK G B s) (hDc : DcI s) (hNc : va_Nc exS exA s) (hscB : sc0 < B) (hbl : sc0 < s.heap.size) (hX : va_X sc0 n9 fs s s.heap) (hn9 : n9 ≤ 3072) (hj : 6 * j + 6 ≤ n9) (LN : ∀ (μ9 : mp) (k9 sc9 : Nat) (D9 : Nat → Prop) (_ : LI G μ9 d md ou ab av c1 c2 c3 c4 c5 c6 c7 c8 c9 k9 sc9 D9) (H : Heap) (locs : List Loc), mw G.1 vwCl B μ9 H → va_S (fun q => B ≤ q) s.heap H locs → ∀ ls : Array Slot, lv_has ls 8 [(4, .int (nI (6 * j))), (3, .ref ou), (2, .ref md), (1, .ref d), (0, .ref sc0)] → W p l e room_1 s m args below meth c H locs (108 + 5 * (j + 1) + 23 * k9) (7869 + 30 * (j + 1) + 7268 * k9) Q (F0 m 822 ls [])) (hI : LI G μ d md ou ab av c1 c2 c3 c4 c5 c6 c7 c8 c9 k sc D) (H : Heap) (locs : List Loc) (hP : mw G.1 vwCl B μ H) (hS : va_S (fun q => B ≤ q) s.heap H locs) (ls : Array Slot) (hl : lv_has ls 8 [(4, .int (nI (6 * j))), (3, .ref ou), (2, .ref md), (1, .ref d), (0, .ref sc0)]) : W p l e room_1 s m args below meth c H locs (108 + 5 * j + 23 * k) (7869 + 30 * j + 7268 * k) Q (F0 m 200 ls []) := by
  have hK := hKK.k
  obtain ⟨hG, ⟨fl, hmd⟩, ⟨f, hab, hsy⟩, ⟨v, hav, hvb⟩, ⟨i1, i2, i3, i4, i5, i6, ⟨hc1, hc2, hc3, hc4, hc5, hc6⟩, hSM⟩, ⟨l7, l8, l9, hc7, hc8, hc9⟩, ⟨fo, hou⟩, ⟨hn_md, hn_ou, hn_ab, hn_av, hn_c1, hn_c2, hn_c3, hn_c4, hn_c5, hn_c6, hn_c7, hn_c8, hn_c9⟩, ⟨n12, n13, n14, n15, n16, n23, n24, n25, n26, n34, n35, n36, n45, n46, n56, n78, n79, n89⟩⟩ := hI
  have hst := hG.nD
  have hk5 := hG.kl
  obtain ⟨fsd, hdd⟩ := hG.dd
  refine lv_aload_n hx hb dL_law_200 rfl (lv_at hl 3 rfl) ?_
  refine lv_aload_n hx hb dL_law_201 rfl (lv_at hl 4 rfl) ?_
  refine lv_iload hx hb dL_law_202 (lv_at hl 0 rfl) ?_
  refine lv_iconst (v := nI 1) hx hb dL_law_204 (by decide) ?_
  refine nv_iadd hx hb dL_law_205 ?_
  refine sc_iald (i := (6 * j) + 1) hx hb hX hbl hscB hS (by omega) (by omega) dL_law_206 ?_
  refine kx_i (vx_runSX (As := [.ref d, .int (fs ((6 * j) + 1))]) (rest := []) ⟨hx, hb, hml, hown, hts⟩ (w_L_clear l hlt G B (μ) d k sc D (fs ((6 * j) + 1)) hG) (vx_cwSW 2 hts gL_law_L_clear rfl rfl rfl (by decide +kernel) ⟨Nat.le_of_ble_eq_true rfl, Nat.le_of_ble_eq_true rfl⟩) ⟨KXC.blind, fun U9 hU9 hW9 => ⟨rfl, ⟨KW.pre hBs hKK hS hP U9 hU9 hW9, hDc.at hW9⟩, hNc.moved hW9.alike⟩⟩ rfl rfl hl.1 rfl (lv_room (Nat.le_of_ble_eq_true rfl)) dL_law_207 ⟨(Nat.le_trans (m := 601024) (by omega) (Nat.le_refl _)), (Nat.le_trans (m := 7293033) (by omega) (Nat.le_refl _))⟩) hS (fun E ce q9 H locs hce hP hS h91 h92 h93 => ?_) (fun r207 m207 H locs hq9 hP hz9 hS => ?_)
  · exact False.elim hce
  obtain ⟨hG1, hF1, hcase⟩ := hq9
  have hk6 := hG1.kl
  have hg_md := hF1.1 md _ (hmd) hn_md
  have hg_ab := hF1.1 ab _ (hab) hn_ab
  have hg_av := hF1.1 av _ (hav) hn_av
  have hg_c1 := hF1.1 c1 _ (hc1) hn_c1
  have hg_c2 := hF1.1 c2 _ (hc2) hn_c2
  have hg_c3 := hF1.1 c3 _ (hc3) hn_c3
  have hg_c4 := hF1.1 c4 _ (hc4) hn_c4
  have hg_c5 := hF1.1 c5 _ (hc5) hn_c5
  have hg_c6 := hF1.1 c6 _ (hc6) hn_c6
  have hg_c7 := hF1.1 c7 _ (hc7) hn_c7
  have hg_c8 := hF1.1 c8 _ (hc8) hn_c8
  have hg_c9 := hF1.1 c9 _ (hc9) hn_c9
  have hg_ou := hF1.1 ou _ (hou) hn_ou
  refine lv_istore (lv' := [(5, .int r207), (4, .int (nI (6 * j))), (3, .ref ou), (2, .ref md), (1, .ref d), (0, .ref sc0)]) hx hb dL_law_210 hl (by decide) rfl (fun ls hl => ?_)
  refine lv_aload_n hx hb dL_law_212 rfl (lv_at hl 3 rfl) ?_
  refine lv_aload_n hx hb dL_law_213 rfl (lv_at hl 5 rfl) ?_
  refine lv_iload hx hb dL_law_214 (lv_at hl 1 rfl) ?_
  refine lv_iconst (v := nI 1) hx hb dL_law_216 (by decide) ?_
  refine nv_iadd hx hb dL_law_217 ?_
  refine sc_iald (i := (6 * j) + 1) hx hb hX hbl hscB hS (by omega) (by omega) dL_law_218 ?_
  refine kc_v (va_runV (As := [.int (fs ((6 * j) + 1))]) (rest := []) ⟨hx, hb, hml, hown, hts⟩ (m_X4_clear l G B (m207) md ab av c1 c2 c3 c4 c5 c6 c7 c8 c9 fl sc f v (fs ((6 * j) + 1)) (hg_md) (hg_ab) (hg_av) hsy hvb) (cwV 1 hts gL_law_X4_clear rfl rfl rfl (by decide +kernel) ⟨Nat.le_of_ble_eq_true rfl, Nat.le_of_ble_eq_true rfl⟩) ⟨KW.blind, hP.recv hK rfl (hg_md), fun U9 hU9 hW9 => ⟨rfl, KW.pre hBs hKK hS hP U9 hU9 hW9⟩⟩ rfl rfl hl.1 rfl (lv_room (Nat.le_of_ble_eq_true rfl)) dL_law_219 ⟨(Nat.le_trans (m := 601024) (by omega) (Nat.le_refl _)), (Nat.le_trans (m := 7293033) (by omega) (Nat.le_refl _))⟩) hS (fun m219 H locs hq9 hP hz9 hS => ?_)
  obtain ⟨fl9, g9, w9, he9, ⟨hsy9, hvb9⟩, hm9⟩ := hq9
  rw [he9] at hP
  refine lv_goto (tgt := 822) hx hb dL_law_222 (by decide) ?_
  refine W.widen (k := 108 + 5 * (j + 1) + 23 * k) (n := 7869 + 30 * (j + 1) + 7268 * k) (by omega) (by omega) ?_
  exact LN (mu (mu (mu m207 md (.inr (4, [.int (nI fl9), .ref ab, .ref av, .int (nI sc), .ref c1, .ref c2, .ref c3, .ref c4, .ref c5, .ref c6, .ref c7, .ref c8, .ref c9]))) ab (.inl (G.2 0, 3744, .inr (.inl g9)))) av (.inl (G.2 2, 26, .inl w9))) k sc (DN2 D μ) (⟨(DG.mux (DG.mux (DG.mux hG1 (hg_md) (DN2.no (hmd) hn_md) (by intro _ _ _ h9; simp at h9)) ((mu_n ((mp_ne hg_ab hg_md (by simp)))).trans (hg_ab)) (DN2.no (hab) hn_ab) (by intro _ _ _ h9; simp at h9)) ((mu_n ((mp_ne hg_av hg_ab (by simp)))).trans ((mu_n ((mp_ne hg_av hg_md (by simp)))).trans (hg_av))) (DN2.no (hav) hn_av) (by intro _ _ _ h9; simp at h9)), ⟨_, ((mu_n ((mp_ne hg_md hg_av (by simp)))).trans ((mu_n ((mp_ne hg_md hg_ab (by simp)))).trans (mu_s _ _ _)))⟩, ⟨_, ((mu_n ((mp_ne hg_ab hg_av (by simp)))).trans (mu_s _ _ _)), hsy9⟩, ⟨_, (mu_s _ _ _), hvb9⟩, ⟨_, _, _, _, _, _, ⟨((mu_n ((mp_ne hg_c1 hg_av (by simp)))).trans ((mu_n ((mp_ne hg_c1 hg_ab (by simp)))).trans ((mu_n ((mp_ne hg_c1 hg_md (by simp)))).trans (hg_c1)))), ((mu_n ((mp_ne hg_c2 hg_av (by simp)))).trans ((mu_n ((mp_ne hg_c2 hg_ab (by simp)))).trans ((mu_n ((mp_ne hg_c2 hg_md (by simp)))).trans (hg_c2)))), ((mu_n ((mp_ne hg_c3 hg_av (by simp)))).trans ((mu_n ((mp_ne hg_c3 hg_ab (by simp)))).trans ((mu_n ((mp_ne hg_c3 hg_md (by simp)))).trans (hg_c3)))), ((mu_n ((mp_ne hg_c4 hg_av (by simp)))).trans ((mu_n ((mp_ne hg_c4 hg_ab (by simp)))).trans ((mu_n ((mp_ne hg_c4 hg_md (by simp)))).trans (hg_c4)))), ((mu_n ((mp_ne hg_c5 hg_av (by simp)))).trans ((mu_n ((mp_ne hg_c5 hg_ab (by simp)))).trans ((mu_n ((mp_ne hg_c5 hg_md (by simp)))).trans (hg_c5)))), ((mu_n ((mp_ne hg_c6 hg_av (by simp)))).trans ((mu_n ((mp_ne hg_c6 hg_ab (by simp)))).trans ((mu_n ((mp_ne hg_c6 hg_md (by simp)))).trans (hg_c6))))⟩, hSM⟩, ⟨_, _, _, ((mu_n ((mp_ne hg_c7 hg_av (by simp)))).trans ((mu_n ((mp_ne hg_c7 hg_ab (by simp)))).trans ((mu_n ((mp_ne hg_c7 hg_md (by simp)))).trans (hg_c7)))), ((mu_n ((mp_ne hg_c8 hg_av (by simp)))).trans ((mu_n ((mp_ne hg_c8 hg_ab (by simp)))).trans ((mu_n ((mp_ne hg_c8 hg_md (by simp)))).trans (hg_c8)))), ((mu_n ((mp_ne hg_c9 hg_av (by simp)))).trans ((mu_n ((mp_ne hg_c9 hg_ab (by simp)))).trans ((mu_n ((mp_ne hg_c9 hg_md (by simp)))).trans (hg_c9))))⟩, ⟨_, ((mu_n ((mp_ne hg_ou hg_av (by simp)))).trans ((mu_n ((mp_ne hg_ou hg_ab (by simp)))).trans ((mu_n ((mp_ne hg_ou hg_md (by simp)))).trans (hg_ou))))⟩, ⟨DN2.no (hmd) hn_md, DN2.no (hou) hn_ou, DN2.no (hab) hn_ab, DN2.no (hav) hn_av, DN2.no (hc1) hn_c1, DN2.no (hc2) hn_c2, DN2.no (hc3) hn_c3, DN2.no (hc4) hn_c4, DN2.no (hc5) hn_c5, DN2.no (hc6) hn_c6, DN2.no (hc7) hn_c7, DN2.no (hc8) hn_c8, DN2.no (hc9) hn_c9⟩, ⟨n12, n13, n14, n15, n16, n23, n24, n25, n26, n34, n35, n36, n45, n46, n56, n78, n79, n89⟩⟩) _ _ hP hS ls (lv_sub hl [1, 2, 3, 4, 5] rfl)

set_option maxHeartbeats 4000000 in
set_option maxRecDepth 100000 in
theorem lg_2 (l : Launch) (hlt : l.stackTraces = false) (G : GG) (B : Nat) (sc0 : Nat) (fs : Nat → Int32) (n9 : Nat) {p : Program} {e : Env} {s : State} {m : MethodId} {args : Array Value} {below : List Frame} {meth : Method} {c : Code} {Q : State → Prop} (d md ou ab av c1 c2 c3 c4 c5 c6 c7 c8 c9 k sc j : Nat) (μ : mp) (D : Nat → Prop) (hx : p.tables.exec = Jvm.exec) (hb : c.code = cL_law) (hml : c.maxLocals = 8) (hown : s.vm.findClass RL = some m.cls) (hts : ∀ w ∈ wsL_law, w.before args s = true) (hBs : B ≤ s.heap.size) (hKK : KK G B s) (hDc : DcI s) (hNc : va_Nc exS exA s) (hscB : sc0 < B) (hbl : sc0 < s.heap.size) (hX : va_X sc0 n9 fs s s.heap) (hn9 : n9 ≤ 3072) (hj : 6 * j + 6 ≤ n9) (LN : ∀ (μ9 : mp) (k9 sc9 : Nat) (D9 : Nat → Prop) (_ : LI G μ9 d md ou ab av c1 c2 c3 c4 c5 c6 c7 c8 c9 k9 sc9 D9) (H : Heap) (locs : List Loc), mw G.1 vwCl B μ9 H → va_S (fun q => B ≤ q) s.heap H locs → ∀ ls : Array Slot, lv_has ls 8 [(4, .int (nI (6 * j))), (3, .ref ou), (2, .ref md), (1, .ref d), (0, .ref sc0)] → W p l e room_1 s m args below meth c H locs (108 + 5 * (j + 1) + 23 * k9) (7869 + 30 * (j + 1) + 7268 * k9) Q (F0 m 822 ls [])) (hI : LI G μ d md ou ab av c1 c2 c3 c4 c5 c6 c7 c8 c9 k sc D) (H : Heap) (locs : List Loc) (hP : mw G.1 vwCl B μ H) (hS : va_S (fun q => B ≤ q) s.heap H locs) (ls : Array Slot) (hl : lv_has ls 8 [(4, .int (nI (6 * j))), (3, .ref ou), (2, .ref md), (1, .ref d), (0, .ref sc0)]) : W p l e room_1 s m args below meth c H locs (108 + 5 * j + 23 * k) (7869 + 30 * j + 7268 * k) Q (F0 m 225 ls []) := by
  have hK := hKK.k
  obtain ⟨hG, ⟨fl, hmd⟩, ⟨f, hab, hsy⟩, ⟨v, hav, hvb⟩, ⟨i1, i2, i3, i4, i5, i6, ⟨hc1, hc2, hc3, hc4, hc5, hc6⟩, hSM⟩, ⟨l7, l8, l9, hc7, hc8, hc9⟩, ⟨fo, hou⟩, ⟨hn_md, hn_ou, hn_ab, hn_av, hn_c1, hn_c2, hn_c3, hn_c4, hn_c5, hn_c6, hn_c7, hn_c8, hn_c9⟩, ⟨n12, n13, n14, n15, n16, n23, n24, n25, n26, n34, n35, n36, n45, n46, n56, n78, n79, n89⟩⟩ := hI
  have hst := hG.nD
  have hk5 := hG.kl
  obtain ⟨fsd, hdd⟩ := hG.dd
  refine lv_aload_n hx hb dL_law_225 rfl (lv_at hl 3 rfl) ?_
  refine lv_aload_n hx hb dL_law_226 rfl (lv_at hl 4 rfl) ?_
  refine lv_iload hx hb dL_law_227 (lv_at hl 0 rfl) ?_
  refine lv_iconst (v := nI 1) hx hb dL_law_229 (by decide) ?_
  refine nv_iadd hx hb dL_law_230 ?_
  refine sc_iald (i := (6 * j) + 1) hx hb hX hbl hscB hS (by omega) (by omega) dL_law_231 ?_
  refine lv_aload_n hx hb dL_law_232 rfl (lv_at hl 4 rfl) ?_
  refine lv_iload hx hb dL_law_233 (lv_at hl 0 rfl) ?_
  refine lv_iconst (v := nI 2) hx hb dL_law_235 (by decide) ?_
  refine nv_iadd hx hb dL_law_236 ?_
  refine sc_iald (i := (6 * j) + 2) hx hb hX hbl hscB hS (by omega) (by omega) dL_law_237 ?_
  refine kx_i (vx_runSX (As := [.ref d, .int (fs ((6 * j) + 1)), .int (fs ((6 * j) + 2))]) (rest := []) ⟨hx, hb, hml, hown, hts⟩ (w_L_copy l hlt G B (μ) d k sc D (fs ((6 * j) + 1)) (fs ((6 * j) + 2)) hG) (vx_cwSW 3 hts gL_law_L_copy rfl rfl rfl (by decide +kernel) ⟨Nat.le_of_ble_eq_true rfl, Nat.le_of_ble_eq_true rfl⟩) ⟨KXC.blind, fun U9 hU9 hW9 => ⟨rfl, ⟨KW.pre hBs hKK hS hP U9 hU9 hW9, hDc.at hW9⟩, hNc.moved hW9.alike⟩⟩ rfl rfl hl.1 rfl (lv_room (Nat.le_of_ble_eq_true rfl)) dL_law_238 ⟨(Nat.le_trans (m := 601024) (by omega) (Nat.le_refl _)), (Nat.le_trans (m := 7293033) (by omega) (Nat.le_refl _))⟩) hS (fun E ce q9 H locs hce hP hS h91 h92 h93 => ?_) (fun r238 m238 H locs hq9 hP hz9 hS => ?_)
  · exact False.elim hce
  obtain ⟨hG1, hF1, hcase⟩ := hq9
  have hk6 := hG1.kl
  have hg_md := hF1.1 md _ (hmd) hn_md
  have hg_ab := hF1.1 ab _ (hab) hn_ab
  have hg_av := hF1.1 av _ (hav) hn_av
  have hg_c1 := hF1.1 c1 _ (hc1) hn_c1
  have hg_c2 := hF1.1 c2 _ (hc2) hn_c2
  have hg_c3 := hF1.1 c3 _ (hc3) hn_c3
  have hg_c4 := hF1.1 c4 _ (hc4) hn_c4
  have hg_c5 := hF1.1 c5 _ (hc5) hn_c5
  have hg_c6 := hF1.1 c6 _ (hc6) hn_c6
  have hg_c7 := hF1.1 c7 _ (hc7) hn_c7
  have hg_c8 := hF1.1 c8 _ (hc8) hn_c8
  have hg_c9 := hF1.1 c9 _ (hc9) hn_c9
  have hg_ou := hF1.1 ou _ (hou) hn_ou
  refine lv_istore (lv' := [(5, .int r238), (4, .int (nI (6 * j))), (3, .ref ou), (2, .ref md), (1, .ref d), (0, .ref sc0)]) hx hb dL_law_241 hl (by decide) rfl (fun ls hl => ?_)
  refine lv_aload_n hx hb dL_law_243 rfl (lv_at hl 3 rfl) ?_
  refine lv_aload_n hx hb dL_law_244 rfl (lv_at hl 5 rfl) ?_
  refine lv_iload hx hb dL_law_245 (lv_at hl 1 rfl) ?_
  refine lv_iconst (v := nI 1) hx hb dL_law_247 (by decide) ?_
  refine nv_iadd hx hb dL_law_248 ?_
  refine sc_iald (i := (6 * j) + 1) hx hb hX hbl hscB hS (by omega) (by omega) dL_law_249 ?_
  refine lv_aload_n hx hb dL_law_250 rfl (lv_at hl 5 rfl) ?_
  refine lv_iload hx hb dL_law_251 (lv_at hl 1 rfl) ?_
  refine lv_iconst (v := nI 2) hx hb dL_law_253 (by decide) ?_
  refine nv_iadd hx hb dL_law_254 ?_
  refine sc_iald (i := (6 * j) + 2) hx hb hX hbl hscB hS (by omega) (by omega) dL_law_255 ?_
  refine kc_v (va_runV (As := [.int (fs ((6 * j) + 1)), .int (fs ((6 * j) + 2))]) (rest := []) ⟨hx, hb, hml, hown, hts⟩ (m_X4_copy l G B (m238) md ab av c1 c2 c3 c4 c5 c6 c7 c8 c9 fl sc f v (fs ((6 * j) + 1)) (fs ((6 * j) + 2)) (hg_md) (hg_ab) (hg_av) hsy hvb) (cwV 2 hts gL_law_X4_copy rfl rfl rfl (by decide +kernel) ⟨Nat.le_of_ble_eq_true rfl, Nat.le_of_ble_eq_true rfl⟩) ⟨KW.blind, hP.recv hK rfl (hg_md), fun U9 hU9 hW9 => ⟨rfl, KW.pre hBs hKK hS hP U9 hU9 hW9⟩⟩ rfl rfl hl.1 rfl (lv_room (Nat.le_of_ble_eq_true rfl)) dL_law_256 ⟨(Nat.le_trans (m := 601024) (by omega) (Nat.le_refl _)), (Nat.le_trans (m := 7293033) (by omega) (Nat.le_refl _))⟩) hS (fun m256 H locs hq9 hP hz9 hS => ?_)
  obtain ⟨fl9, g9, w9, he9, ⟨hsy9, hvb9⟩, hm9⟩ := hq9
  rw [he9] at hP
  refine lv_goto (tgt := 822) hx hb dL_law_259 (by decide) ?_
  refine W.widen (k := 108 + 5 * (j + 1) + 23 * k) (n := 7869 + 30 * (j + 1) + 7268 * k) (by omega) (by omega) ?_
  exact LN (mu (mu (mu m238 md (.inr (4, [.int (nI fl9), .ref ab, .ref av, .int (nI sc), .ref c1, .ref c2, .ref c3, .ref c4, .ref c5, .ref c6, .ref c7, .ref c8, .ref c9]))) ab (.inl (G.2 0, 3744, .inr (.inl g9)))) av (.inl (G.2 2, 26, .inl w9))) k sc (DN2 D μ) (⟨(DG.mux (DG.mux (DG.mux hG1 (hg_md) (DN2.no (hmd) hn_md) (by intro _ _ _ h9; simp at h9)) ((mu_n ((mp_ne hg_ab hg_md (by simp)))).trans (hg_ab)) (DN2.no (hab) hn_ab) (by intro _ _ _ h9; simp at h9)) ((mu_n ((mp_ne hg_av hg_ab (by simp)))).trans ((mu_n ((mp_ne hg_av hg_md (by simp)))).trans (hg_av))) (DN2.no (hav) hn_av) (by intro _ _ _ h9; simp at h9)), ⟨_, ((mu_n ((mp_ne hg_md hg_av (by simp)))).trans ((mu_n ((mp_ne hg_md hg_ab (by simp)))).trans (mu_s _ _ _)))⟩, ⟨_, ((mu_n ((mp_ne hg_ab hg_av (by simp)))).trans (mu_s _ _ _)), hsy9⟩, ⟨_, (mu_s _ _ _), hvb9⟩, ⟨_, _, _, _, _, _, ⟨((mu_n ((mp_ne hg_c1 hg_av (by simp)))).trans ((mu_n ((mp_ne hg_c1 hg_ab (by simp)))).trans ((mu_n ((mp_ne hg_c1 hg_md (by simp)))).trans (hg_c1)))), ((mu_n ((mp_ne hg_c2 hg_av (by simp)))).trans ((mu_n ((mp_ne hg_c2 hg_ab (by simp)))).trans ((mu_n ((mp_ne hg_c2 hg_md (by simp)))).trans (hg_c2)))), ((mu_n ((mp_ne hg_c3 hg_av (by simp)))).trans ((mu_n ((mp_ne hg_c3 hg_ab (by simp)))).trans ((mu_n ((mp_ne hg_c3 hg_md (by simp)))).trans (hg_c3)))), ((mu_n ((mp_ne hg_c4 hg_av (by simp)))).trans ((mu_n ((mp_ne hg_c4 hg_ab (by simp)))).trans ((mu_n ((mp_ne hg_c4 hg_md (by simp)))).trans (hg_c4)))), ((mu_n ((mp_ne hg_c5 hg_av (by simp)))).trans ((mu_n ((mp_ne hg_c5 hg_ab (by simp)))).trans ((mu_n ((mp_ne hg_c5 hg_md (by simp)))).trans (hg_c5)))), ((mu_n ((mp_ne hg_c6 hg_av (by simp)))).trans ((mu_n ((mp_ne hg_c6 hg_ab (by simp)))).trans ((mu_n ((mp_ne hg_c6 hg_md (by simp)))).trans (hg_c6))))⟩, hSM⟩, ⟨_, _, _, ((mu_n ((mp_ne hg_c7 hg_av (by simp)))).trans ((mu_n ((mp_ne hg_c7 hg_ab (by simp)))).trans ((mu_n ((mp_ne hg_c7 hg_md (by simp)))).trans (hg_c7)))), ((mu_n ((mp_ne hg_c8 hg_av (by simp)))).trans ((mu_n ((mp_ne hg_c8 hg_ab (by simp)))).trans ((mu_n ((mp_ne hg_c8 hg_md (by simp)))).trans (hg_c8)))), ((mu_n ((mp_ne hg_c9 hg_av (by simp)))).trans ((mu_n ((mp_ne hg_c9 hg_ab (by simp)))).trans ((mu_n ((mp_ne hg_c9 hg_md (by simp)))).trans (hg_c9))))⟩, ⟨_, ((mu_n ((mp_ne hg_ou hg_av (by simp)))).trans ((mu_n ((mp_ne hg_ou hg_ab (by simp)))).trans ((mu_n ((mp_ne hg_ou hg_md (by simp)))).trans (hg_ou))))⟩, ⟨DN2.no (hmd) hn_md, DN2.no (hou) hn_ou, DN2.no (hab) hn_ab, DN2.no (hav) hn_av, DN2.no (hc1) hn_c1, DN2.no (hc2) hn_c2, DN2.no (hc3) hn_c3, DN2.no (hc4) hn_c4, DN2.no (hc5) hn_c5, DN2.no (hc6) hn_c6, DN2.no (hc7) hn_c7, DN2.no (hc8) hn_c8, DN2.no (hc9) hn_c9⟩, ⟨n12, n13, n14, n15, n16, n23, n24, n25, n26, n34, n35, n36, n45, n46, n56, n78, n79, n89⟩⟩) _ _ hP hS ls (lv_sub hl [1, 2, 3, 4, 5] rfl)

set_option maxHeartbeats 4000000 in
set_option maxRecDepth 100000 in
theorem lg_3 (l : Launch) (hlt : l.stackTraces = false) (G : GG) (B : Nat) (sc0 : Nat) (fs : Nat → Int32) (n9 : Nat) {p : Program} {e : Env} {s : State} {m : MethodId} {args : Array Value} {below : List Frame} {meth : Method} {c : Code} {Q : State → Prop} (d md ou ab av c1 c2 c3 c4 c5 c6 c7 c8 c9 k sc j : Nat) (μ : mp) (D : Nat → Prop) (hx : p.tables.exec = Jvm.exec) (hb : c.code = cL_law) (hml : c.maxLocals = 8) (hown : s.vm.findClass RL = some m.cls) (hts : ∀ w ∈ wsL_law, w.before args s = true) (hBs : B ≤ s.heap.size) (hKK : KK G B s) (hDc : DcI s) (hNc : va_Nc exS exA s) (hscB : sc0 < B) (hbl : sc0 < s.heap.size) (hX : va_X sc0 n9 fs s s.heap) (hn9 : n9 ≤ 3072) (hj : 6 * j + 6 ≤ n9) (LN : ∀ (μ9 : mp) (k9 sc9 : Nat) (D9 : Nat → Prop) (_ : LI G μ9 d md ou ab av c1 c2 c3 c4 c5 c6 c7 c8 c9 k9 sc9 D9) (H : Heap) (locs : List Loc), mw G.1 vwCl B μ9 H → va_S (fun q => B ≤ q) s.heap H locs → ∀ ls : Array Slot, lv_has ls 8 [(4, .int (nI (6 * j))), (3, .ref ou), (2, .ref md), (1, .ref d), (0, .ref sc0)] → W p l e room_1 s m args below meth c H locs (108 + 5 * (j + 1) + 23 * k9) (7869 + 30 * (j + 1) + 7268 * k9) Q (F0 m 822 ls [])) (hI : LI G μ d md ou ab av c1 c2 c3 c4 c5 c6 c7 c8 c9 k sc D) (H : Heap) (locs : List Loc) (hP : mw G.1 vwCl B μ H) (hS : va_S (fun q => B ≤ q) s.heap H locs) (ls : Array Slot) (hl : lv_has ls 8 [(4, .int (nI (6 * j))), (3, .ref ou), (2, .ref md), (1, .ref d), (0, .ref sc0)]) : W p l e room_1 s m args below meth c H locs (108 + 5 * j + 23 * k) (7869 + 30 * j + 7268 * k) Q (F0 m 262 ls []) := by
  have hK := hKK.k
  obtain ⟨hG, ⟨fl, hmd⟩, ⟨f, hab, hsy⟩, ⟨v, hav, hvb⟩, ⟨i1, i2, i3, i4, i5, i6, ⟨hc1, hc2, hc3, hc4, hc5, hc6⟩, hSM⟩, ⟨l7, l8, l9, hc7, hc8, hc9⟩, ⟨fo, hou⟩, ⟨hn_md, hn_ou, hn_ab, hn_av, hn_c1, hn_c2, hn_c3, hn_c4, hn_c5, hn_c6, hn_c7, hn_c8, hn_c9⟩, ⟨n12, n13, n14, n15, n16, n23, n24, n25, n26, n34, n35, n36, n45, n46, n56, n78, n79, n89⟩⟩ := hI
  have hst := hG.nD
  have hk5 := hG.kl
  obtain ⟨fsd, hdd⟩ := hG.dd
  refine lv_aload_n hx hb dL_law_262 rfl (lv_at hl 3 rfl) ?_
  refine lv_aload_n hx hb dL_law_263 rfl (lv_at hl 4 rfl) ?_
  refine lv_iload hx hb dL_law_264 (lv_at hl 0 rfl) ?_
  refine lv_iconst (v := nI 1) hx hb dL_law_266 (by decide) ?_
  refine nv_iadd hx hb dL_law_267 ?_
  refine sc_iald (i := (6 * j) + 1) hx hb hX hbl hscB hS (by omega) (by omega) dL_law_268 ?_
  refine lv_aload_n hx hb dL_law_269 rfl (lv_at hl 4 rfl) ?_
  refine lv_iload hx hb dL_law_270 (lv_at hl 0 rfl) ?_
  refine lv_iconst (v := nI 2) hx hb dL_law_272 (by decide) ?_
  refine nv_iadd hx hb dL_law_273 ?_
  refine sc_iald (i := (6 * j) + 2) hx hb hX hbl hscB hS (by omega) (by omega) dL_law_274 ?_
  refine lv_aload_n hx hb dL_law_275 rfl (lv_at hl 4 rfl) ?_
  refine lv_iload hx hb dL_law_276 (lv_at hl 0 rfl) ?_
  refine lv_iconst (v := nI 3) hx hb dL_law_278 (by decide) ?_
  refine nv_iadd hx hb dL_law_279 ?_
  refine sc_iald (i := (6 * j) + 3) hx hb hX hbl hscB hS (by omega) (by omega) dL_law_280 ?_
  refine lv_aload_n hx hb dL_law_281 rfl (lv_at hl 1 rfl) ?_
  refine kgx_i (vx_runSX (As := [.ref d, .int (fs ((6 * j) + 1)), .int (fs ((6 * j) + 2)), .int (fs ((6 * j) + 3)), .ref ou]) (rest := []) ⟨hx, hb, hml, hown, hts⟩ (w_L_meet l hlt G B (μ) _ _ d k sc D (fs ((6 * j) + 1)) (fs ((6 * j) + 2)) (fs ((6 * j) + 3)) ou fo hG hou hn_ou) (vx_cwSW 5 hts gL_law_L_meet rfl rfl rfl (by decide +kernel) ⟨Nat.le_of_ble_eq_true rfl, Nat.le_of_ble_eq_true rfl⟩) ⟨KXCN.blind, fun U9 hU9 hW9 => ⟨rfl, ⟨⟨KW.pre hBs hKK hS hP U9 hU9 hW9, hDc.at hW9⟩, by rw [hU9], by rw [hU9]⟩, hNc.moved hW9.alike⟩⟩ rfl rfl hl.1 rfl (lv_room (Nat.le_of_ble_eq_true rfl)) dL_law_282 ⟨(Nat.le_trans (m := 601024) (by omega) (Nat.le_refl _)), (Nat.le_trans (m := 7293033) (by omega) (Nat.le_refl _))⟩) hS (fun E ce q9 H locs hce hP hS h91 h92 h93 => ?_) (fun r282 m282 k282 H locs hq9 hP hz9 hS => ?_)
  · exact False.elim hce
  obtain ⟨hkq, hG1, hF1, fo9, hou9⟩ := hq9
  have hk6 := hG1.kl
  have hg_md := hF1.1 md _ (hmd) (mp_ne hmd hou (by simp)) hn_md
  have hg_ab := hF1.1 ab _ (hab) (mp_ne hab hou (by simp)) hn_ab
  have hg_av := hF1.1 av _ (hav) (mp_ne hav hou (by simp)) hn_av
  have hg_c1 := hF1.1 c1 _ (hc1) (mp_ne hc1 hou (by simp)) hn_c1
  have hg_c2 := hF1.1 c2 _ (hc2) (mp_ne hc2 hou (by simp)) hn_c2
  have hg_c3 := hF1.1 c3 _ (hc3) (mp_ne hc3 hou (by simp)) hn_c3
  have hg_c4 := hF1.1 c4 _ (hc4) (mp_ne hc4 hou (by simp)) hn_c4
  have hg_c5 := hF1.1 c5 _ (hc5) (mp_ne hc5 hou (by simp)) hn_c5
  have hg_c6 := hF1.1 c6 _ (hc6) (mp_ne hc6 hou (by simp)) hn_c6
  have hg_c7 := hF1.1 c7 _ (hc7) (mp_ne hc7 hou (by simp)) hn_c7
  have hg_c8 := hF1.1 c8 _ (hc8) (mp_ne hc8 hou (by simp)) hn_c8
  have hg_c9 := hF1.1 c9 _ (hc9) (mp_ne hc9 hou (by simp)) hn_c9
  refine lv_istore (lv' := [(5, .int r282), (4, .int (nI (6 * j))), (3, .ref ou), (2, .ref md), (1, .ref d), (0, .ref sc0)]) hx hb dL_law_285 hl (by decide) rfl (fun ls hl => ?_)
  refine lv_aload_n hx hb dL_law_287 rfl (lv_at hl 3 rfl) ?_
  refine lv_aload_n hx hb dL_law_288 rfl (lv_at hl 5 rfl) ?_
  refine lv_iload hx hb dL_law_289 (lv_at hl 1 rfl) ?_
  refine lv_iconst (v := nI 1) hx hb dL_law_291 (by decide) ?_
  refine nv_iadd hx hb dL_law_292 ?_
  refine sc_iald (i := (6 * j) + 1) hx hb hX hbl hscB hS (by omega) (by omega) dL_law_293 ?_
  refine lv_aload_n hx hb dL_law_294 rfl (lv_at hl 5 rfl) ?_
  refine lv_iload hx hb dL_law_295 (lv_at hl 1 rfl) ?_
  refine lv_iconst (v := nI 2) hx hb dL_law_297 (by decide) ?_
  refine nv_iadd hx hb dL_law_298 ?_
  refine sc_iald (i := (6 * j) + 2) hx hb hX hbl hscB hS (by omega) (by omega) dL_law_299 ?_
  refine lv_aload_n hx hb dL_law_300 rfl (lv_at hl 5 rfl) ?_
  refine lv_iload hx hb dL_law_301 (lv_at hl 1 rfl) ?_
  refine lv_iconst (v := nI 3) hx hb dL_law_303 (by decide) ?_
  refine nv_iadd hx hb dL_law_304 ?_
  refine sc_iald (i := (6 * j) + 3) hx hb hX hbl hscB hS (by omega) (by omega) dL_law_305 ?_
  refine kc_i (va_runV (As := [.int (fs ((6 * j) + 1)), .int (fs ((6 * j) + 2)), .int (fs ((6 * j) + 3))]) (rest := []) ⟨hx, hb, hml, hown, hts⟩ (m_X4_meet l G B (m282) md ab av c1 c2 c3 c4 c5 c6 c7 c8 c9 fl sc f v (fs ((6 * j) + 1)) (fs ((6 * j) + 2)) (fs ((6 * j) + 3)) (hg_md) (hg_ab) (hg_av) hsy hvb) (cwV 3 hts gL_law_X4_meet rfl rfl rfl (by decide +kernel) ⟨Nat.le_of_ble_eq_true rfl, Nat.le_of_ble_eq_true rfl⟩) ⟨KW.blind, hP.recv hK rfl (hg_md), fun U9 hU9 hW9 => ⟨rfl, KW.pre hBs hKK hS hP U9 hU9 hW9⟩⟩ rfl rfl hl.1 rfl (lv_room (Nat.le_of_ble_eq_true rfl)) dL_law_306 ⟨(Nat.le_trans (m := 601024) (by omega) (Nat.le_refl _)), (Nat.le_trans (m := 7293033) (by omega) (Nat.le_refl _))⟩) hS (fun r306 m306 H locs hq9 hP hz9 hS => ?_)
  obtain ⟨fl9, g9, w9, he9, ⟨hsy9, hvb9⟩⟩ := hq9
  rw [he9] at hP
  refine lv_istore (lv' := [(6, .int r306), (5, .int r282), (4, .int (nI (6 * j))), (3, .ref ou), (2, .ref md), (1, .ref d), (0, .ref sc0)]) hx hb dL_law_309 hl (by decide) rfl (fun ls hl => ?_)
  refine lv_goto (tgt := 822) hx hb dL_law_311 (by decide) ?_
  refine W.widen (k := 108 + 5 * (j + 1) + 23 * k282) (n := 7869 + 30 * (j + 1) + 7268 * k282) (by omega) (by omega) ?_
  exact LN (mu (mu (mu m282 md (.inr (4, [.int (nI fl9), .ref ab, .ref av, .int (nI sc), .ref c1, .ref c2, .ref c3, .ref c4, .ref c5, .ref c6, .ref c7, .ref c8, .ref c9]))) ab (.inl (G.2 0, 3744, .inr (.inl g9)))) av (.inl (G.2 2, 26, .inl w9))) k282 sc (DN2 D μ) (⟨(DG.mux (DG.mux (DG.mux hG1 (hg_md) (DN2.no (hmd) hn_md) (by intro _ _ _ h9; simp at h9)) ((mu_n ((mp_ne hg_ab hg_md (by simp)))).trans (hg_ab)) (DN2.no (hab) hn_ab) (by intro _ _ _ h9; simp at h9)) ((mu_n ((mp_ne hg_av hg_ab (by simp)))).trans ((mu_n ((mp_ne hg_av hg_md (by simp)))).trans (hg_av))) (DN2.no (hav) hn_av) (by intro _ _ _ h9; simp at h9)), ⟨_, ((mu_n ((mp_ne hg_md hg_av (by simp)))).trans ((mu_n ((mp_ne hg_md hg_ab (by simp)))).trans (mu_s _ _ _)))⟩, ⟨_, ((mu_n ((mp_ne hg_ab hg_av (by simp)))).trans (mu_s _ _ _)), hsy9⟩, ⟨_, (mu_s _ _ _), hvb9⟩, ⟨_, _, _, _, _, _, ⟨((mu_n ((mp_ne hg_c1 hg_av (by simp)))).trans ((mu_n ((mp_ne hg_c1 hg_ab (by simp)))).trans ((mu_n ((mp_ne hg_c1 hg_md (by simp)))).trans (hg_c1)))), ((mu_n ((mp_ne hg_c2 hg_av (by simp)))).trans ((mu_n ((mp_ne hg_c2 hg_ab (by simp)))).trans ((mu_n ((mp_ne hg_c2 hg_md (by simp)))).trans (hg_c2)))), ((mu_n ((mp_ne hg_c3 hg_av (by simp)))).trans ((mu_n ((mp_ne hg_c3 hg_ab (by simp)))).trans ((mu_n ((mp_ne hg_c3 hg_md (by simp)))).trans (hg_c3)))), ((mu_n ((mp_ne hg_c4 hg_av (by simp)))).trans ((mu_n ((mp_ne hg_c4 hg_ab (by simp)))).trans ((mu_n ((mp_ne hg_c4 hg_md (by simp)))).trans (hg_c4)))), ((mu_n ((mp_ne hg_c5 hg_av (by simp)))).trans ((mu_n ((mp_ne hg_c5 hg_ab (by simp)))).trans ((mu_n ((mp_ne hg_c5 hg_md (by simp)))).trans (hg_c5)))), ((mu_n ((mp_ne hg_c6 hg_av (by simp)))).trans ((mu_n ((mp_ne hg_c6 hg_ab (by simp)))).trans ((mu_n ((mp_ne hg_c6 hg_md (by simp)))).trans (hg_c6))))⟩, hSM⟩, ⟨_, _, _, ((mu_n ((mp_ne hg_c7 hg_av (by simp)))).trans ((mu_n ((mp_ne hg_c7 hg_ab (by simp)))).trans ((mu_n ((mp_ne hg_c7 hg_md (by simp)))).trans (hg_c7)))), ((mu_n ((mp_ne hg_c8 hg_av (by simp)))).trans ((mu_n ((mp_ne hg_c8 hg_ab (by simp)))).trans ((mu_n ((mp_ne hg_c8 hg_md (by simp)))).trans (hg_c8)))), ((mu_n ((mp_ne hg_c9 hg_av (by simp)))).trans ((mu_n ((mp_ne hg_c9 hg_ab (by simp)))).trans ((mu_n ((mp_ne hg_c9 hg_md (by simp)))).trans (hg_c9))))⟩, ⟨_, ((mu_n ((mp_ne hou9 hg_av (by simp)))).trans ((mu_n ((mp_ne hou9 hg_ab (by simp)))).trans ((mu_n ((mp_ne hou9 hg_md (by simp)))).trans (hou9))))⟩, ⟨DN2.no (hmd) hn_md, DN2.no (hou) hn_ou, DN2.no (hab) hn_ab, DN2.no (hav) hn_av, DN2.no (hc1) hn_c1, DN2.no (hc2) hn_c2, DN2.no (hc3) hn_c3, DN2.no (hc4) hn_c4, DN2.no (hc5) hn_c5, DN2.no (hc6) hn_c6, DN2.no (hc7) hn_c7, DN2.no (hc8) hn_c8, DN2.no (hc9) hn_c9⟩, ⟨n12, n13, n14, n15, n16, n23, n24, n25, n26, n34, n35, n36, n45, n46, n56, n78, n79, n89⟩⟩) _ _ hP hS ls (lv_sub hl [2, 3, 4, 5, 6] rfl)

set_option maxHeartbeats 4000000 in
set_option maxRecDepth 100000 in
theorem lg_4 (l : Launch) (hlt : l.stackTraces = false) (G : GG) (B : Nat) (sc0 : Nat) (fs : Nat → Int32) (n9 : Nat) {p : Program} {e : Env} {s : State} {m : MethodId} {args : Array Value} {below : List Frame} {meth : Method} {c : Code} {Q : State → Prop} (d md ou ab av c1 c2 c3 c4 c5 c6 c7 c8 c9 k sc j : Nat) (μ : mp) (D : Nat → Prop) (hx : p.tables.exec = Jvm.exec) (hb : c.code = cL_law) (hml : c.maxLocals = 8) (hown : s.vm.findClass RL = some m.cls) (hts : ∀ w ∈ wsL_law, w.before args s = true) (hBs : B ≤ s.heap.size) (hKK : KK G B s) (hDc : DcI s) (hNc : va_Nc exS exA s) (hscB : sc0 < B) (hbl : sc0 < s.heap.size) (hX : va_X sc0 n9 fs s s.heap) (hn9 : n9 ≤ 3072) (hj : 6 * j + 6 ≤ n9) (LN : ∀ (μ9 : mp) (k9 sc9 : Nat) (D9 : Nat → Prop) (_ : LI G μ9 d md ou ab av c1 c2 c3 c4 c5 c6 c7 c8 c9 k9 sc9 D9) (H : Heap) (locs : List Loc), mw G.1 vwCl B μ9 H → va_S (fun q => B ≤ q) s.heap H locs → ∀ ls : Array Slot, lv_has ls 8 [(4, .int (nI (6 * j))), (3, .ref ou), (2, .ref md), (1, .ref d), (0, .ref sc0)] → W p l e room_1 s m args below meth c H locs (108 + 5 * (j + 1) + 23 * k9) (7869 + 30 * (j + 1) + 7268 * k9) Q (F0 m 822 ls [])) (hI : LI G μ d md ou ab av c1 c2 c3 c4 c5 c6 c7 c8 c9 k sc D) (H : Heap) (locs : List Loc) (hP : mw G.1 vwCl B μ H) (hS : va_S (fun q => B ≤ q) s.heap H locs) (ls : Array Slot) (hl : lv_has ls 8 [(4, .int (nI (6 * j))), (3, .ref ou), (2, .ref md), (1, .ref d), (0, .ref sc0)]) : W p l e room_1 s m args below meth c H locs (108 + 5 * j + 23 * k) (7869 + 30 * j + 7268 * k) Q (F0 m 314 ls []) := by
  have hK := hKK.k
  obtain ⟨hG, ⟨fl, hmd⟩, ⟨f, hab, hsy⟩, ⟨v, hav, hvb⟩, ⟨i1, i2, i3, i4, i5, i6, ⟨hc1, hc2, hc3, hc4, hc5, hc6⟩, hSM⟩, ⟨l7, l8, l9, hc7, hc8, hc9⟩, ⟨fo, hou⟩, ⟨hn_md, hn_ou, hn_ab, hn_av, hn_c1, hn_c2, hn_c3, hn_c4, hn_c5, hn_c6, hn_c7, hn_c8, hn_c9⟩, ⟨n12, n13, n14, n15, n16, n23, n24, n25, n26, n34, n35, n36, n45, n46, n56, n78, n79, n89⟩⟩ := hI
  have hst := hG.nD
  have hk5 := hG.kl
  obtain ⟨fsd, hdd⟩ := hG.dd
  refine lv_aload_n hx hb dL_law_314 rfl (lv_at hl 3 rfl) ?_
  refine lv_aload_n hx hb dL_law_315 rfl (lv_at hl 4 rfl) ?_
  refine lv_iload hx hb dL_law_316 (lv_at hl 0 rfl) ?_
  refine lv_iconst (v := nI 1) hx hb dL_law_318 (by decide) ?_
  refine nv_iadd hx hb dL_law_319 ?_
  refine sc_iald (i := (6 * j) + 1) hx hb hX hbl hscB hS (by omega) (by omega) dL_law_320 ?_
  refine lv_aload_n hx hb dL_law_321 rfl (lv_at hl 4 rfl) ?_
  refine lv_iload hx hb dL_law_322 (lv_at hl 0 rfl) ?_
  refine lv_iconst (v := nI 2) hx hb dL_law_324 (by decide) ?_
  refine nv_iadd hx hb dL_law_325 ?_
  refine sc_iald (i := (6 * j) + 2) hx hb hX hbl hscB hS (by omega) (by omega) dL_law_326 ?_
  refine lv_aload_n hx hb dL_law_327 rfl (lv_at hl 4 rfl) ?_
  refine lv_iload hx hb dL_law_328 (lv_at hl 0 rfl) ?_
  refine lv_iconst (v := nI 3) hx hb dL_law_330 (by decide) ?_
  refine nv_iadd hx hb dL_law_331 ?_
  refine sc_iald (i := (6 * j) + 3) hx hb hX hbl hscB hS (by omega) (by omega) dL_law_332 ?_
  refine kgx_i (vx_runSX (As := [.ref d, .int (fs ((6 * j) + 1)), .int (fs ((6 * j) + 2)), .int (fs ((6 * j) + 3))]) (rest := []) ⟨hx, hb, hml, hown, hts⟩ (w_L_join l hlt G B (μ) _ _ d k sc D (fs ((6 * j) + 1)) (fs ((6 * j) + 2)) (fs ((6 * j) + 3)) hG) (vx_cwSW 4 hts gL_law_L_join rfl rfl rfl (by decide +kernel) ⟨Nat.le_of_ble_eq_true rfl, Nat.le_of_ble_eq_true rfl⟩) ⟨KXCN.blind, fun U9 hU9 hW9 => ⟨rfl, ⟨⟨KW.pre hBs hKK hS hP U9 hU9 hW9, hDc.at hW9⟩, by rw [hU9], by rw [hU9]⟩, hNc.moved hW9.alike⟩⟩ rfl rfl hl.1 rfl (lv_room (Nat.le_of_ble_eq_true rfl)) dL_law_333 ⟨(Nat.le_trans (m := 601024) (by omega) (Nat.le_refl _)), (Nat.le_trans (m := 7293033) (by omega) (Nat.le_refl _))⟩) hS (fun E ce q9 H locs hce hP hS h91 h92 h93 => ?_) (fun r333 m333 k333 H locs hq9 hP hz9 hS => ?_)
  · exact False.elim hce
  obtain ⟨hkq, hG1, hF1, hcase⟩ := hq9
  have hk6 := hG1.kl
  have hg_md := hF1.1 md _ (hmd) hn_md
  have hg_ab := hF1.1 ab _ (hab) hn_ab
  have hg_av := hF1.1 av _ (hav) hn_av
  have hg_c1 := hF1.1 c1 _ (hc1) hn_c1
  have hg_c2 := hF1.1 c2 _ (hc2) hn_c2
  have hg_c3 := hF1.1 c3 _ (hc3) hn_c3
  have hg_c4 := hF1.1 c4 _ (hc4) hn_c4
  have hg_c5 := hF1.1 c5 _ (hc5) hn_c5
  have hg_c6 := hF1.1 c6 _ (hc6) hn_c6
  have hg_c7 := hF1.1 c7 _ (hc7) hn_c7
  have hg_c8 := hF1.1 c8 _ (hc8) hn_c8
  have hg_c9 := hF1.1 c9 _ (hc9) hn_c9
  have hg_ou := hF1.1 ou _ (hou) hn_ou
  refine lv_istore (lv' := [(5, .int r333), (4, .int (nI (6 * j))), (3, .ref ou), (2, .ref md), (1, .ref d), (0, .ref sc0)]) hx hb dL_law_336 hl (by decide) rfl (fun ls hl => ?_)
  refine lv_aload_n hx hb dL_law_338 rfl (lv_at hl 3 rfl) ?_
  refine lv_aload_n hx hb dL_law_339 rfl (lv_at hl 5 rfl) ?_
  refine lv_iload hx hb dL_law_340 (lv_at hl 1 rfl) ?_
  refine lv_iconst (v := nI 1) hx hb dL_law_342 (by decide) ?_
  refine nv_iadd hx hb dL_law_343 ?_
  refine sc_iald (i := (6 * j) + 1) hx hb hX hbl hscB hS (by omega) (by omega) dL_law_344 ?_
  refine lv_aload_n hx hb dL_law_345 rfl (lv_at hl 5 rfl) ?_
  refine lv_iload hx hb dL_law_346 (lv_at hl 1 rfl) ?_
  refine lv_iconst (v := nI 2) hx hb dL_law_348 (by decide) ?_
  refine nv_iadd hx hb dL_law_349 ?_
  refine sc_iald (i := (6 * j) + 2) hx hb hX hbl hscB hS (by omega) (by omega) dL_law_350 ?_
  refine lv_aload_n hx hb dL_law_351 rfl (lv_at hl 5 rfl) ?_
  refine lv_iload hx hb dL_law_352 (lv_at hl 1 rfl) ?_
  refine lv_iconst (v := nI 3) hx hb dL_law_354 (by decide) ?_
  refine nv_iadd hx hb dL_law_355 ?_
  refine sc_iald (i := (6 * j) + 3) hx hb hX hbl hscB hS (by omega) (by omega) dL_law_356 ?_
  refine kc_v (va_runV (As := [.int (fs ((6 * j) + 1)), .int (fs ((6 * j) + 2)), .int (fs ((6 * j) + 3))]) (rest := []) ⟨hx, hb, hml, hown, hts⟩ (m_X4_join l G B (m333) md ab av c1 c2 c3 c4 c5 c6 c7 c8 c9 fl sc f v (fs ((6 * j) + 1)) (fs ((6 * j) + 2)) (fs ((6 * j) + 3)) (hg_md) (hg_ab) (hg_av) hsy hvb) (cwV 3 hts gL_law_X4_join rfl rfl rfl (by decide +kernel) ⟨Nat.le_of_ble_eq_true rfl, Nat.le_of_ble_eq_true rfl⟩) ⟨KW.blind, hP.recv hK rfl (hg_md), fun U9 hU9 hW9 => ⟨rfl, KW.pre hBs hKK hS hP U9 hU9 hW9⟩⟩ rfl rfl hl.1 rfl (lv_room (Nat.le_of_ble_eq_true rfl)) dL_law_357 ⟨(Nat.le_trans (m := 601024) (by omega) (Nat.le_refl _)), (Nat.le_trans (m := 7293033) (by omega) (Nat.le_refl _))⟩) hS (fun m357 H locs hq9 hP hz9 hS => ?_)
  obtain ⟨fl9, g9, w9, he9, ⟨hsy9, hvb9⟩, hm9⟩ := hq9
  rw [he9] at hP
  refine lv_goto (tgt := 822) hx hb dL_law_360 (by decide) ?_
  refine W.widen (k := 108 + 5 * (j + 1) + 23 * k333) (n := 7869 + 30 * (j + 1) + 7268 * k333) (by omega) (by omega) ?_
  exact LN (mu (mu (mu m333 md (.inr (4, [.int (nI fl9), .ref ab, .ref av, .int (nI sc), .ref c1, .ref c2, .ref c3, .ref c4, .ref c5, .ref c6, .ref c7, .ref c8, .ref c9]))) ab (.inl (G.2 0, 3744, .inr (.inl g9)))) av (.inl (G.2 2, 26, .inl w9))) k333 sc (DN2 D μ) (⟨(DG.mux (DG.mux (DG.mux hG1 (hg_md) (DN2.no (hmd) hn_md) (by intro _ _ _ h9; simp at h9)) ((mu_n ((mp_ne hg_ab hg_md (by simp)))).trans (hg_ab)) (DN2.no (hab) hn_ab) (by intro _ _ _ h9; simp at h9)) ((mu_n ((mp_ne hg_av hg_ab (by simp)))).trans ((mu_n ((mp_ne hg_av hg_md (by simp)))).trans (hg_av))) (DN2.no (hav) hn_av) (by intro _ _ _ h9; simp at h9)), ⟨_, ((mu_n ((mp_ne hg_md hg_av (by simp)))).trans ((mu_n ((mp_ne hg_md hg_ab (by simp)))).trans (mu_s _ _ _)))⟩, ⟨_, ((mu_n ((mp_ne hg_ab hg_av (by simp)))).trans (mu_s _ _ _)), hsy9⟩, ⟨_, (mu_s _ _ _), hvb9⟩, ⟨_, _, _, _, _, _, ⟨((mu_n ((mp_ne hg_c1 hg_av (by simp)))).trans ((mu_n ((mp_ne hg_c1 hg_ab (by simp)))).trans ((mu_n ((mp_ne hg_c1 hg_md (by simp)))).trans (hg_c1)))), ((mu_n ((mp_ne hg_c2 hg_av (by simp)))).trans ((mu_n ((mp_ne hg_c2 hg_ab (by simp)))).trans ((mu_n ((mp_ne hg_c2 hg_md (by simp)))).trans (hg_c2)))), ((mu_n ((mp_ne hg_c3 hg_av (by simp)))).trans ((mu_n ((mp_ne hg_c3 hg_ab (by simp)))).trans ((mu_n ((mp_ne hg_c3 hg_md (by simp)))).trans (hg_c3)))), ((mu_n ((mp_ne hg_c4 hg_av (by simp)))).trans ((mu_n ((mp_ne hg_c4 hg_ab (by simp)))).trans ((mu_n ((mp_ne hg_c4 hg_md (by simp)))).trans (hg_c4)))), ((mu_n ((mp_ne hg_c5 hg_av (by simp)))).trans ((mu_n ((mp_ne hg_c5 hg_ab (by simp)))).trans ((mu_n ((mp_ne hg_c5 hg_md (by simp)))).trans (hg_c5)))), ((mu_n ((mp_ne hg_c6 hg_av (by simp)))).trans ((mu_n ((mp_ne hg_c6 hg_ab (by simp)))).trans ((mu_n ((mp_ne hg_c6 hg_md (by simp)))).trans (hg_c6))))⟩, hSM⟩, ⟨_, _, _, ((mu_n ((mp_ne hg_c7 hg_av (by simp)))).trans ((mu_n ((mp_ne hg_c7 hg_ab (by simp)))).trans ((mu_n ((mp_ne hg_c7 hg_md (by simp)))).trans (hg_c7)))), ((mu_n ((mp_ne hg_c8 hg_av (by simp)))).trans ((mu_n ((mp_ne hg_c8 hg_ab (by simp)))).trans ((mu_n ((mp_ne hg_c8 hg_md (by simp)))).trans (hg_c8)))), ((mu_n ((mp_ne hg_c9 hg_av (by simp)))).trans ((mu_n ((mp_ne hg_c9 hg_ab (by simp)))).trans ((mu_n ((mp_ne hg_c9 hg_md (by simp)))).trans (hg_c9))))⟩, ⟨_, ((mu_n ((mp_ne hg_ou hg_av (by simp)))).trans ((mu_n ((mp_ne hg_ou hg_ab (by simp)))).trans ((mu_n ((mp_ne hg_ou hg_md (by simp)))).trans (hg_ou))))⟩, ⟨DN2.no (hmd) hn_md, DN2.no (hou) hn_ou, DN2.no (hab) hn_ab, DN2.no (hav) hn_av, DN2.no (hc1) hn_c1, DN2.no (hc2) hn_c2, DN2.no (hc3) hn_c3, DN2.no (hc4) hn_c4, DN2.no (hc5) hn_c5, DN2.no (hc6) hn_c6, DN2.no (hc7) hn_c7, DN2.no (hc8) hn_c8, DN2.no (hc9) hn_c9⟩, ⟨n12, n13, n14, n15, n16, n23, n24, n25, n26, n34, n35, n36, n45, n46, n56, n78, n79, n89⟩⟩) _ _ hP hS ls (lv_sub hl [1, 2, 3, 4, 5] rfl)

set_option maxHeartbeats 4000000 in
set_option maxRecDepth 100000 in
theorem lg_5 (l : Launch) (hlt : l.stackTraces = false) (G : GG) (B : Nat) (sc0 : Nat) (fs : Nat → Int32) (n9 : Nat) {p : Program} {e : Env} {s : State} {m : MethodId} {args : Array Value} {below : List Frame} {meth : Method} {c : Code} {Q : State → Prop} (d md ou ab av c1 c2 c3 c4 c5 c6 c7 c8 c9 k sc j : Nat) (μ : mp) (D : Nat → Prop) (hx : p.tables.exec = Jvm.exec) (hb : c.code = cL_law) (hml : c.maxLocals = 8) (hown : s.vm.findClass RL = some m.cls) (hts : ∀ w ∈ wsL_law, w.before args s = true) (hBs : B ≤ s.heap.size) (hKK : KK G B s) (hDc : DcI s) (hNc : va_Nc exS exA s) (hscB : sc0 < B) (hbl : sc0 < s.heap.size) (hX : va_X sc0 n9 fs s s.heap) (hn9 : n9 ≤ 3072) (hj : 6 * j + 6 ≤ n9) (LN : ∀ (μ9 : mp) (k9 sc9 : Nat) (D9 : Nat → Prop) (_ : LI G μ9 d md ou ab av c1 c2 c3 c4 c5 c6 c7 c8 c9 k9 sc9 D9) (H : Heap) (locs : List Loc), mw G.1 vwCl B μ9 H → va_S (fun q => B ≤ q) s.heap H locs → ∀ ls : Array Slot, lv_has ls 8 [(4, .int (nI (6 * j))), (3, .ref ou), (2, .ref md), (1, .ref d), (0, .ref sc0)] → W p l e room_1 s m args below meth c H locs (108 + 5 * (j + 1) + 23 * k9) (7869 + 30 * (j + 1) + 7268 * k9) Q (F0 m 822 ls [])) (hI : LI G μ d md ou ab av c1 c2 c3 c4 c5 c6 c7 c8 c9 k sc D) (H : Heap) (locs : List Loc) (hP : mw G.1 vwCl B μ H) (hS : va_S (fun q => B ≤ q) s.heap H locs) (ls : Array Slot) (hl : lv_has ls 8 [(4, .int (nI (6 * j))), (3, .ref ou), (2, .ref md), (1, .ref d), (0, .ref sc0)]) : W p l e room_1 s m args below meth c H locs (108 + 5 * j + 23 * k) (7869 + 30 * j + 7268 * k) Q (F0 m 363 ls []) := by
  have hK := hKK.k
  obtain ⟨hG, ⟨fl, hmd⟩, ⟨f, hab, hsy⟩, ⟨v, hav, hvb⟩, ⟨i1, i2, i3, i4, i5, i6, ⟨hc1, hc2, hc3, hc4, hc5, hc6⟩, hSM⟩, ⟨l7, l8, l9, hc7, hc8, hc9⟩, ⟨fo, hou⟩, ⟨hn_md, hn_ou, hn_ab, hn_av, hn_c1, hn_c2, hn_c3, hn_c4, hn_c5, hn_c6, hn_c7, hn_c8, hn_c9⟩, ⟨n12, n13, n14, n15, n16, n23, n24, n25, n26, n34, n35, n36, n45, n46, n56, n78, n79, n89⟩⟩ := hI
  have hst := hG.nD
  have hk5 := hG.kl
  obtain ⟨fsd, hdd⟩ := hG.dd
  refine lv_aload_n hx hb dL_law_363 rfl (lv_at hl 3 rfl) ?_
  refine lv_aload_n hx hb dL_law_364 rfl (lv_at hl 4 rfl) ?_
  refine lv_iload hx hb dL_law_365 (lv_at hl 0 rfl) ?_
  refine lv_iconst (v := nI 1) hx hb dL_law_367 (by decide) ?_
  refine nv_iadd hx hb dL_law_368 ?_
  refine sc_iald (i := (6 * j) + 1) hx hb hX hbl hscB hS (by omega) (by omega) dL_law_369 ?_
  refine lv_aload_n hx hb dL_law_370 rfl (lv_at hl 4 rfl) ?_
  refine lv_iload hx hb dL_law_371 (lv_at hl 0 rfl) ?_
  refine lv_iconst (v := nI 2) hx hb dL_law_373 (by decide) ?_
  refine nv_iadd hx hb dL_law_374 ?_
  refine sc_iald (i := (6 * j) + 2) hx hb hX hbl hscB hS (by omega) (by omega) dL_law_375 ?_
  refine lv_aload_n hx hb dL_law_376 rfl (lv_at hl 4 rfl) ?_
  refine lv_iload hx hb dL_law_377 (lv_at hl 0 rfl) ?_
  refine lv_iconst (v := nI 3) hx hb dL_law_379 (by decide) ?_
  refine nv_iadd hx hb dL_law_380 ?_
  refine sc_iald (i := (6 * j) + 3) hx hb hX hbl hscB hS (by omega) (by omega) dL_law_381 ?_
  refine kgx_i (vx_runSX (As := [.ref d, .int (fs ((6 * j) + 1)), .int (fs ((6 * j) + 2)), .int (fs ((6 * j) + 3))]) (rest := []) ⟨hx, hb, hml, hown, hts⟩ (w_L_widen l hlt G B (μ) _ _ d k sc D (fs ((6 * j) + 1)) (fs ((6 * j) + 2)) (fs ((6 * j) + 3)) hG) (vx_cwSW 4 hts gL_law_L_widen rfl rfl rfl (by decide +kernel) ⟨Nat.le_of_ble_eq_true rfl, Nat.le_of_ble_eq_true rfl⟩) ⟨KXCN.blind, fun U9 hU9 hW9 => ⟨rfl, ⟨⟨KW.pre hBs hKK hS hP U9 hU9 hW9, hDc.at hW9⟩, by rw [hU9], by rw [hU9]⟩, hNc.moved hW9.alike⟩⟩ rfl rfl hl.1 rfl (lv_room (Nat.le_of_ble_eq_true rfl)) dL_law_382 ⟨(Nat.le_trans (m := 601024) (by omega) (Nat.le_refl _)), (Nat.le_trans (m := 7293033) (by omega) (Nat.le_refl _))⟩) hS (fun E ce q9 H locs hce hP hS h91 h92 h93 => ?_) (fun r382 m382 k382 H locs hq9 hP hz9 hS => ?_)
  · exact False.elim hce
  obtain ⟨hkq, hG1, hF1, hcase⟩ := hq9
  have hk6 := hG1.kl
  have hg_md := hF1.1 md _ (hmd) hn_md
  have hg_ab := hF1.1 ab _ (hab) hn_ab
  have hg_av := hF1.1 av _ (hav) hn_av
  have hg_c1 := hF1.1 c1 _ (hc1) hn_c1
  have hg_c2 := hF1.1 c2 _ (hc2) hn_c2
  have hg_c3 := hF1.1 c3 _ (hc3) hn_c3
  have hg_c4 := hF1.1 c4 _ (hc4) hn_c4
  have hg_c5 := hF1.1 c5 _ (hc5) hn_c5
  have hg_c6 := hF1.1 c6 _ (hc6) hn_c6
  have hg_c7 := hF1.1 c7 _ (hc7) hn_c7
  have hg_c8 := hF1.1 c8 _ (hc8) hn_c8
  have hg_c9 := hF1.1 c9 _ (hc9) hn_c9
  have hg_ou := hF1.1 ou _ (hou) hn_ou
  refine lv_istore (lv' := [(5, .int r382), (4, .int (nI (6 * j))), (3, .ref ou), (2, .ref md), (1, .ref d), (0, .ref sc0)]) hx hb dL_law_385 hl (by decide) rfl (fun ls hl => ?_)
  refine lv_aload_n hx hb dL_law_387 rfl (lv_at hl 3 rfl) ?_
  refine lv_aload_n hx hb dL_law_388 rfl (lv_at hl 5 rfl) ?_
  refine lv_iload hx hb dL_law_389 (lv_at hl 1 rfl) ?_
  refine lv_iconst (v := nI 1) hx hb dL_law_391 (by decide) ?_
  refine nv_iadd hx hb dL_law_392 ?_
  refine sc_iald (i := (6 * j) + 1) hx hb hX hbl hscB hS (by omega) (by omega) dL_law_393 ?_
  refine lv_aload_n hx hb dL_law_394 rfl (lv_at hl 5 rfl) ?_
  refine lv_iload hx hb dL_law_395 (lv_at hl 1 rfl) ?_
  refine lv_iconst (v := nI 2) hx hb dL_law_397 (by decide) ?_
  refine nv_iadd hx hb dL_law_398 ?_
  refine sc_iald (i := (6 * j) + 2) hx hb hX hbl hscB hS (by omega) (by omega) dL_law_399 ?_
  refine lv_aload_n hx hb dL_law_400 rfl (lv_at hl 5 rfl) ?_
  refine lv_iload hx hb dL_law_401 (lv_at hl 1 rfl) ?_
  refine lv_iconst (v := nI 3) hx hb dL_law_403 (by decide) ?_
  refine nv_iadd hx hb dL_law_404 ?_
  refine sc_iald (i := (6 * j) + 3) hx hb hX hbl hscB hS (by omega) (by omega) dL_law_405 ?_
  refine kc_v (va_runV (As := [.int (fs ((6 * j) + 1)), .int (fs ((6 * j) + 2)), .int (fs ((6 * j) + 3))]) (rest := []) ⟨hx, hb, hml, hown, hts⟩ (m_X4_widen l G B (m382) md ab av c1 c2 c3 c4 c5 c6 c7 c8 c9 fl sc f v (fs ((6 * j) + 1)) (fs ((6 * j) + 2)) (fs ((6 * j) + 3)) (hg_md) (hg_ab) (hg_av) hsy hvb) (cwV 3 hts gL_law_X4_widen rfl rfl rfl (by decide +kernel) ⟨Nat.le_of_ble_eq_true rfl, Nat.le_of_ble_eq_true rfl⟩) ⟨KW.blind, hP.recv hK rfl (hg_md), fun U9 hU9 hW9 => ⟨rfl, KW.pre hBs hKK hS hP U9 hU9 hW9⟩⟩ rfl rfl hl.1 rfl (lv_room (Nat.le_of_ble_eq_true rfl)) dL_law_406 ⟨(Nat.le_trans (m := 601024) (by omega) (Nat.le_refl _)), (Nat.le_trans (m := 7293033) (by omega) (Nat.le_refl _))⟩) hS (fun m406 H locs hq9 hP hz9 hS => ?_)
  obtain ⟨fl9, g9, w9, he9, ⟨hsy9, hvb9⟩, hm9⟩ := hq9
  rw [he9] at hP
  refine lv_goto (tgt := 822) hx hb dL_law_409 (by decide) ?_
  refine W.widen (k := 108 + 5 * (j + 1) + 23 * k382) (n := 7869 + 30 * (j + 1) + 7268 * k382) (by omega) (by omega) ?_
  exact LN (mu (mu (mu m382 md (.inr (4, [.int (nI fl9), .ref ab, .ref av, .int (nI sc), .ref c1, .ref c2, .ref c3, .ref c4, .ref c5, .ref c6, .ref c7, .ref c8, .ref c9]))) ab (.inl (G.2 0, 3744, .inr (.inl g9)))) av (.inl (G.2 2, 26, .inl w9))) k382 sc (DN2 D μ) (⟨(DG.mux (DG.mux (DG.mux hG1 (hg_md) (DN2.no (hmd) hn_md) (by intro _ _ _ h9; simp at h9)) ((mu_n ((mp_ne hg_ab hg_md (by simp)))).trans (hg_ab)) (DN2.no (hab) hn_ab) (by intro _ _ _ h9; simp at h9)) ((mu_n ((mp_ne hg_av hg_ab (by simp)))).trans ((mu_n ((mp_ne hg_av hg_md (by simp)))).trans (hg_av))) (DN2.no (hav) hn_av) (by intro _ _ _ h9; simp at h9)), ⟨_, ((mu_n ((mp_ne hg_md hg_av (by simp)))).trans ((mu_n ((mp_ne hg_md hg_ab (by simp)))).trans (mu_s _ _ _)))⟩, ⟨_, ((mu_n ((mp_ne hg_ab hg_av (by simp)))).trans (mu_s _ _ _)), hsy9⟩, ⟨_, (mu_s _ _ _), hvb9⟩, ⟨_, _, _, _, _, _, ⟨((mu_n ((mp_ne hg_c1 hg_av (by simp)))).trans ((mu_n ((mp_ne hg_c1 hg_ab (by simp)))).trans ((mu_n ((mp_ne hg_c1 hg_md (by simp)))).trans (hg_c1)))), ((mu_n ((mp_ne hg_c2 hg_av (by simp)))).trans ((mu_n ((mp_ne hg_c2 hg_ab (by simp)))).trans ((mu_n ((mp_ne hg_c2 hg_md (by simp)))).trans (hg_c2)))), ((mu_n ((mp_ne hg_c3 hg_av (by simp)))).trans ((mu_n ((mp_ne hg_c3 hg_ab (by simp)))).trans ((mu_n ((mp_ne hg_c3 hg_md (by simp)))).trans (hg_c3)))), ((mu_n ((mp_ne hg_c4 hg_av (by simp)))).trans ((mu_n ((mp_ne hg_c4 hg_ab (by simp)))).trans ((mu_n ((mp_ne hg_c4 hg_md (by simp)))).trans (hg_c4)))), ((mu_n ((mp_ne hg_c5 hg_av (by simp)))).trans ((mu_n ((mp_ne hg_c5 hg_ab (by simp)))).trans ((mu_n ((mp_ne hg_c5 hg_md (by simp)))).trans (hg_c5)))), ((mu_n ((mp_ne hg_c6 hg_av (by simp)))).trans ((mu_n ((mp_ne hg_c6 hg_ab (by simp)))).trans ((mu_n ((mp_ne hg_c6 hg_md (by simp)))).trans (hg_c6))))⟩, hSM⟩, ⟨_, _, _, ((mu_n ((mp_ne hg_c7 hg_av (by simp)))).trans ((mu_n ((mp_ne hg_c7 hg_ab (by simp)))).trans ((mu_n ((mp_ne hg_c7 hg_md (by simp)))).trans (hg_c7)))), ((mu_n ((mp_ne hg_c8 hg_av (by simp)))).trans ((mu_n ((mp_ne hg_c8 hg_ab (by simp)))).trans ((mu_n ((mp_ne hg_c8 hg_md (by simp)))).trans (hg_c8)))), ((mu_n ((mp_ne hg_c9 hg_av (by simp)))).trans ((mu_n ((mp_ne hg_c9 hg_ab (by simp)))).trans ((mu_n ((mp_ne hg_c9 hg_md (by simp)))).trans (hg_c9))))⟩, ⟨_, ((mu_n ((mp_ne hg_ou hg_av (by simp)))).trans ((mu_n ((mp_ne hg_ou hg_ab (by simp)))).trans ((mu_n ((mp_ne hg_ou hg_md (by simp)))).trans (hg_ou))))⟩, ⟨DN2.no (hmd) hn_md, DN2.no (hou) hn_ou, DN2.no (hab) hn_ab, DN2.no (hav) hn_av, DN2.no (hc1) hn_c1, DN2.no (hc2) hn_c2, DN2.no (hc3) hn_c3, DN2.no (hc4) hn_c4, DN2.no (hc5) hn_c5, DN2.no (hc6) hn_c6, DN2.no (hc7) hn_c7, DN2.no (hc8) hn_c8, DN2.no (hc9) hn_c9⟩, ⟨n12, n13, n14, n15, n16, n23, n24, n25, n26, n34, n35, n36, n45, n46, n56, n78, n79, n89⟩⟩) _ _ hP hS ls (lv_sub hl [1, 2, 3, 4, 5] rfl)

set_option maxHeartbeats 4000000 in
set_option maxRecDepth 100000 in
theorem lg_6 (l : Launch) (hlt : l.stackTraces = false) (G : GG) (B : Nat) (sc0 : Nat) (fs : Nat → Int32) (n9 : Nat) {p : Program} {e : Env} {s : State} {m : MethodId} {args : Array Value} {below : List Frame} {meth : Method} {c : Code} {Q : State → Prop} (d md ou ab av c1 c2 c3 c4 c5 c6 c7 c8 c9 k sc j : Nat) (μ : mp) (D : Nat → Prop) (hx : p.tables.exec = Jvm.exec) (hb : c.code = cL_law) (hml : c.maxLocals = 8) (hown : s.vm.findClass RL = some m.cls) (hts : ∀ w ∈ wsL_law, w.before args s = true) (hBs : B ≤ s.heap.size) (hKK : KK G B s) (hDc : DcI s) (hNc : va_Nc exS exA s) (hscB : sc0 < B) (hbl : sc0 < s.heap.size) (hX : va_X sc0 n9 fs s s.heap) (hn9 : n9 ≤ 3072) (hj : 6 * j + 6 ≤ n9) (LN : ∀ (μ9 : mp) (k9 sc9 : Nat) (D9 : Nat → Prop) (_ : LI G μ9 d md ou ab av c1 c2 c3 c4 c5 c6 c7 c8 c9 k9 sc9 D9) (H : Heap) (locs : List Loc), mw G.1 vwCl B μ9 H → va_S (fun q => B ≤ q) s.heap H locs → ∀ ls : Array Slot, lv_has ls 8 [(4, .int (nI (6 * j))), (3, .ref ou), (2, .ref md), (1, .ref d), (0, .ref sc0)] → W p l e room_1 s m args below meth c H locs (108 + 5 * (j + 1) + 23 * k9) (7869 + 30 * (j + 1) + 7268 * k9) Q (F0 m 822 ls [])) (hI : LI G μ d md ou ab av c1 c2 c3 c4 c5 c6 c7 c8 c9 k sc D) (H : Heap) (locs : List Loc) (hP : mw G.1 vwCl B μ H) (hS : va_S (fun q => B ≤ q) s.heap H locs) (ls : Array Slot) (hl : lv_has ls 8 [(4, .int (nI (6 * j))), (3, .ref ou), (2, .ref md), (1, .ref d), (0, .ref sc0)]) : W p l e room_1 s m args below meth c H locs (108 + 5 * j + 23 * k) (7869 + 30 * j + 7268 * k) Q (F0 m 412 ls []) := by
  have hK := hKK.k
  obtain ⟨hG, ⟨fl, hmd⟩, ⟨f, hab, hsy⟩, ⟨v, hav, hvb⟩, ⟨i1, i2, i3, i4, i5, i6, ⟨hc1, hc2, hc3, hc4, hc5, hc6⟩, hSM⟩, ⟨l7, l8, l9, hc7, hc8, hc9⟩, ⟨fo, hou⟩, ⟨hn_md, hn_ou, hn_ab, hn_av, hn_c1, hn_c2, hn_c3, hn_c4, hn_c5, hn_c6, hn_c7, hn_c8, hn_c9⟩, ⟨n12, n13, n14, n15, n16, n23, n24, n25, n26, n34, n35, n36, n45, n46, n56, n78, n79, n89⟩⟩ := hI
  have hst := hG.nD
  have hk5 := hG.kl
  obtain ⟨fsd, hdd⟩ := hG.dd
  refine lv_aload_n hx hb dL_law_412 rfl (lv_at hl 3 rfl) ?_
  refine lv_aload_n hx hb dL_law_413 rfl (lv_at hl 4 rfl) ?_
  refine lv_iload hx hb dL_law_414 (lv_at hl 0 rfl) ?_
  refine lv_iconst (v := nI 1) hx hb dL_law_416 (by decide) ?_
  refine nv_iadd hx hb dL_law_417 ?_
  refine sc_iald (i := (6 * j) + 1) hx hb hX hbl hscB hS (by omega) (by omega) dL_law_418 ?_
  refine lv_aload_n hx hb dL_law_419 rfl (lv_at hl 4 rfl) ?_
  refine lv_iload hx hb dL_law_420 (lv_at hl 0 rfl) ?_
  refine lv_iconst (v := nI 2) hx hb dL_law_422 (by decide) ?_
  refine nv_iadd hx hb dL_law_423 ?_
  refine sc_iald (i := (6 * j) + 2) hx hb hX hbl hscB hS (by omega) (by omega) dL_law_424 ?_
  refine kx_i (vx_runSX (As := [.ref d, .int (fs ((6 * j) + 1)), .int (fs ((6 * j) + 2))]) (rest := []) ⟨hx, hb, hml, hown, hts⟩ (w_L_forget l hlt G B (μ) d k sc D (fs ((6 * j) + 1)) (fs ((6 * j) + 2)) hG) (vx_cwSW 3 hts gL_law_L_forget rfl rfl rfl (by decide +kernel) ⟨Nat.le_of_ble_eq_true rfl, Nat.le_of_ble_eq_true rfl⟩) ⟨KXC.blind, fun U9 hU9 hW9 => ⟨rfl, ⟨KW.pre hBs hKK hS hP U9 hU9 hW9, hDc.at hW9⟩, hNc.moved hW9.alike⟩⟩ rfl rfl hl.1 rfl (lv_room (Nat.le_of_ble_eq_true rfl)) dL_law_425 ⟨(Nat.le_trans (m := 601024) (by omega) (Nat.le_refl _)), (Nat.le_trans (m := 7293033) (by omega) (Nat.le_refl _))⟩) hS (fun E ce q9 H locs hce hP hS h91 h92 h93 => ?_) (fun r425 m425 H locs hq9 hP hz9 hS => ?_)
  · exact False.elim hce
  obtain ⟨hG1, hF1, hcase⟩ := hq9
  have hk6 := hG1.kl
  have hg_md := hF1.1 md _ (hmd) hn_md
  have hg_ab := hF1.1 ab _ (hab) hn_ab
  have hg_av := hF1.1 av _ (hav) hn_av
  have hg_c1 := hF1.1 c1 _ (hc1) hn_c1
  have hg_c2 := hF1.1 c2 _ (hc2) hn_c2
  have hg_c3 := hF1.1 c3 _ (hc3) hn_c3
  have hg_c4 := hF1.1 c4 _ (hc4) hn_c4
  have hg_c5 := hF1.1 c5 _ (hc5) hn_c5
  have hg_c6 := hF1.1 c6 _ (hc6) hn_c6
  have hg_c7 := hF1.1 c7 _ (hc7) hn_c7
  have hg_c8 := hF1.1 c8 _ (hc8) hn_c8
  have hg_c9 := hF1.1 c9 _ (hc9) hn_c9
  have hg_ou := hF1.1 ou _ (hou) hn_ou
  refine lv_istore (lv' := [(5, .int r425), (4, .int (nI (6 * j))), (3, .ref ou), (2, .ref md), (1, .ref d), (0, .ref sc0)]) hx hb dL_law_428 hl (by decide) rfl (fun ls hl => ?_)
  refine lv_aload_n hx hb dL_law_430 rfl (lv_at hl 3 rfl) ?_
  refine lv_aload_n hx hb dL_law_431 rfl (lv_at hl 5 rfl) ?_
  refine lv_iload hx hb dL_law_432 (lv_at hl 1 rfl) ?_
  refine lv_iconst (v := nI 1) hx hb dL_law_434 (by decide) ?_
  refine nv_iadd hx hb dL_law_435 ?_
  refine sc_iald (i := (6 * j) + 1) hx hb hX hbl hscB hS (by omega) (by omega) dL_law_436 ?_
  refine lv_aload_n hx hb dL_law_437 rfl (lv_at hl 5 rfl) ?_
  refine lv_iload hx hb dL_law_438 (lv_at hl 1 rfl) ?_
  refine lv_iconst (v := nI 2) hx hb dL_law_440 (by decide) ?_
  refine nv_iadd hx hb dL_law_441 ?_
  refine sc_iald (i := (6 * j) + 2) hx hb hX hbl hscB hS (by omega) (by omega) dL_law_442 ?_
  refine kc_v (va_runV (As := [.int (fs ((6 * j) + 1)), .int (fs ((6 * j) + 2))]) (rest := []) ⟨hx, hb, hml, hown, hts⟩ (m_X4_forget l G B (m425) md ab av c1 c2 c3 c4 c5 c6 c7 c8 c9 fl sc f v (fs ((6 * j) + 1)) (fs ((6 * j) + 2)) (hg_md) (hg_ab) (hg_av) hsy hvb) (cwV 2 hts gL_law_X4_forget rfl rfl rfl (by decide +kernel) ⟨Nat.le_of_ble_eq_true rfl, Nat.le_of_ble_eq_true rfl⟩) ⟨KW.blind, hP.recv hK rfl (hg_md), fun U9 hU9 hW9 => ⟨rfl, KW.pre hBs hKK hS hP U9 hU9 hW9⟩⟩ rfl rfl hl.1 rfl (lv_room (Nat.le_of_ble_eq_true rfl)) dL_law_443 ⟨(Nat.le_trans (m := 601024) (by omega) (Nat.le_refl _)), (Nat.le_trans (m := 7293033) (by omega) (Nat.le_refl _))⟩) hS (fun m443 H locs hq9 hP hz9 hS => ?_)
  obtain ⟨fl9, g9, w9, he9, ⟨hsy9, hvb9⟩, hm9⟩ := hq9
  rw [he9] at hP
  refine lv_goto (tgt := 822) hx hb dL_law_446 (by decide) ?_
  refine W.widen (k := 108 + 5 * (j + 1) + 23 * k) (n := 7869 + 30 * (j + 1) + 7268 * k) (by omega) (by omega) ?_
  exact LN (mu (mu (mu m425 md (.inr (4, [.int (nI fl9), .ref ab, .ref av, .int (nI sc), .ref c1, .ref c2, .ref c3, .ref c4, .ref c5, .ref c6, .ref c7, .ref c8, .ref c9]))) ab (.inl (G.2 0, 3744, .inr (.inl g9)))) av (.inl (G.2 2, 26, .inl w9))) k sc (DN2 D μ) (⟨(DG.mux (DG.mux (DG.mux hG1 (hg_md) (DN2.no (hmd) hn_md) (by intro _ _ _ h9; simp at h9)) ((mu_n ((mp_ne hg_ab hg_md (by simp)))).trans (hg_ab)) (DN2.no (hab) hn_ab) (by intro _ _ _ h9; simp at h9)) ((mu_n ((mp_ne hg_av hg_ab (by simp)))).trans ((mu_n ((mp_ne hg_av hg_md (by simp)))).trans (hg_av))) (DN2.no (hav) hn_av) (by intro _ _ _ h9; simp at h9)), ⟨_, ((mu_n ((mp_ne hg_md hg_av (by simp)))).trans ((mu_n ((mp_ne hg_md hg_ab (by simp)))).trans (mu_s _ _ _)))⟩, ⟨_, ((mu_n ((mp_ne hg_ab hg_av (by simp)))).trans (mu_s _ _ _)), hsy9⟩, ⟨_, (mu_s _ _ _), hvb9⟩, ⟨_, _, _, _, _, _, ⟨((mu_n ((mp_ne hg_c1 hg_av (by simp)))).trans ((mu_n ((mp_ne hg_c1 hg_ab (by simp)))).trans ((mu_n ((mp_ne hg_c1 hg_md (by simp)))).trans (hg_c1)))), ((mu_n ((mp_ne hg_c2 hg_av (by simp)))).trans ((mu_n ((mp_ne hg_c2 hg_ab (by simp)))).trans ((mu_n ((mp_ne hg_c2 hg_md (by simp)))).trans (hg_c2)))), ((mu_n ((mp_ne hg_c3 hg_av (by simp)))).trans ((mu_n ((mp_ne hg_c3 hg_ab (by simp)))).trans ((mu_n ((mp_ne hg_c3 hg_md (by simp)))).trans (hg_c3)))), ((mu_n ((mp_ne hg_c4 hg_av (by simp)))).trans ((mu_n ((mp_ne hg_c4 hg_ab (by simp)))).trans ((mu_n ((mp_ne hg_c4 hg_md (by simp)))).trans (hg_c4)))), ((mu_n ((mp_ne hg_c5 hg_av (by simp)))).trans ((mu_n ((mp_ne hg_c5 hg_ab (by simp)))).trans ((mu_n ((mp_ne hg_c5 hg_md (by simp)))).trans (hg_c5)))), ((mu_n ((mp_ne hg_c6 hg_av (by simp)))).trans ((mu_n ((mp_ne hg_c6 hg_ab (by simp)))).trans ((mu_n ((mp_ne hg_c6 hg_md (by simp)))).trans (hg_c6))))⟩, hSM⟩, ⟨_, _, _, ((mu_n ((mp_ne hg_c7 hg_av (by simp)))).trans ((mu_n ((mp_ne hg_c7 hg_ab (by simp)))).trans ((mu_n ((mp_ne hg_c7 hg_md (by simp)))).trans (hg_c7)))), ((mu_n ((mp_ne hg_c8 hg_av (by simp)))).trans ((mu_n ((mp_ne hg_c8 hg_ab (by simp)))).trans ((mu_n ((mp_ne hg_c8 hg_md (by simp)))).trans (hg_c8)))), ((mu_n ((mp_ne hg_c9 hg_av (by simp)))).trans ((mu_n ((mp_ne hg_c9 hg_ab (by simp)))).trans ((mu_n ((mp_ne hg_c9 hg_md (by simp)))).trans (hg_c9))))⟩, ⟨_, ((mu_n ((mp_ne hg_ou hg_av (by simp)))).trans ((mu_n ((mp_ne hg_ou hg_ab (by simp)))).trans ((mu_n ((mp_ne hg_ou hg_md (by simp)))).trans (hg_ou))))⟩, ⟨DN2.no (hmd) hn_md, DN2.no (hou) hn_ou, DN2.no (hab) hn_ab, DN2.no (hav) hn_av, DN2.no (hc1) hn_c1, DN2.no (hc2) hn_c2, DN2.no (hc3) hn_c3, DN2.no (hc4) hn_c4, DN2.no (hc5) hn_c5, DN2.no (hc6) hn_c6, DN2.no (hc7) hn_c7, DN2.no (hc8) hn_c8, DN2.no (hc9) hn_c9⟩, ⟨n12, n13, n14, n15, n16, n23, n24, n25, n26, n34, n35, n36, n45, n46, n56, n78, n79, n89⟩⟩) _ _ hP hS ls (lv_sub hl [1, 2, 3, 4, 5] rfl)

set_option maxHeartbeats 4000000 in
set_option maxRecDepth 100000 in
theorem lg_7 (l : Launch) (hlt : l.stackTraces = false) (G : GG) (B : Nat) (sc0 : Nat) (fs : Nat → Int32) (n9 : Nat) {p : Program} {e : Env} {s : State} {m : MethodId} {args : Array Value} {below : List Frame} {meth : Method} {c : Code} {Q : State → Prop} (d md ou ab av c1 c2 c3 c4 c5 c6 c7 c8 c9 k sc j : Nat) (μ : mp) (D : Nat → Prop) (hx : p.tables.exec = Jvm.exec) (hb : c.code = cL_law) (hml : c.maxLocals = 8) (hown : s.vm.findClass RL = some m.cls) (hts : ∀ w ∈ wsL_law, w.before args s = true) (hBs : B ≤ s.heap.size) (hKK : KK G B s) (hDc : DcI s) (hNc : va_Nc exS exA s) (hscB : sc0 < B) (hbl : sc0 < s.heap.size) (hX : va_X sc0 n9 fs s s.heap) (hn9 : n9 ≤ 3072) (hj : 6 * j + 6 ≤ n9) (LN : ∀ (μ9 : mp) (k9 sc9 : Nat) (D9 : Nat → Prop) (_ : LI G μ9 d md ou ab av c1 c2 c3 c4 c5 c6 c7 c8 c9 k9 sc9 D9) (H : Heap) (locs : List Loc), mw G.1 vwCl B μ9 H → va_S (fun q => B ≤ q) s.heap H locs → ∀ ls : Array Slot, lv_has ls 8 [(4, .int (nI (6 * j))), (3, .ref ou), (2, .ref md), (1, .ref d), (0, .ref sc0)] → W p l e room_1 s m args below meth c H locs (108 + 5 * (j + 1) + 23 * k9) (7869 + 30 * (j + 1) + 7268 * k9) Q (F0 m 822 ls [])) (hI : LI G μ d md ou ab av c1 c2 c3 c4 c5 c6 c7 c8 c9 k sc D) (H : Heap) (locs : List Loc) (hP : mw G.1 vwCl B μ H) (hS : va_S (fun q => B ≤ q) s.heap H locs) (ls : Array Slot) (hl : lv_has ls 8 [(4, .int (nI (6 * j))), (3, .ref ou), (2, .ref md), (1, .ref d), (0, .ref sc0)]) : W p l e room_1 s m args below meth c H locs (108 + 5 * j + 23 * k) (7869 + 30 * j + 7268 * k) Q (F0 m 449 ls []) := by
  have hK := hKK.k
  obtain ⟨hG, ⟨fl, hmd⟩, ⟨f, hab, hsy⟩, ⟨v, hav, hvb⟩, ⟨i1, i2, i3, i4, i5, i6, ⟨hc1, hc2, hc3, hc4, hc5, hc6⟩, hSM⟩, ⟨l7, l8, l9, hc7, hc8, hc9⟩, ⟨fo, hou⟩, ⟨hn_md, hn_ou, hn_ab, hn_av, hn_c1, hn_c2, hn_c3, hn_c4, hn_c5, hn_c6, hn_c7, hn_c8, hn_c9⟩, ⟨n12, n13, n14, n15, n16, n23, n24, n25, n26, n34, n35, n36, n45, n46, n56, n78, n79, n89⟩⟩ := hI
  have hst := hG.nD
  have hk5 := hG.kl
  obtain ⟨fsd, hdd⟩ := hG.dd
  refine lv_aload_n hx hb dL_law_449 rfl (lv_at hl 3 rfl) ?_
  refine lv_aload_n hx hb dL_law_450 rfl (lv_at hl 4 rfl) ?_
  refine lv_iload hx hb dL_law_451 (lv_at hl 0 rfl) ?_
  refine lv_iconst (v := nI 1) hx hb dL_law_453 (by decide) ?_
  refine nv_iadd hx hb dL_law_454 ?_
  refine sc_iald (i := (6 * j) + 1) hx hb hX hbl hscB hS (by omega) (by omega) dL_law_455 ?_
  refine lv_aload_n hx hb dL_law_456 rfl (lv_at hl 1 rfl) ?_
  refine kx_i (vx_runSX (As := [.ref d, .int (fs ((6 * j) + 1)), .ref ou]) (rest := []) ⟨hx, hb, hml, hown, hts⟩ (w_L_isEmpty l hlt G B (μ) d k sc D (fs ((6 * j) + 1)) ou fo hG hou hn_ou) (vx_cwSW 3 hts gL_law_L_isEmpty rfl rfl rfl (by decide +kernel) ⟨Nat.le_of_ble_eq_true rfl, Nat.le_of_ble_eq_true rfl⟩) ⟨KXC.blind, fun U9 hU9 hW9 => ⟨rfl, ⟨KW.pre hBs hKK hS hP U9 hU9 hW9, hDc.at hW9⟩, hNc.moved hW9.alike⟩⟩ rfl rfl hl.1 rfl (lv_room (Nat.le_of_ble_eq_true rfl)) dL_law_457 ⟨(Nat.le_trans (m := 601024) (by omega) (Nat.le_refl _)), (Nat.le_trans (m := 7293033) (by omega) (Nat.le_refl _))⟩) hS (fun E ce q9 H locs hce hP hS h91 h92 h93 => ?_) (fun r457 m457 H locs hq9 hP hz9 hS => ?_)
  · exact False.elim hce
  obtain ⟨hG1, hF1, fo9, hou9⟩ := hq9
  have hk6 := hG1.kl
  have hg_md := hF1.1 md _ (hmd) (mp_ne hmd hou (by simp)) hn_md
  have hg_ab := hF1.1 ab _ (hab) (mp_ne hab hou (by simp)) hn_ab
  have hg_av := hF1.1 av _ (hav) (mp_ne hav hou (by simp)) hn_av
  have hg_c1 := hF1.1 c1 _ (hc1) (mp_ne hc1 hou (by simp)) hn_c1
  have hg_c2 := hF1.1 c2 _ (hc2) (mp_ne hc2 hou (by simp)) hn_c2
  have hg_c3 := hF1.1 c3 _ (hc3) (mp_ne hc3 hou (by simp)) hn_c3
  have hg_c4 := hF1.1 c4 _ (hc4) (mp_ne hc4 hou (by simp)) hn_c4
  have hg_c5 := hF1.1 c5 _ (hc5) (mp_ne hc5 hou (by simp)) hn_c5
  have hg_c6 := hF1.1 c6 _ (hc6) (mp_ne hc6 hou (by simp)) hn_c6
  have hg_c7 := hF1.1 c7 _ (hc7) (mp_ne hc7 hou (by simp)) hn_c7
  have hg_c8 := hF1.1 c8 _ (hc8) (mp_ne hc8 hou (by simp)) hn_c8
  have hg_c9 := hF1.1 c9 _ (hc9) (mp_ne hc9 hou (by simp)) hn_c9
  refine lv_istore (lv' := [(5, .int r457), (4, .int (nI (6 * j))), (3, .ref ou), (2, .ref md), (1, .ref d), (0, .ref sc0)]) hx hb dL_law_460 hl (by decide) rfl (fun ls hl => ?_)
  refine lv_aload_n hx hb dL_law_462 rfl (lv_at hl 3 rfl) ?_
  refine lv_aload_n hx hb dL_law_463 rfl (lv_at hl 5 rfl) ?_
  refine lv_iload hx hb dL_law_464 (lv_at hl 1 rfl) ?_
  refine lv_iconst (v := nI 1) hx hb dL_law_466 (by decide) ?_
  refine nv_iadd hx hb dL_law_467 ?_
  refine sc_iald (i := (6 * j) + 1) hx hb hX hbl hscB hS (by omega) (by omega) dL_law_468 ?_
  refine kc_i (va_runV (As := [.int (fs ((6 * j) + 1))]) (rest := []) ⟨hx, hb, hml, hown, hts⟩ (m_X4_isEmpty l G B (m457) md ab av c1 c2 c3 c4 c5 c6 c7 c8 c9 fl sc f v (fs ((6 * j) + 1)) (hg_md) (hg_ab) (hg_av) hsy hvb) (cwV 1 hts gL_law_X4_isEmpty rfl rfl rfl (by decide +kernel) ⟨Nat.le_of_ble_eq_true rfl, Nat.le_of_ble_eq_true rfl⟩) ⟨KW.blind, hP.recv hK rfl (hg_md), fun U9 hU9 hW9 => ⟨rfl, KW.pre hBs hKK hS hP U9 hU9 hW9⟩⟩ rfl rfl hl.1 rfl (lv_room (Nat.le_of_ble_eq_true rfl)) dL_law_469 ⟨(Nat.le_trans (m := 601024) (by omega) (Nat.le_refl _)), (Nat.le_trans (m := 7293033) (by omega) (Nat.le_refl _))⟩) hS (fun r469 m469 H locs hq9 hP hz9 hS => ?_)
  obtain ⟨fl9, g9, w9, he9, ⟨hsy9, hvb9⟩⟩ := hq9
  rw [he9] at hP
  refine lv_istore (lv' := [(6, .int r469), (5, .int r457), (4, .int (nI (6 * j))), (3, .ref ou), (2, .ref md), (1, .ref d), (0, .ref sc0)]) hx hb dL_law_472 hl (by decide) rfl (fun ls hl => ?_)
  refine lv_goto (tgt := 822) hx hb dL_law_474 (by decide) ?_
  refine W.widen (k := 108 + 5 * (j + 1) + 23 * k) (n := 7869 + 30 * (j + 1) + 7268 * k) (by omega) (by omega) ?_
  exact LN (mu (mu (mu m457 md (.inr (4, [.int (nI fl9), .ref ab, .ref av, .int (nI sc), .ref c1, .ref c2, .ref c3, .ref c4, .ref c5, .ref c6, .ref c7, .ref c8, .ref c9]))) ab (.inl (G.2 0, 3744, .inr (.inl g9)))) av (.inl (G.2 2, 26, .inl w9))) k sc (DN2 D μ) (⟨(DG.mux (DG.mux (DG.mux hG1 (hg_md) (DN2.no (hmd) hn_md) (by intro _ _ _ h9; simp at h9)) ((mu_n ((mp_ne hg_ab hg_md (by simp)))).trans (hg_ab)) (DN2.no (hab) hn_ab) (by intro _ _ _ h9; simp at h9)) ((mu_n ((mp_ne hg_av hg_ab (by simp)))).trans ((mu_n ((mp_ne hg_av hg_md (by simp)))).trans (hg_av))) (DN2.no (hav) hn_av) (by intro _ _ _ h9; simp at h9)), ⟨_, ((mu_n ((mp_ne hg_md hg_av (by simp)))).trans ((mu_n ((mp_ne hg_md hg_ab (by simp)))).trans (mu_s _ _ _)))⟩, ⟨_, ((mu_n ((mp_ne hg_ab hg_av (by simp)))).trans (mu_s _ _ _)), hsy9⟩, ⟨_, (mu_s _ _ _), hvb9⟩, ⟨_, _, _, _, _, _, ⟨((mu_n ((mp_ne hg_c1 hg_av (by simp)))).trans ((mu_n ((mp_ne hg_c1 hg_ab (by simp)))).trans ((mu_n ((mp_ne hg_c1 hg_md (by simp)))).trans (hg_c1)))), ((mu_n ((mp_ne hg_c2 hg_av (by simp)))).trans ((mu_n ((mp_ne hg_c2 hg_ab (by simp)))).trans ((mu_n ((mp_ne hg_c2 hg_md (by simp)))).trans (hg_c2)))), ((mu_n ((mp_ne hg_c3 hg_av (by simp)))).trans ((mu_n ((mp_ne hg_c3 hg_ab (by simp)))).trans ((mu_n ((mp_ne hg_c3 hg_md (by simp)))).trans (hg_c3)))), ((mu_n ((mp_ne hg_c4 hg_av (by simp)))).trans ((mu_n ((mp_ne hg_c4 hg_ab (by simp)))).trans ((mu_n ((mp_ne hg_c4 hg_md (by simp)))).trans (hg_c4)))), ((mu_n ((mp_ne hg_c5 hg_av (by simp)))).trans ((mu_n ((mp_ne hg_c5 hg_ab (by simp)))).trans ((mu_n ((mp_ne hg_c5 hg_md (by simp)))).trans (hg_c5)))), ((mu_n ((mp_ne hg_c6 hg_av (by simp)))).trans ((mu_n ((mp_ne hg_c6 hg_ab (by simp)))).trans ((mu_n ((mp_ne hg_c6 hg_md (by simp)))).trans (hg_c6))))⟩, hSM⟩, ⟨_, _, _, ((mu_n ((mp_ne hg_c7 hg_av (by simp)))).trans ((mu_n ((mp_ne hg_c7 hg_ab (by simp)))).trans ((mu_n ((mp_ne hg_c7 hg_md (by simp)))).trans (hg_c7)))), ((mu_n ((mp_ne hg_c8 hg_av (by simp)))).trans ((mu_n ((mp_ne hg_c8 hg_ab (by simp)))).trans ((mu_n ((mp_ne hg_c8 hg_md (by simp)))).trans (hg_c8)))), ((mu_n ((mp_ne hg_c9 hg_av (by simp)))).trans ((mu_n ((mp_ne hg_c9 hg_ab (by simp)))).trans ((mu_n ((mp_ne hg_c9 hg_md (by simp)))).trans (hg_c9))))⟩, ⟨_, ((mu_n ((mp_ne hou9 hg_av (by simp)))).trans ((mu_n ((mp_ne hou9 hg_ab (by simp)))).trans ((mu_n ((mp_ne hou9 hg_md (by simp)))).trans (hou9))))⟩, ⟨DN2.no (hmd) hn_md, DN2.no (hou) hn_ou, DN2.no (hab) hn_ab, DN2.no (hav) hn_av, DN2.no (hc1) hn_c1, DN2.no (hc2) hn_c2, DN2.no (hc3) hn_c3, DN2.no (hc4) hn_c4, DN2.no (hc5) hn_c5, DN2.no (hc6) hn_c6, DN2.no (hc7) hn_c7, DN2.no (hc8) hn_c8, DN2.no (hc9) hn_c9⟩, ⟨n12, n13, n14, n15, n16, n23, n24, n25, n26, n34, n35, n36, n45, n46, n56, n78, n79, n89⟩⟩) _ _ hP hS ls (lv_sub hl [2, 3, 4, 5, 6] rfl)

set_option maxHeartbeats 4000000 in
set_option maxRecDepth 100000 in
theorem lg_8 (l : Launch) (hlt : l.stackTraces = false) (G : GG) (B : Nat) (sc0 : Nat) (fs : Nat → Int32) (n9 : Nat) {p : Program} {e : Env} {s : State} {m : MethodId} {args : Array Value} {below : List Frame} {meth : Method} {c : Code} {Q : State → Prop} (d md ou ab av c1 c2 c3 c4 c5 c6 c7 c8 c9 k sc j : Nat) (μ : mp) (D : Nat → Prop) (hx : p.tables.exec = Jvm.exec) (hb : c.code = cL_law) (hml : c.maxLocals = 8) (hown : s.vm.findClass RL = some m.cls) (hts : ∀ w ∈ wsL_law, w.before args s = true) (hBs : B ≤ s.heap.size) (hKK : KK G B s) (hDc : DcI s) (hNc : va_Nc exS exA s) (hscB : sc0 < B) (hbl : sc0 < s.heap.size) (hX : va_X sc0 n9 fs s s.heap) (hn9 : n9 ≤ 3072) (hj : 6 * j + 6 ≤ n9) (LN : ∀ (μ9 : mp) (k9 sc9 : Nat) (D9 : Nat → Prop) (_ : LI G μ9 d md ou ab av c1 c2 c3 c4 c5 c6 c7 c8 c9 k9 sc9 D9) (H : Heap) (locs : List Loc), mw G.1 vwCl B μ9 H → va_S (fun q => B ≤ q) s.heap H locs → ∀ ls : Array Slot, lv_has ls 8 [(4, .int (nI (6 * j))), (3, .ref ou), (2, .ref md), (1, .ref d), (0, .ref sc0)] → W p l e room_1 s m args below meth c H locs (108 + 5 * (j + 1) + 23 * k9) (7869 + 30 * (j + 1) + 7268 * k9) Q (F0 m 822 ls [])) (hI : LI G μ d md ou ab av c1 c2 c3 c4 c5 c6 c7 c8 c9 k sc D) (H : Heap) (locs : List Loc) (hP : mw G.1 vwCl B μ H) (hS : va_S (fun q => B ≤ q) s.heap H locs) (ls : Array Slot) (hl : lv_has ls 8 [(4, .int (nI (6 * j))), (3, .ref ou), (2, .ref md), (1, .ref d), (0, .ref sc0)]) : W p l e room_1 s m args below meth c H locs (108 + 5 * j + 23 * k) (7869 + 30 * j + 7268 * k) Q (F0 m 477 ls []) := by
  have hK := hKK.k
  obtain ⟨hG, ⟨fl, hmd⟩, ⟨f, hab, hsy⟩, ⟨v, hav, hvb⟩, ⟨i1, i2, i3, i4, i5, i6, ⟨hc1, hc2, hc3, hc4, hc5, hc6⟩, hSM⟩, ⟨l7, l8, l9, hc7, hc8, hc9⟩, ⟨fo, hou⟩, ⟨hn_md, hn_ou, hn_ab, hn_av, hn_c1, hn_c2, hn_c3, hn_c4, hn_c5, hn_c6, hn_c7, hn_c8, hn_c9⟩, ⟨n12, n13, n14, n15, n16, n23, n24, n25, n26, n34, n35, n36, n45, n46, n56, n78, n79, n89⟩⟩ := hI
  have hst := hG.nD
  have hk5 := hG.kl
  obtain ⟨fsd, hdd⟩ := hG.dd
  refine lv_aload_n hx hb dL_law_477 rfl (lv_at hl 3 rfl) ?_
  refine lv_aload_n hx hb dL_law_478 rfl (lv_at hl 4 rfl) ?_
  refine lv_iload hx hb dL_law_479 (lv_at hl 0 rfl) ?_
  refine lv_iconst (v := nI 1) hx hb dL_law_481 (by decide) ?_
  refine nv_iadd hx hb dL_law_482 ?_
  refine sc_iald (i := (6 * j) + 1) hx hb hX hbl hscB hS (by omega) (by omega) dL_law_483 ?_
  refine lv_aload_n hx hb dL_law_484 rfl (lv_at hl 4 rfl) ?_
  refine lv_iload hx hb dL_law_485 (lv_at hl 0 rfl) ?_
  refine lv_iconst (v := nI 2) hx hb dL_law_487 (by decide) ?_
  refine nv_iadd hx hb dL_law_488 ?_
  refine sc_iald (i := (6 * j) + 2) hx hb hX hbl hscB hS (by omega) (by omega) dL_law_489 ?_
  refine lv_aload_n hx hb dL_law_490 rfl (lv_at hl 4 rfl) ?_
  refine lv_iload hx hb dL_law_491 (lv_at hl 0 rfl) ?_
  refine lv_iconst (v := nI 3) hx hb dL_law_493 (by decide) ?_
  refine nv_iadd hx hb dL_law_494 ?_
  refine sc_iald (i := (6 * j) + 3) hx hb hX hbl hscB hS (by omega) (by omega) dL_law_495 ?_
  refine lv_aload_n hx hb dL_law_496 rfl (lv_at hl 1 rfl) ?_
  refine kx_i (vx_runSX (As := [.ref d, .int (fs ((6 * j) + 1)), .int (fs ((6 * j) + 2)), .int (fs ((6 * j) + 3)), .ref ou]) (rest := []) ⟨hx, hb, hml, hown, hts⟩ (w_L_most l hlt G B (μ) d k sc D (fs ((6 * j) + 1)) (fs ((6 * j) + 2)) (fs ((6 * j) + 3)) ou fo hG hou hn_ou) (vx_cwSW 5 hts gL_law_L_most rfl rfl rfl (by decide +kernel) ⟨Nat.le_of_ble_eq_true rfl, Nat.le_of_ble_eq_true rfl⟩) ⟨KXC.blind, fun U9 hU9 hW9 => ⟨rfl, ⟨KW.pre hBs hKK hS hP U9 hU9 hW9, hDc.at hW9⟩, hNc.moved hW9.alike⟩⟩ rfl rfl hl.1 rfl (lv_room (Nat.le_of_ble_eq_true rfl)) dL_law_497 ⟨(Nat.le_trans (m := 601024) (by omega) (Nat.le_refl _)), (Nat.le_trans (m := 7293033) (by omega) (Nat.le_refl _))⟩) hS (fun E ce q9 H locs hce hP hS h91 h92 h93 => ?_) (fun r497 m497 H locs hq9 hP hz9 hS => ?_)
  · exact False.elim hce
  obtain ⟨hG1, hF1, fo9, hou9⟩ := hq9
  have hk6 := hG1.kl
  have hg_md := hF1.1 md _ (hmd) (mp_ne hmd hou (by simp)) hn_md
  have hg_ab := hF1.1 ab _ (hab) (mp_ne hab hou (by simp)) hn_ab
  have hg_av := hF1.1 av _ (hav) (mp_ne hav hou (by simp)) hn_av
  have hg_c1 := hF1.1 c1 _ (hc1) (mp_ne hc1 hou (by simp)) hn_c1
  have hg_c2 := hF1.1 c2 _ (hc2) (mp_ne hc2 hou (by simp)) hn_c2
  have hg_c3 := hF1.1 c3 _ (hc3) (mp_ne hc3 hou (by simp)) hn_c3
  have hg_c4 := hF1.1 c4 _ (hc4) (mp_ne hc4 hou (by simp)) hn_c4
  have hg_c5 := hF1.1 c5 _ (hc5) (mp_ne hc5 hou (by simp)) hn_c5
  have hg_c6 := hF1.1 c6 _ (hc6) (mp_ne hc6 hou (by simp)) hn_c6
  have hg_c7 := hF1.1 c7 _ (hc7) (mp_ne hc7 hou (by simp)) hn_c7
  have hg_c8 := hF1.1 c8 _ (hc8) (mp_ne hc8 hou (by simp)) hn_c8
  have hg_c9 := hF1.1 c9 _ (hc9) (mp_ne hc9 hou (by simp)) hn_c9
  refine lv_istore (lv' := [(5, .int r497), (4, .int (nI (6 * j))), (3, .ref ou), (2, .ref md), (1, .ref d), (0, .ref sc0)]) hx hb dL_law_500 hl (by decide) rfl (fun ls hl => ?_)
  refine lv_aload_n hx hb dL_law_502 rfl (lv_at hl 3 rfl) ?_
  refine lv_aload_n hx hb dL_law_503 rfl (lv_at hl 5 rfl) ?_
  refine lv_iload hx hb dL_law_504 (lv_at hl 1 rfl) ?_
  refine lv_iconst (v := nI 1) hx hb dL_law_506 (by decide) ?_
  refine nv_iadd hx hb dL_law_507 ?_
  refine sc_iald (i := (6 * j) + 1) hx hb hX hbl hscB hS (by omega) (by omega) dL_law_508 ?_
  refine lv_aload_n hx hb dL_law_509 rfl (lv_at hl 5 rfl) ?_
  refine lv_iload hx hb dL_law_510 (lv_at hl 1 rfl) ?_
  refine lv_iconst (v := nI 2) hx hb dL_law_512 (by decide) ?_
  refine nv_iadd hx hb dL_law_513 ?_
  refine sc_iald (i := (6 * j) + 2) hx hb hX hbl hscB hS (by omega) (by omega) dL_law_514 ?_
  refine lv_aload_n hx hb dL_law_515 rfl (lv_at hl 5 rfl) ?_
  refine lv_iload hx hb dL_law_516 (lv_at hl 1 rfl) ?_
  refine lv_iconst (v := nI 3) hx hb dL_law_518 (by decide) ?_
  refine nv_iadd hx hb dL_law_519 ?_
  refine sc_iald (i := (6 * j) + 3) hx hb hX hbl hscB hS (by omega) (by omega) dL_law_520 ?_
  refine kc_l (va_runV (As := [.int (fs ((6 * j) + 1)), .int (fs ((6 * j) + 2)), .int (fs ((6 * j) + 3))]) (rest := []) ⟨hx, hb, hml, hown, hts⟩ (m_X4_most l G B (m497) md ab av c1 c2 c3 c4 c5 c6 c7 c8 c9 fl sc f v (fs ((6 * j) + 1)) (fs ((6 * j) + 2)) (fs ((6 * j) + 3)) (hg_md) (hg_ab) (hg_av) hsy hvb) (cwV 3 hts gL_law_X4_most rfl rfl rfl (by decide +kernel) ⟨Nat.le_of_ble_eq_true rfl, Nat.le_of_ble_eq_true rfl⟩) ⟨KW.blind, hP.recv hK rfl (hg_md), fun U9 hU9 hW9 => ⟨rfl, KW.pre hBs hKK hS hP U9 hU9 hW9⟩⟩ rfl rfl hl.1 rfl (lv_room (Nat.le_of_ble_eq_true rfl)) dL_law_521 ⟨(Nat.le_trans (m := 601024) (by omega) (Nat.le_refl _)), (Nat.le_trans (m := 7293033) (by omega) (Nat.le_refl _))⟩) hS (fun r521 m521 H locs hq9 hP hz9 hS => ?_)
  obtain ⟨fl9, g9, w9, he9, ⟨hsy9, hvb9⟩⟩ := hq9
  rw [he9] at hP
  refine lv_lstore (lv' := [(6, .long r521), (5, .int r497), (4, .int (nI (6 * j))), (3, .ref ou), (2, .ref md), (1, .ref d), (0, .ref sc0)]) hx hb dL_law_524 hl (by decide) rfl (fun ls hl => ?_)
  refine lv_goto (tgt := 822) hx hb dL_law_526 (by decide) ?_
  refine W.widen (k := 108 + 5 * (j + 1) + 23 * k) (n := 7869 + 30 * (j + 1) + 7268 * k) (by omega) (by omega) ?_
  exact LN (mu (mu (mu m497 md (.inr (4, [.int (nI fl9), .ref ab, .ref av, .int (nI sc), .ref c1, .ref c2, .ref c3, .ref c4, .ref c5, .ref c6, .ref c7, .ref c8, .ref c9]))) ab (.inl (G.2 0, 3744, .inr (.inl g9)))) av (.inl (G.2 2, 26, .inl w9))) k sc (DN2 D μ) (⟨(DG.mux (DG.mux (DG.mux hG1 (hg_md) (DN2.no (hmd) hn_md) (by intro _ _ _ h9; simp at h9)) ((mu_n ((mp_ne hg_ab hg_md (by simp)))).trans (hg_ab)) (DN2.no (hab) hn_ab) (by intro _ _ _ h9; simp at h9)) ((mu_n ((mp_ne hg_av hg_ab (by simp)))).trans ((mu_n ((mp_ne hg_av hg_md (by simp)))).trans (hg_av))) (DN2.no (hav) hn_av) (by intro _ _ _ h9; simp at h9)), ⟨_, ((mu_n ((mp_ne hg_md hg_av (by simp)))).trans ((mu_n ((mp_ne hg_md hg_ab (by simp)))).trans (mu_s _ _ _)))⟩, ⟨_, ((mu_n ((mp_ne hg_ab hg_av (by simp)))).trans (mu_s _ _ _)), hsy9⟩, ⟨_, (mu_s _ _ _), hvb9⟩, ⟨_, _, _, _, _, _, ⟨((mu_n ((mp_ne hg_c1 hg_av (by simp)))).trans ((mu_n ((mp_ne hg_c1 hg_ab (by simp)))).trans ((mu_n ((mp_ne hg_c1 hg_md (by simp)))).trans (hg_c1)))), ((mu_n ((mp_ne hg_c2 hg_av (by simp)))).trans ((mu_n ((mp_ne hg_c2 hg_ab (by simp)))).trans ((mu_n ((mp_ne hg_c2 hg_md (by simp)))).trans (hg_c2)))), ((mu_n ((mp_ne hg_c3 hg_av (by simp)))).trans ((mu_n ((mp_ne hg_c3 hg_ab (by simp)))).trans ((mu_n ((mp_ne hg_c3 hg_md (by simp)))).trans (hg_c3)))), ((mu_n ((mp_ne hg_c4 hg_av (by simp)))).trans ((mu_n ((mp_ne hg_c4 hg_ab (by simp)))).trans ((mu_n ((mp_ne hg_c4 hg_md (by simp)))).trans (hg_c4)))), ((mu_n ((mp_ne hg_c5 hg_av (by simp)))).trans ((mu_n ((mp_ne hg_c5 hg_ab (by simp)))).trans ((mu_n ((mp_ne hg_c5 hg_md (by simp)))).trans (hg_c5)))), ((mu_n ((mp_ne hg_c6 hg_av (by simp)))).trans ((mu_n ((mp_ne hg_c6 hg_ab (by simp)))).trans ((mu_n ((mp_ne hg_c6 hg_md (by simp)))).trans (hg_c6))))⟩, hSM⟩, ⟨_, _, _, ((mu_n ((mp_ne hg_c7 hg_av (by simp)))).trans ((mu_n ((mp_ne hg_c7 hg_ab (by simp)))).trans ((mu_n ((mp_ne hg_c7 hg_md (by simp)))).trans (hg_c7)))), ((mu_n ((mp_ne hg_c8 hg_av (by simp)))).trans ((mu_n ((mp_ne hg_c8 hg_ab (by simp)))).trans ((mu_n ((mp_ne hg_c8 hg_md (by simp)))).trans (hg_c8)))), ((mu_n ((mp_ne hg_c9 hg_av (by simp)))).trans ((mu_n ((mp_ne hg_c9 hg_ab (by simp)))).trans ((mu_n ((mp_ne hg_c9 hg_md (by simp)))).trans (hg_c9))))⟩, ⟨_, ((mu_n ((mp_ne hou9 hg_av (by simp)))).trans ((mu_n ((mp_ne hou9 hg_ab (by simp)))).trans ((mu_n ((mp_ne hou9 hg_md (by simp)))).trans (hou9))))⟩, ⟨DN2.no (hmd) hn_md, DN2.no (hou) hn_ou, DN2.no (hab) hn_ab, DN2.no (hav) hn_av, DN2.no (hc1) hn_c1, DN2.no (hc2) hn_c2, DN2.no (hc3) hn_c3, DN2.no (hc4) hn_c4, DN2.no (hc5) hn_c5, DN2.no (hc6) hn_c6, DN2.no (hc7) hn_c7, DN2.no (hc8) hn_c8, DN2.no (hc9) hn_c9⟩, ⟨n12, n13, n14, n15, n16, n23, n24, n25, n26, n34, n35, n36, n45, n46, n56, n78, n79, n89⟩⟩) _ _ hP hS ls (lv_sub hl [2, 3, 4, 5, 6] rfl)
