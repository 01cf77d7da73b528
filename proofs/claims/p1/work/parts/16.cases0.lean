set_option maxHeartbeats 4000000 in
set_option maxRecDepth 100000 in
theorem lw_k0 (l : Launch) (hlt : l.stackTraces = false) (G : GG) (B : Nat) (sc0 : Nat) (fs : Nat → Int32) {p : Program} {e : Env} {s : State} {m : MethodId} {args : Array Value} {below : List Frame} {meth : Method} {c : Code} {Q : State → Prop} (μ : mp) (d aS aL aR aT aO bn nn s9 lo : Nat) (nf : List Value) (sa la bE : Nat → Nat) (F : Nat → Nat → Int64) (g : Nat → Int64) (w9 : Nat → Int32) (fS fL fR fT : Nat → Option Nat) (sp : Nat → Nat) (fO : Nat → Int64) (ou : Nat) (fo : Nat → Int64) (md ab av c1 c2 c3 c4 c5 c6 c7 c8 c9 : Nat) (f : Nat → Int64) (v : Nat → Int32) (i1 i2 i3 i4 i5 i6 : Nat → Int32) (hx : p.tables.exec = Jvm.exec) (hb : c.code = cL_law) (hml : c.maxLocals = 8) (hown : s.vm.findClass RL = some m.cls) (hts : ∀ w ∈ wsL_law, w.before args s = true) (hBs : B ≤ s.heap.size) (hKK : KK G B s) (hDc : DcI s) (hscB : sc0 < B) (hbl : sc0 < s.heap.size) (hX : va_X sc0 6 fs s s.heap) (L1218 : ∀ (μ9 : mp) (H : Heap) (locs : List Loc), mw G.1 vwCl B μ9 H → va_S (fun q => B ≤ q) s.heap H locs → ∀ ls : Array Slot, lv_has ls 8 [(4, .int (nI 0)), (3, .ref ou), (2, .ref md), (1, .ref d), (0, .ref sc0)] → W p l e room_1 s m args below meth c H locs 138 15799 Q (F0 m 1218 ls [])) (hD : DK G μ d aS aL aR aT aO bn nn s9 lo 0 nf sa la bE F g w9 fS fL fR fT sp fO) (hFS : FS F bE g) (hou : μ ou = some (.inl (G.2 0, 1, .inr (.inl fo)))) (hap : Apt d aO s9 lo sa la sp ou) (hmd : μ md = some (.inr (7, [.int (nI 0), .ref ab, .ref av, .int (nI 0), .ref c1, .ref c2, .ref c3, .ref c4, .ref c5, .ref c6, .ref c7, .ref c8, .ref c9]))) (hab : μ ab = some (.inl (G.2 0, 3744, .inr (.inl f)))) (hav : μ av = some (.inl (G.2 2, 26, .inl v))) (hNM : NM f v) (hc1 : μ c1 = some (.inl (G.2 1, 20, .inl i1))) (hc2 : μ c2 = some (.inl (G.2 1, 20, .inl i2))) (hc3 : μ c3 = some (.inl (G.2 1, 20, .inl i3))) (hc4 : μ c4 = some (.inl (G.2 1, 20, .inl i4))) (hc5 : μ c5 = some (.inl (G.2 1, 20, .inl i5))) (hc6 : μ c6 = some (.inl (G.2 1, 20, .inl i6))) (n12 : c1 ≠ c2) (n13 : c1 ≠ c3) (n14 : c1 ≠ c4) (n15 : c1 ≠ c5) (n16 : c1 ≠ c6) (n23 : c2 ≠ c3) (n24 : c2 ≠ c4) (n25 : c2 ≠ c5) (n26 : c2 ≠ c6) (n34 : c3 ≠ c4) (n35 : c3 ≠ c5) (n36 : c3 ≠ c6) (n45 : c4 ≠ c5) (n46 : c4 ≠ c6) (n56 : c5 ≠ c6) (ap_md : Apt d aO s9 lo sa la sp md) (ap_ab : Apt d aO s9 lo sa la sp ab) (ap_av : Apt d aO s9 lo sa la sp av) (ap_c1 : Apt d aO s9 lo sa la sp c1) (ap_c2 : Apt d aO s9 lo sa la sp c2) (ap_c3 : Apt d aO s9 lo sa la sp c3) (ap_c4 : Apt d aO s9 lo sa la sp c4) (ap_c5 : Apt d aO s9 lo sa la sp c5) (ap_c6 : Apt d aO s9 lo sa la sp c6) (H : Heap) (locs : List Loc) (hP : mw G.1 vwCl B μ H) (hS : va_S (fun q => B ≤ q) s.heap H locs) (ls : Array Slot) (hl : lv_has ls 8 [(4, .int (nI 0)), (3, .ref ou), (2, .ref md), (1, .ref d), (0, .ref sc0)]) : W p l e room_1 s m args below meth c H locs 103 8067 Q (F0 m 124 ls []) := by
  have hK := hKK.k
  refine lv_aload_n hx hb dL_law_124 rfl (lv_at hl 3 rfl) ?_
  refine lv_aload_n hx hb dL_law_125 rfl (lv_at hl 4 rfl) ?_
  refine lv_iload hx hb dL_law_126 (lv_at hl 0 rfl) ?_
  refine lv_iconst (v := nI 1) hx hb dL_law_128 (by decide) ?_
  refine nv_iadd hx hb dL_law_129 ?_
  refine sc_iald (i := 1) hx hb hX hbl hscB hS (by omega) (by omega) dL_law_130 ?_
  refine lv_aload_n hx hb dL_law_131 rfl (lv_at hl 4 rfl) ?_
  refine lv_iload hx hb dL_law_132 (lv_at hl 0 rfl) ?_
  refine lv_iconst (v := nI 2) hx hb dL_law_134 (by decide) ?_
  refine nv_iadd hx hb dL_law_135 ?_
  refine sc_iald (i := 2) hx hb hX hbl hscB hS (by omega) (by omega) dL_law_136 ?_
  refine lv_aload_n hx hb dL_law_137 rfl (lv_at hl 4 rfl) ?_
  refine lv_iload hx hb dL_law_138 (lv_at hl 0 rfl) ?_
  refine lv_iconst (v := nI 3) hx hb dL_law_140 (by decide) ?_
  refine nv_iadd hx hb dL_law_141 ?_
  refine sc_iald (i := 3) hx hb hX hbl hscB hS (by omega) (by omega) dL_law_142 ?_
  refine lv_aload_n hx hb dL_law_143 rfl (lv_at hl 4 rfl) ?_
  refine lv_iload hx hb dL_law_144 (lv_at hl 0 rfl) ?_
  refine lv_iconst (v := nI 4) hx hb dL_law_146 (by decide) ?_
  refine nv_iadd hx hb dL_law_147 ?_
  refine sc_iald (i := 4) hx hb hX hbl hscB hS (by omega) (by omega) dL_law_148 ?_
  refine lv_aload_n hx hb dL_law_149 rfl (lv_at hl 4 rfl) ?_
  refine lv_iload hx hb dL_law_150 (lv_at hl 0 rfl) ?_
  refine lv_iconst (v := nI 5) hx hb dL_law_152 (by decide) ?_
  refine nv_iadd hx hb dL_law_153 ?_
  refine sc_iald (i := 5) hx hb hX hbl hscB hS (by omega) (by omega) dL_law_154 ?_
  refine lv_aload_n hx hb dL_law_155 rfl (lv_at hl 1 rfl) ?_
  refine kx_i (vx_runSX (As := [.ref d, .int (fs 1), .int (fs 2), .int (fs 3), .int (fs 4), .int (fs 5), .ref ou]) (rest := []) ⟨hx, hb, hml, hown, hts⟩ (c_L_act l hlt G B (μ) d aS aL aR aT aO bn nn s9 lo nf sa la bE F g w9 fS fL fR fT sp fO (fs 1) (fs 2) (fs 3) (fs 4) (fs 5) ou fo hD hFS hou hap) (vx_cwSW 7 hts gL_law_L_act rfl rfl rfl (by decide +kernel) ⟨Nat.le_of_ble_eq_true rfl, Nat.le_of_ble_eq_true rfl⟩) ⟨KX.blind, fun U9 hU9 hW9 => ⟨rfl, KW.pre hBs hKK hS hP U9 hU9 hW9, hDc.at hW9⟩⟩ rfl rfl hl.1 rfl (lv_room (Nat.le_of_ble_eq_true rfl)) dL_law_156 ⟨(Nat.le_of_ble_eq_true rfl), (Nat.le_of_ble_eq_true rfl)⟩) hS (fun E ce q9 H locs hce hP hS h91 h92 h93 => ?_) (fun r156 m156 H locs hq9 hP hz9 hS => ?_)
  · exact False.elim hce
  obtain ⟨hfr, fo9, hou9, hcase⟩ := hq9
  have hg_md := hfr md _ (hmd) (mp_ne hmd hou (by simp)) ap_md
  have hg_ab := hfr ab _ (hab) (mp_ne hab hou (by simp)) ap_ab
  have hg_av := hfr av _ (hav) (mp_ne hav hou (by simp)) ap_av
  have hg_c1 := hfr c1 _ (hc1) (mp_ne hc1 hou (by simp)) ap_c1
  have hg_c2 := hfr c2 _ (hc2) (mp_ne hc2 hou (by simp)) ap_c2
  have hg_c3 := hfr c3 _ (hc3) (mp_ne hc3 hou (by simp)) ap_c3
  have hg_c4 := hfr c4 _ (hc4) (mp_ne hc4 hou (by simp)) ap_c4
  have hg_c5 := hfr c5 _ (hc5) (mp_ne hc5 hou (by simp)) ap_c5
  have hg_c6 := hfr c6 _ (hc6) (mp_ne hc6 hou (by simp)) ap_c6
  refine lv_istore (lv' := [(5, .int r156), (4, .int (nI 0)), (3, .ref ou), (2, .ref md), (1, .ref d), (0, .ref sc0)]) hx hb dL_law_159 hl (by decide) rfl (fun ls hl => ?_)
  refine lv_aload_n hx hb dL_law_161 rfl (lv_at hl 3 rfl) ?_
  refine lv_aload_n hx hb dL_law_162 rfl (lv_at hl 5 rfl) ?_
  refine lv_iload hx hb dL_law_163 (lv_at hl 1 rfl) ?_
  refine lv_iconst (v := nI 1) hx hb dL_law_165 (by decide) ?_
  refine nv_iadd hx hb dL_law_166 ?_
  refine sc_iald (i := 1) hx hb hX hbl hscB hS (by omega) (by omega) dL_law_167 ?_
  refine lv_aload_n hx hb dL_law_168 rfl (lv_at hl 5 rfl) ?_
  refine lv_iload hx hb dL_law_169 (lv_at hl 1 rfl) ?_
  refine lv_iconst (v := nI 2) hx hb dL_law_171 (by decide) ?_
  refine nv_iadd hx hb dL_law_172 ?_
  refine sc_iald (i := 2) hx hb hX hbl hscB hS (by omega) (by omega) dL_law_173 ?_
  refine lv_aload_n hx hb dL_law_174 rfl (lv_at hl 5 rfl) ?_
  refine lv_iload hx hb dL_law_175 (lv_at hl 1 rfl) ?_
  refine lv_iconst (v := nI 3) hx hb dL_law_177 (by decide) ?_
  refine nv_iadd hx hb dL_law_178 ?_
  refine sc_iald (i := 3) hx hb hX hbl hscB hS (by omega) (by omega) dL_law_179 ?_
  refine lv_aload_n hx hb dL_law_180 rfl (lv_at hl 5 rfl) ?_
  refine lv_iload hx hb dL_law_181 (lv_at hl 1 rfl) ?_
  refine lv_iconst (v := nI 4) hx hb dL_law_183 (by decide) ?_
  refine nv_iadd hx hb dL_law_184 ?_
  refine sc_iald (i := 4) hx hb hX hbl hscB hS (by omega) (by omega) dL_law_185 ?_
  refine lv_aload_n hx hb dL_law_186 rfl (lv_at hl 5 rfl) ?_
  refine lv_iload hx hb dL_law_187 (lv_at hl 1 rfl) ?_
  refine lv_iconst (v := nI 5) hx hb dL_law_189 (by decide) ?_
  refine nv_iadd hx hb dL_law_190 ?_
  refine sc_iald (i := 5) hx hb hX hbl hscB hS (by omega) (by omega) dL_law_191 ?_
  refine kc_i (va_runV (As := [.int (fs 1), .int (fs 2), .int (fs 3), .int (fs 4), .int (fs 5)]) (rest := []) ⟨hx, hb, hml, hown, hts⟩ (c_X7_act l G B (m156) md ab av c1 c2 c3 c4 c5 c6 c7 c8 c9 0 0 f v (fs 1) (fs 2) (fs 3) (fs 4) (fs 5) (hg_md) (hg_ab) (hg_av) hNM) (cwV 5 hts gL_law_X7_act rfl rfl rfl (by decide +kernel) ⟨Nat.le_of_ble_eq_true rfl, Nat.le_of_ble_eq_true rfl⟩) ⟨KW.blind, hP.recv hK rfl (hg_md), fun U9 hU9 hW9 => ⟨rfl, KW.pre hBs hKK hS hP U9 hU9 hW9⟩⟩ rfl rfl hl.1 rfl (lv_room (Nat.le_of_ble_eq_true rfl)) dL_law_192 ⟨(Nat.le_of_ble_eq_true rfl), (Nat.le_of_ble_eq_true rfl)⟩) hS (fun r192 m192 H locs hq9 hP hz9 hS => ?_)
  obtain ⟨fl9, g9, w9, he9, hm9⟩ := hq9
  rw [he9] at hP
  rcases hcase with ⟨hr9, hok, hv9⟩ | ⟨hr9, hno⟩
  · rcases hm9 with ⟨hf9, hok2, hb9⟩ | ⟨hf9, hno2⟩
    · subst hf9
      obtain rfl : r156 = nI 0 := hr9
      obtain rfl : r192 = nI 1 := hb9
      refine lv_istore (lv' := [(6, .int (nI 1)), (5, .int (nI 0)), (4, .int (nI 0)), (3, .ref ou), (2, .ref md), (1, .ref d), (0, .ref sc0)]) hx hb dL_law_195 hl (by decide) rfl (fun ls hl => ?_)
      refine lv_aload_n hx hb dL_law_197 rfl (lv_at hl 4 rfl) ?_
      refine kc_i (va_runV (As := []) (rest := []) ⟨hx, hb, hml, hown, hts⟩ (c_X7_thrown l G B (mu (mu (mu m156 md (.inr (7, [.int (nI 0), .ref ab, .ref av, .int (nI 0), .ref c1, .ref c2, .ref c3, .ref c4, .ref c5, .ref c6, .ref c7, .ref c8, .ref c9]))) ab (.inl (G.2 0, 3744, .inr (.inl g9)))) av (.inl (G.2 2, 26, .inl w9))) md ab av c1 c2 c3 c4 c5 c6 c7 c8 c9 0 0 g9 w9 ((mu_n ((mp_ne hg_md hg_av (by simp)))).trans ((mu_n ((mp_ne hg_md hg_ab (by simp)))).trans (mu_s _ _ _))) ((mu_n ((mp_ne hg_ab hg_av (by simp)))).trans (mu_s _ _ _)) (mu_s _ _ _)) (cwV 0 hts gL_law_X7_thrown rfl rfl rfl (by decide +kernel) ⟨Nat.le_of_ble_eq_true rfl, Nat.le_of_ble_eq_true rfl⟩) ⟨KW.blind, hP.recv hK rfl ((mu_n ((mp_ne hg_md hg_av (by simp)))).trans ((mu_n ((mp_ne hg_md hg_ab (by simp)))).trans (mu_s _ _ _))), fun U9 hU9 hW9 => ⟨rfl, KW.pre hBs hKK hS hP U9 hU9 hW9⟩⟩ rfl rfl hl.1 rfl (lv_room (Nat.le_of_ble_eq_true rfl)) dL_law_198 ⟨(Nat.le_of_ble_eq_true rfl), (Nat.le_of_ble_eq_true rfl)⟩) hS (fun r198 m198 H locs hq9 hP hz9 hS => ?_)
      obtain ⟨he8, hr8⟩ := hq9
      rw [he8] at hP
      obtain rfl : r198 = nI 0 := hr8
      refine lv_iload hx hb dL_law_201 (lv_at hl 1 rfl) ?_
      refine nv_icmp_eq (tgt := 208) hx hb (by omega) (by omega) dL_law_203 (by decide) (fun hc203 => ?_) (fun hc203 => ?_)
      · refine lv_iload hx hb dL_law_208 (lv_at hl 1 rfl) ?_
        refine lv_if_ne (tgt := 232) hx hb dL_law_210 (by decide) (fun hc210 => ?_) (fun hc210 => ?_)
        · exact absurd rfl hc210
        · refine lv_aload_n hx hb dL_law_213 rfl (lv_at hl 3 rfl) ?_
          refine lv_iconst (v := nI 0) hx hb dL_law_214 (by decide) ?_
          refine mw_lald hx hb hK hP 0 ((mu_n ((mp_ne hou9 hg_av (by simp)))).trans ((mu_n ((mp_ne hou9 hg_ab (by simp)))).trans ((mu_n ((mp_ne hou9 hg_md (by simp)))).trans (hou9)))) rfl (by omega) (by omega) dL_law_215 ?_
          refine lv_iload hx hb dL_law_216 (lv_at hl 0 rfl) ?_
          refine lv_if_eq (tgt := 225) hx hb dL_law_218 (by decide) (fun hc218 => ?_) (fun hc218 => ?_)
          · exact absurd hc218 (by decide)
          · refine lv_lconst (v := 1) hx hb dL_law_221 (by decide) ?_
            refine lv_goto (tgt := 226) hx hb dL_law_222 (by decide) ?_
            refine nl_if_eq (tgt := 232) hx hb dL_law_226 dL_law_227 (by decide) (fun hc226 => ?_) (fun hc226 => ?_)
            · refine lv_goto (tgt := 1218) hx hb dL_law_232 (by decide) ?_
              refine W.widen (k := 138) (n := 15799) (by omega) (by omega) ?_
              exact L1218 (mu (mu (mu m156 md (.inr (7, [.int (nI 0), .ref ab, .ref av, .int (nI 0), .ref c1, .ref c2, .ref c3, .ref c4, .ref c5, .ref c6, .ref c7, .ref c8, .ref c9]))) ab (.inl (G.2 0, 3744, .inr (.inl g9)))) av (.inl (G.2 2, 26, .inl w9)))  _ _ hP hS ls (lv_sub hl [2, 3, 4, 5, 6] rfl)
            · exact absurd (hv9.trans (by first | rfl | decide | (subst_vars; decide))) hc226
      · exfalso; omega
    · exact absurd hok hno2
  · rcases hm9 with ⟨hf9, hok2, hb9⟩ | ⟨hf9, hno2⟩
    · exact absurd hok2 hno
    · subst hf9
      obtain rfl : r156 = nI 1 := hr9
      refine lv_istore (lv' := [(6, .int r192), (5, .int (nI 1)), (4, .int (nI 0)), (3, .ref ou), (2, .ref md), (1, .ref d), (0, .ref sc0)]) hx hb dL_law_195 hl (by decide) rfl (fun ls hl => ?_)
      refine lv_aload_n hx hb dL_law_197 rfl (lv_at hl 4 rfl) ?_
      refine kc_i (va_runV (As := []) (rest := []) ⟨hx, hb, hml, hown, hts⟩ (c_X7_thrown l G B (mu (mu (mu m156 md (.inr (7, [.int (nI 1), .ref ab, .ref av, .int (nI 0), .ref c1, .ref c2, .ref c3, .ref c4, .ref c5, .ref c6, .ref c7, .ref c8, .ref c9]))) ab (.inl (G.2 0, 3744, .inr (.inl g9)))) av (.inl (G.2 2, 26, .inl w9))) md ab av c1 c2 c3 c4 c5 c6 c7 c8 c9 1 0 g9 w9 ((mu_n ((mp_ne hg_md hg_av (by simp)))).trans ((mu_n ((mp_ne hg_md hg_ab (by simp)))).trans (mu_s _ _ _))) ((mu_n ((mp_ne hg_ab hg_av (by simp)))).trans (mu_s _ _ _)) (mu_s _ _ _)) (cwV 0 hts gL_law_X7_thrown rfl rfl rfl (by decide +kernel) ⟨Nat.le_of_ble_eq_true rfl, Nat.le_of_ble_eq_true rfl⟩) ⟨KW.blind, hP.recv hK rfl ((mu_n ((mp_ne hg_md hg_av (by simp)))).trans ((mu_n ((mp_ne hg_md hg_ab (by simp)))).trans (mu_s _ _ _))), fun U9 hU9 hW9 => ⟨rfl, KW.pre hBs hKK hS hP U9 hU9 hW9⟩⟩ rfl rfl hl.1 rfl (lv_room (Nat.le_of_ble_eq_true rfl)) dL_law_198 ⟨(Nat.le_of_ble_eq_true rfl), (Nat.le_of_ble_eq_true rfl)⟩) hS (fun r198 m198 H locs hq9 hP hz9 hS => ?_)
      obtain ⟨he8, hr8⟩ := hq9
      rw [he8] at hP
      obtain rfl : r198 = nI 1 := hr8
      refine lv_iload hx hb dL_law_201 (lv_at hl 1 rfl) ?_
      refine nv_icmp_eq (tgt := 208) hx hb (by omega) (by omega) dL_law_203 (by decide) (fun hc203 => ?_) (fun hc203 => ?_)
      · refine lv_iload hx hb dL_law_208 (lv_at hl 1 rfl) ?_
        refine lv_if_ne (tgt := 232) hx hb dL_law_210 (by decide) (fun hc210 => ?_) (fun hc210 => ?_)
        · refine lv_goto (tgt := 1218) hx hb dL_law_232 (by decide) ?_
          refine W.widen (k := 138) (n := 15799) (by omega) (by omega) ?_
          exact L1218 (mu (mu (mu m156 md (.inr (7, [.int (nI 1), .ref ab, .ref av, .int (nI 0), .ref c1, .ref c2, .ref c3, .ref c4, .ref c5, .ref c6, .ref c7, .ref c8, .ref c9]))) ab (.inl (G.2 0, 3744, .inr (.inl g9)))) av (.inl (G.2 2, 26, .inl w9)))  _ _ hP hS ls (lv_sub hl [2, 3, 4, 5, 6] rfl)
        · exact absurd hc210 (by decide)
      · exfalso; omega

set_option maxHeartbeats 4000000 in
set_option maxRecDepth 100000 in
theorem lw_k1 (l : Launch) (hlt : l.stackTraces = false) (G : GG) (B : Nat) (sc0 : Nat) (fs : Nat → Int32) {p : Program} {e : Env} {s : State} {m : MethodId} {args : Array Value} {below : List Frame} {meth : Method} {c : Code} {Q : State → Prop} (μ : mp) (d aS aL aR aT aO bn nn s9 lo : Nat) (nf : List Value) (sa la bE : Nat → Nat) (F : Nat → Nat → Int64) (g : Nat → Int64) (w9 : Nat → Int32) (fS fL fR fT : Nat → Option Nat) (sp : Nat → Nat) (fO : Nat → Int64) (ou : Nat) (fo : Nat → Int64) (md ab av c1 c2 c3 c4 c5 c6 c7 c8 c9 : Nat) (f : Nat → Int64) (v : Nat → Int32) (i1 i2 i3 i4 i5 i6 : Nat → Int32) (hx : p.tables.exec = Jvm.exec) (hb : c.code = cL_law) (hml : c.maxLocals = 8) (hown : s.vm.findClass RL = some m.cls) (hts : ∀ w ∈ wsL_law, w.before args s = true) (hBs : B ≤ s.heap.size) (hKK : KK G B s) (hDc : DcI s) (hscB : sc0 < B) (hbl : sc0 < s.heap.size) (hX : va_X sc0 6 fs s s.heap) (L1218 : ∀ (μ9 : mp) (H : Heap) (locs : List Loc), mw G.1 vwCl B μ9 H → va_S (fun q => B ≤ q) s.heap H locs → ∀ ls : Array Slot, lv_has ls 8 [(4, .int (nI 0)), (3, .ref ou), (2, .ref md), (1, .ref d), (0, .ref sc0)] → W p l e room_1 s m args below meth c H locs 138 15799 Q (F0 m 1218 ls [])) (hD : DK G μ d aS aL aR aT aO bn nn s9 lo 0 nf sa la bE F g w9 fS fL fR fT sp fO) (hFS : FS F bE g) (hou : μ ou = some (.inl (G.2 0, 1, .inr (.inl fo)))) (hap : Apt d aO s9 lo sa la sp ou) (hmd : μ md = some (.inr (7, [.int (nI 0), .ref ab, .ref av, .int (nI 0), .ref c1, .ref c2, .ref c3, .ref c4, .ref c5, .ref c6, .ref c7, .ref c8, .ref c9]))) (hab : μ ab = some (.inl (G.2 0, 3744, .inr (.inl f)))) (hav : μ av = some (.inl (G.2 2, 26, .inl v))) (hNM : NM f v) (hc1 : μ c1 = some (.inl (G.2 1, 20, .inl i1))) (hc2 : μ c2 = some (.inl (G.2 1, 20, .inl i2))) (hc3 : μ c3 = some (.inl (G.2 1, 20, .inl i3))) (hc4 : μ c4 = some (.inl (G.2 1, 20, .inl i4))) (hc5 : μ c5 = some (.inl (G.2 1, 20, .inl i5))) (hc6 : μ c6 = some (.inl (G.2 1, 20, .inl i6))) (n12 : c1 ≠ c2) (n13 : c1 ≠ c3) (n14 : c1 ≠ c4) (n15 : c1 ≠ c5) (n16 : c1 ≠ c6) (n23 : c2 ≠ c3) (n24 : c2 ≠ c4) (n25 : c2 ≠ c5) (n26 : c2 ≠ c6) (n34 : c3 ≠ c4) (n35 : c3 ≠ c5) (n36 : c3 ≠ c6) (n45 : c4 ≠ c5) (n46 : c4 ≠ c6) (n56 : c5 ≠ c6) (ap_md : Apt d aO s9 lo sa la sp md) (ap_ab : Apt d aO s9 lo sa la sp ab) (ap_av : Apt d aO s9 lo sa la sp av) (ap_c1 : Apt d aO s9 lo sa la sp c1) (ap_c2 : Apt d aO s9 lo sa la sp c2) (ap_c3 : Apt d aO s9 lo sa la sp c3) (ap_c4 : Apt d aO s9 lo sa la sp c4) (ap_c5 : Apt d aO s9 lo sa la sp c5) (ap_c6 : Apt d aO s9 lo sa la sp c6) (H : Heap) (locs : List Loc) (hP : mw G.1 vwCl B μ H) (hS : va_S (fun q => B ≤ q) s.heap H locs) (ls : Array Slot) (hl : lv_has ls 8 [(4, .int (nI 0)), (3, .ref ou), (2, .ref md), (1, .ref d), (0, .ref sc0)]) : W p l e room_1 s m args below meth c H locs 103 8067 Q (F0 m 235 ls []) := by
  have hK := hKK.k
  refine lv_aload_n hx hb dL_law_235 rfl (lv_at hl 3 rfl) ?_
  refine lv_aload_n hx hb dL_law_236 rfl (lv_at hl 4 rfl) ?_
  refine lv_iload hx hb dL_law_237 (lv_at hl 0 rfl) ?_
  refine lv_iconst (v := nI 1) hx hb dL_law_239 (by decide) ?_
  refine nv_iadd hx hb dL_law_240 ?_
  refine sc_iald (i := 1) hx hb hX hbl hscB hS (by omega) (by omega) dL_law_241 ?_
  refine kx_i (vx_runSX (As := [.ref d, .int (fs 1)]) (rest := []) ⟨hx, hb, hml, hown, hts⟩ (c_L_clear l hlt G B (μ) d aS aL aR aT aO bn nn s9 lo nf sa la bE F g w9 fS fL fR fT sp fO (fs 1) hD hFS) (vx_cwSW 2 hts gL_law_L_clear rfl rfl rfl (by decide +kernel) ⟨Nat.le_of_ble_eq_true rfl, Nat.le_of_ble_eq_true rfl⟩) ⟨KX.blind, fun U9 hU9 hW9 => ⟨rfl, KW.pre hBs hKK hS hP U9 hU9 hW9, hDc.at hW9⟩⟩ rfl rfl hl.1 rfl (lv_room (Nat.le_of_ble_eq_true rfl)) dL_law_242 ⟨(Nat.le_of_ble_eq_true rfl), (Nat.le_of_ble_eq_true rfl)⟩) hS (fun E ce q9 H locs hce hP hS h91 h92 h93 => ?_) (fun r242 m242 H locs hq9 hP hz9 hS => ?_)
  · exact False.elim hce
  obtain ⟨hfr, hcase⟩ := hq9
  have hg_md := hfr md _ (hmd) ap_md
  have hg_ab := hfr ab _ (hab) ap_ab
  have hg_av := hfr av _ (hav) ap_av
  have hg_c1 := hfr c1 _ (hc1) ap_c1
  have hg_c2 := hfr c2 _ (hc2) ap_c2
  have hg_c3 := hfr c3 _ (hc3) ap_c3
  have hg_c4 := hfr c4 _ (hc4) ap_c4
  have hg_c5 := hfr c5 _ (hc5) ap_c5
  have hg_c6 := hfr c6 _ (hc6) ap_c6
  have hg_ou := hfr ou _ (hou) hap
  refine lv_istore (lv' := [(5, .int r242), (4, .int (nI 0)), (3, .ref ou), (2, .ref md), (1, .ref d), (0, .ref sc0)]) hx hb dL_law_245 hl (by decide) rfl (fun ls hl => ?_)
  refine lv_aload_n hx hb dL_law_247 rfl (lv_at hl 3 rfl) ?_
  refine lv_aload_n hx hb dL_law_248 rfl (lv_at hl 5 rfl) ?_
  refine lv_iload hx hb dL_law_249 (lv_at hl 1 rfl) ?_
  refine lv_iconst (v := nI 1) hx hb dL_law_251 (by decide) ?_
  refine nv_iadd hx hb dL_law_252 ?_
  refine sc_iald (i := 1) hx hb hX hbl hscB hS (by omega) (by omega) dL_law_253 ?_
  refine kc_v (va_runV (As := [.int (fs 1)]) (rest := []) ⟨hx, hb, hml, hown, hts⟩ (c_X7_clear l G B (m242) md ab av c1 c2 c3 c4 c5 c6 c7 c8 c9 0 0 f v (fs 1) (hg_md) (hg_ab) (hg_av) hNM) (cwV 1 hts gL_law_X7_clear rfl rfl rfl (by decide +kernel) ⟨Nat.le_of_ble_eq_true rfl, Nat.le_of_ble_eq_true rfl⟩) ⟨KW.blind, hP.recv hK rfl (hg_md), fun U9 hU9 hW9 => ⟨rfl, KW.pre hBs hKK hS hP U9 hU9 hW9⟩⟩ rfl rfl hl.1 rfl (lv_room (Nat.le_of_ble_eq_true rfl)) dL_law_254 ⟨(Nat.le_of_ble_eq_true rfl), (Nat.le_of_ble_eq_true rfl)⟩) hS (fun m254 H locs hq9 hP hz9 hS => ?_)
  obtain ⟨fl9, g9, w9, he9, hm9⟩ := hq9
  rw [he9] at hP
  rcases hcase with ⟨hr9, hok⟩ | ⟨hr9, hno⟩
  · rcases hm9 with ⟨hf9, hok2⟩ | ⟨hf9, hno2⟩
    · subst hf9
      obtain rfl : r242 = nI 0 := hr9
      refine lv_aload_n hx hb dL_law_257 rfl (lv_at hl 3 rfl) ?_
      refine kc_i (va_runV (As := []) (rest := []) ⟨hx, hb, hml, hown, hts⟩ (c_X7_thrown l G B (mu (mu (mu m242 md (.inr (7, [.int (nI 0), .ref ab, .ref av, .int (nI 0), .ref c1, .ref c2, .ref c3, .ref c4, .ref c5, .ref c6, .ref c7, .ref c8, .ref c9]))) ab (.inl (G.2 0, 3744, .inr (.inl g9)))) av (.inl (G.2 2, 26, .inl w9))) md ab av c1 c2 c3 c4 c5 c6 c7 c8 c9 0 0 g9 w9 ((mu_n ((mp_ne hg_md hg_av (by simp)))).trans ((mu_n ((mp_ne hg_md hg_ab (by simp)))).trans (mu_s _ _ _))) ((mu_n ((mp_ne hg_ab hg_av (by simp)))).trans (mu_s _ _ _)) (mu_s _ _ _)) (cwV 0 hts gL_law_X7_thrown rfl rfl rfl (by decide +kernel) ⟨Nat.le_of_ble_eq_true rfl, Nat.le_of_ble_eq_true rfl⟩) ⟨KW.blind, hP.recv hK rfl ((mu_n ((mp_ne hg_md hg_av (by simp)))).trans ((mu_n ((mp_ne hg_md hg_ab (by simp)))).trans (mu_s _ _ _))), fun U9 hU9 hW9 => ⟨rfl, KW.pre hBs hKK hS hP U9 hU9 hW9⟩⟩ rfl rfl hl.1 rfl (lv_room (Nat.le_of_ble_eq_true rfl)) dL_law_258 ⟨(Nat.le_of_ble_eq_true rfl), (Nat.le_of_ble_eq_true rfl)⟩) hS (fun r258 m258 H locs hq9 hP hz9 hS => ?_)
      obtain ⟨he8, hr8⟩ := hq9
      rw [he8] at hP
      obtain rfl : r258 = nI 0 := hr8
      refine lv_iload hx hb dL_law_261 (lv_at hl 0 rfl) ?_
      refine nv_icmp_eq (tgt := 268) hx hb (by omega) (by omega) dL_law_263 (by decide) (fun hc263 => ?_) (fun hc263 => ?_)
      · refine lv_goto (tgt := 1218) hx hb dL_law_268 (by decide) ?_
        refine W.widen (k := 138) (n := 15799) (by omega) (by omega) ?_
        exact L1218 (mu (mu (mu m242 md (.inr (7, [.int (nI 0), .ref ab, .ref av, .int (nI 0), .ref c1, .ref c2, .ref c3, .ref c4, .ref c5, .ref c6, .ref c7, .ref c8, .ref c9]))) ab (.inl (G.2 0, 3744, .inr (.inl g9)))) av (.inl (G.2 2, 26, .inl w9)))  _ _ hP hS ls (lv_sub hl [1, 2, 3, 4, 5] rfl)
      · exfalso; omega
    · exact absurd hok hno2
  · rcases hm9 with ⟨hf9, hok2⟩ | ⟨hf9, hno2⟩
    · exact absurd hok2 hno
    · subst hf9
      obtain rfl : r242 = nI 1 := hr9
      refine lv_aload_n hx hb dL_law_257 rfl (lv_at hl 3 rfl) ?_
      refine kc_i (va_runV (As := []) (rest := []) ⟨hx, hb, hml, hown, hts⟩ (c_X7_thrown l G B (mu (mu (mu m242 md (.inr (7, [.int (nI 1), .ref ab, .ref av, .int (nI 0), .ref c1, .ref c2, .ref c3, .ref c4, .ref c5, .ref c6, .ref c7, .ref c8, .ref c9]))) ab (.inl (G.2 0, 3744, .inr (.inl g9)))) av (.inl (G.2 2, 26, .inl w9))) md ab av c1 c2 c3 c4 c5 c6 c7 c8 c9 1 0 g9 w9 ((mu_n ((mp_ne hg_md hg_av (by simp)))).trans ((mu_n ((mp_ne hg_md hg_ab (by simp)))).trans (mu_s _ _ _))) ((mu_n ((mp_ne hg_ab hg_av (by simp)))).trans (mu_s _ _ _)) (mu_s _ _ _)) (cwV 0 hts gL_law_X7_thrown rfl rfl rfl (by decide +kernel) ⟨Nat.le_of_ble_eq_true rfl, Nat.le_of_ble_eq_true rfl⟩) ⟨KW.blind, hP.recv hK rfl ((mu_n ((mp_ne hg_md hg_av (by simp)))).trans ((mu_n ((mp_ne hg_md hg_ab (by simp)))).trans (mu_s _ _ _))), fun U9 hU9 hW9 => ⟨rfl, KW.pre hBs hKK hS hP U9 hU9 hW9⟩⟩ rfl rfl hl.1 rfl (lv_room (Nat.le_of_ble_eq_true rfl)) dL_law_258 ⟨(Nat.le_of_ble_eq_true rfl), (Nat.le_of_ble_eq_true rfl)⟩) hS (fun r258 m258 H locs hq9 hP hz9 hS => ?_)
      obtain ⟨he8, hr8⟩ := hq9
      rw [he8] at hP
      obtain rfl : r258 = nI 1 := hr8
      refine lv_iload hx hb dL_law_261 (lv_at hl 0 rfl) ?_
      refine nv_icmp_eq (tgt := 268) hx hb (by omega) (by omega) dL_law_263 (by decide) (fun hc263 => ?_) (fun hc263 => ?_)
      · refine lv_goto (tgt := 1218) hx hb dL_law_268 (by decide) ?_
        refine W.widen (k := 138) (n := 15799) (by omega) (by omega) ?_
        exact L1218 (mu (mu (mu m242 md (.inr (7, [.int (nI 1), .ref ab, .ref av, .int (nI 0), .ref c1, .ref c2, .ref c3, .ref c4, .ref c5, .ref c6, .ref c7, .ref c8, .ref c9]))) ab (.inl (G.2 0, 3744, .inr (.inl g9)))) av (.inl (G.2 2, 26, .inl w9)))  _ _ hP hS ls (lv_sub hl [1, 2, 3, 4, 5] rfl)
      · exfalso; omega

set_option maxHeartbeats 4000000 in
set_option maxRecDepth 100000 in
theorem lw_k2 (l : Launch) (hlt : l.stackTraces = false) (G : GG) (B : Nat) (sc0 : Nat) (fs : Nat → Int32) {p : Program} {e : Env} {s : State} {m : MethodId} {args : Array Value} {below : List Frame} {meth : Method} {c : Code} {Q : State → Prop} (μ : mp) (d aS aL aR aT aO bn nn s9 lo : Nat) (nf : List Value) (sa la bE : Nat → Nat) (F : Nat → Nat → Int64) (g : Nat → Int64) (w9 : Nat → Int32) (fS fL fR fT : Nat → Option Nat) (sp : Nat → Nat) (fO : Nat → Int64) (ou : Nat) (fo : Nat → Int64) (md ab av c1 c2 c3 c4 c5 c6 c7 c8 c9 : Nat) (f : Nat → Int64) (v : Nat → Int32) (i1 i2 i3 i4 i5 i6 : Nat → Int32) (hx : p.tables.exec = Jvm.exec) (hb : c.code = cL_law) (hml : c.maxLocals = 8) (hown : s.vm.findClass RL = some m.cls) (hts : ∀ w ∈ wsL_law, w.before args s = true) (hBs : B ≤ s.heap.size) (hKK : KK G B s) (hDc : DcI s) (hscB : sc0 < B) (hbl : sc0 < s.heap.size) (hX : va_X sc0 6 fs s s.heap) (L1218 : ∀ (μ9 : mp) (H : Heap) (locs : List Loc), mw G.1 vwCl B μ9 H → va_S (fun q => B ≤ q) s.heap H locs → ∀ ls : Array Slot, lv_has ls 8 [(4, .int (nI 0)), (3, .ref ou), (2, .ref md), (1, .ref d), (0, .ref sc0)] → W p l e room_1 s m args below meth c H locs 138 15799 Q (F0 m 1218 ls [])) (hD : DK G μ d aS aL aR aT aO bn nn s9 lo 0 nf sa la bE F g w9 fS fL fR fT sp fO) (hFS : FS F bE g) (hou : μ ou = some (.inl (G.2 0, 1, .inr (.inl fo)))) (hap : Apt d aO s9 lo sa la sp ou) (hmd : μ md = some (.inr (7, [.int (nI 0), .ref ab, .ref av, .int (nI 0), .ref c1, .ref c2, .ref c3, .ref c4, .ref c5, .ref c6, .ref c7, .ref c8, .ref c9]))) (hab : μ ab = some (.inl (G.2 0, 3744, .inr (.inl f)))) (hav : μ av = some (.inl (G.2 2, 26, .inl v))) (hNM : NM f v) (hc1 : μ c1 = some (.inl (G.2 1, 20, .inl i1))) (hc2 : μ c2 = some (.inl (G.2 1, 20, .inl i2))) (hc3 : μ c3 = some (.inl (G.2 1, 20, .inl i3))) (hc4 : μ c4 = some (.inl (G.2 1, 20, .inl i4))) (hc5 : μ c5 = some (.inl (G.2 1, 20, .inl i5))) (hc6 : μ c6 = some (.inl (G.2 1, 20, .inl i6))) (n12 : c1 ≠ c2) (n13 : c1 ≠ c3) (n14 : c1 ≠ c4) (n15 : c1 ≠ c5) (n16 : c1 ≠ c6) (n23 : c2 ≠ c3) (n24 : c2 ≠ c4) (n25 : c2 ≠ c5) (n26 : c2 ≠ c6) (n34 : c3 ≠ c4) (n35 : c3 ≠ c5) (n36 : c3 ≠ c6) (n45 : c4 ≠ c5) (n46 : c4 ≠ c6) (n56 : c5 ≠ c6) (ap_md : Apt d aO s9 lo sa la sp md) (ap_ab : Apt d aO s9 lo sa la sp ab) (ap_av : Apt d aO s9 lo sa la sp av) (ap_c1 : Apt d aO s9 lo sa la sp c1) (ap_c2 : Apt d aO s9 lo sa la sp c2) (ap_c3 : Apt d aO s9 lo sa la sp c3) (ap_c4 : Apt d aO s9 lo sa la sp c4) (ap_c5 : Apt d aO s9 lo sa la sp c5) (ap_c6 : Apt d aO s9 lo sa la sp c6) (H : Heap) (locs : List Loc) (hP : mw G.1 vwCl B μ H) (hS : va_S (fun q => B ≤ q) s.heap H locs) (ls : Array Slot) (hl : lv_has ls 8 [(4, .int (nI 0)), (3, .ref ou), (2, .ref md), (1, .ref d), (0, .ref sc0)]) : W p l e room_1 s m args below meth c H locs 103 8067 Q (F0 m 271 ls []) := by
  have hK := hKK.k
  refine lv_aload_n hx hb dL_law_271 rfl (lv_at hl 3 rfl) ?_
  refine lv_aload_n hx hb dL_law_272 rfl (lv_at hl 4 rfl) ?_
  refine lv_iload hx hb dL_law_273 (lv_at hl 0 rfl) ?_
  refine lv_iconst (v := nI 1) hx hb dL_law_275 (by decide) ?_
  refine nv_iadd hx hb dL_law_276 ?_
  refine sc_iald (i := 1) hx hb hX hbl hscB hS (by omega) (by omega) dL_law_277 ?_
  refine lv_aload_n hx hb dL_law_278 rfl (lv_at hl 4 rfl) ?_
  refine lv_iload hx hb dL_law_279 (lv_at hl 0 rfl) ?_
  refine lv_iconst (v := nI 2) hx hb dL_law_281 (by decide) ?_
  refine nv_iadd hx hb dL_law_282 ?_
  refine sc_iald (i := 2) hx hb hX hbl hscB hS (by omega) (by omega) dL_law_283 ?_
  refine kx_i (vx_runSX (As := [.ref d, .int (fs 1), .int (fs 2)]) (rest := []) ⟨hx, hb, hml, hown, hts⟩ (c_L_copy l hlt G B (μ) d aS aL aR aT aO bn nn s9 lo nf sa la bE F g w9 fS fL fR fT sp fO (fs 1) (fs 2) hD hFS) (vx_cwSW 3 hts gL_law_L_copy rfl rfl rfl (by decide +kernel) ⟨Nat.le_of_ble_eq_true rfl, Nat.le_of_ble_eq_true rfl⟩) ⟨KX.blind, fun U9 hU9 hW9 => ⟨rfl, KW.pre hBs hKK hS hP U9 hU9 hW9, hDc.at hW9⟩⟩ rfl rfl hl.1 rfl (lv_room (Nat.le_of_ble_eq_true rfl)) dL_law_284 ⟨(Nat.le_of_ble_eq_true rfl), (Nat.le_of_ble_eq_true rfl)⟩) hS (fun E ce q9 H locs hce hP hS h91 h92 h93 => ?_) (fun r284 m284 H locs hq9 hP hz9 hS => ?_)
  · exact False.elim hce
  obtain ⟨hfr, hcase⟩ := hq9
  have hg_md := hfr md _ (hmd) ap_md
  have hg_ab := hfr ab _ (hab) ap_ab
  have hg_av := hfr av _ (hav) ap_av
  have hg_c1 := hfr c1 _ (hc1) ap_c1
  have hg_c2 := hfr c2 _ (hc2) ap_c2
  have hg_c3 := hfr c3 _ (hc3) ap_c3
  have hg_c4 := hfr c4 _ (hc4) ap_c4
  have hg_c5 := hfr c5 _ (hc5) ap_c5
  have hg_c6 := hfr c6 _ (hc6) ap_c6
  have hg_ou := hfr ou _ (hou) hap
  refine lv_istore (lv' := [(5, .int r284), (4, .int (nI 0)), (3, .ref ou), (2, .ref md), (1, .ref d), (0, .ref sc0)]) hx hb dL_law_287 hl (by decide) rfl (fun ls hl => ?_)
  refine lv_aload_n hx hb dL_law_289 rfl (lv_at hl 3 rfl) ?_
  refine lv_aload_n hx hb dL_law_290 rfl (lv_at hl 5 rfl) ?_
  refine lv_iload hx hb dL_law_291 (lv_at hl 1 rfl) ?_
  refine lv_iconst (v := nI 1) hx hb dL_law_293 (by decide) ?_
  refine nv_iadd hx hb dL_law_294 ?_
  refine sc_iald (i := 1) hx hb hX hbl hscB hS (by omega) (by omega) dL_law_295 ?_
  refine lv_aload_n hx hb dL_law_296 rfl (lv_at hl 5 rfl) ?_
  refine lv_iload hx hb dL_law_297 (lv_at hl 1 rfl) ?_
  refine lv_iconst (v := nI 2) hx hb dL_law_299 (by decide) ?_
  refine nv_iadd hx hb dL_law_300 ?_
  refine sc_iald (i := 2) hx hb hX hbl hscB hS (by omega) (by omega) dL_law_301 ?_
  refine kc_v (va_runV (As := [.int (fs 1), .int (fs 2)]) (rest := []) ⟨hx, hb, hml, hown, hts⟩ (c_X7_copy l G B (m284) md ab av c1 c2 c3 c4 c5 c6 c7 c8 c9 0 0 f v (fs 1) (fs 2) (hg_md) (hg_ab) (hg_av) hNM) (cwV 2 hts gL_law_X7_copy rfl rfl rfl (by decide +kernel) ⟨Nat.le_of_ble_eq_true rfl, Nat.le_of_ble_eq_true rfl⟩) ⟨KW.blind, hP.recv hK rfl (hg_md), fun U9 hU9 hW9 => ⟨rfl, KW.pre hBs hKK hS hP U9 hU9 hW9⟩⟩ rfl rfl hl.1 rfl (lv_room (Nat.le_of_ble_eq_true rfl)) dL_law_302 ⟨(Nat.le_of_ble_eq_true rfl), (Nat.le_of_ble_eq_true rfl)⟩) hS (fun m302 H locs hq9 hP hz9 hS => ?_)
  obtain ⟨fl9, g9, w9, he9, hm9⟩ := hq9
  rw [he9] at hP
  rcases hcase with ⟨hr9, hok⟩ | ⟨hr9, hno⟩
  · rcases hm9 with ⟨hf9, hok2⟩ | ⟨hf9, hno2⟩
    · subst hf9
      obtain rfl : r284 = nI 0 := hr9
      refine lv_aload_n hx hb dL_law_305 rfl (lv_at hl 3 rfl) ?_
      refine kc_i (va_runV (As := []) (rest := []) ⟨hx, hb, hml, hown, hts⟩ (c_X7_thrown l G B (mu (mu (mu m284 md (.inr (7, [.int (nI 0), .ref ab, .ref av, .int (nI 0), .ref c1, .ref c2, .ref c3, .ref c4, .ref c5, .ref c6, .ref c7, .ref c8, .ref c9]))) ab (.inl (G.2 0, 3744, .inr (.inl g9)))) av (.inl (G.2 2, 26, .inl w9))) md ab av c1 c2 c3 c4 c5 c6 c7 c8 c9 0 0 g9 w9 ((mu_n ((mp_ne hg_md hg_av (by simp)))).trans ((mu_n ((mp_ne hg_md hg_ab (by simp)))).trans (mu_s _ _ _))) ((mu_n ((mp_ne hg_ab hg_av (by simp)))).trans (mu_s _ _ _)) (mu_s _ _ _)) (cwV 0 hts gL_law_X7_thrown rfl rfl rfl (by decide +kernel) ⟨Nat.le_of_ble_eq_true rfl, Nat.le_of_ble_eq_true rfl⟩) ⟨KW.blind, hP.recv hK rfl ((mu_n ((mp_ne hg_md hg_av (by simp)))).trans ((mu_n ((mp_ne hg_md hg_ab (by simp)))).trans (mu_s _ _ _))), fun U9 hU9 hW9 => ⟨rfl, KW.pre hBs hKK hS hP U9 hU9 hW9⟩⟩ rfl rfl hl.1 rfl (lv_room (Nat.le_of_ble_eq_true rfl)) dL_law_306 ⟨(Nat.le_of_ble_eq_true rfl), (Nat.le_of_ble_eq_true rfl)⟩) hS (fun r306 m306 H locs hq9 hP hz9 hS => ?_)
      obtain ⟨he8, hr8⟩ := hq9
      rw [he8] at hP
      obtain rfl : r306 = nI 0 := hr8
      refine lv_iload hx hb dL_law_309 (lv_at hl 0 rfl) ?_
      refine nv_icmp_eq (tgt := 316) hx hb (by omega) (by omega) dL_law_311 (by decide) (fun hc311 => ?_) (fun hc311 => ?_)
      · refine lv_goto (tgt := 1218) hx hb dL_law_316 (by decide) ?_
        refine W.widen (k := 138) (n := 15799) (by omega) (by omega) ?_
        exact L1218 (mu (mu (mu m284 md (.inr (7, [.int (nI 0), .ref ab, .ref av, .int (nI 0), .ref c1, .ref c2, .ref c3, .ref c4, .ref c5, .ref c6, .ref c7, .ref c8, .ref c9]))) ab (.inl (G.2 0, 3744, .inr (.inl g9)))) av (.inl (G.2 2, 26, .inl w9)))  _ _ hP hS ls (lv_sub hl [1, 2, 3, 4, 5] rfl)
      · exfalso; omega
    · exact absurd hok hno2
  · rcases hm9 with ⟨hf9, hok2⟩ | ⟨hf9, hno2⟩
    · exact absurd hok2 hno
    · subst hf9
      obtain rfl : r284 = nI 1 := hr9
      refine lv_aload_n hx hb dL_law_305 rfl (lv_at hl 3 rfl) ?_
      refine kc_i (va_runV (As := []) (rest := []) ⟨hx, hb, hml, hown, hts⟩ (c_X7_thrown l G B (mu (mu (mu m284 md (.inr (7, [.int (nI 1), .ref ab, .ref av, .int (nI 0), .ref c1, .ref c2, .ref c3, .ref c4, .ref c5, .ref c6, .ref c7, .ref c8, .ref c9]))) ab (.inl (G.2 0, 3744, .inr (.inl g9)))) av (.inl (G.2 2, 26, .inl w9))) md ab av c1 c2 c3 c4 c5 c6 c7 c8 c9 1 0 g9 w9 ((mu_n ((mp_ne hg_md hg_av (by simp)))).trans ((mu_n ((mp_ne hg_md hg_ab (by simp)))).trans (mu_s _ _ _))) ((mu_n ((mp_ne hg_ab hg_av (by simp)))).trans (mu_s _ _ _)) (mu_s _ _ _)) (cwV 0 hts gL_law_X7_thrown rfl rfl rfl (by decide +kernel) ⟨Nat.le_of_ble_eq_true rfl, Nat.le_of_ble_eq_true rfl⟩) ⟨KW.blind, hP.recv hK rfl ((mu_n ((mp_ne hg_md hg_av (by simp)))).trans ((mu_n ((mp_ne hg_md hg_ab (by simp)))).trans (mu_s _ _ _))), fun U9 hU9 hW9 => ⟨rfl, KW.pre hBs hKK hS hP U9 hU9 hW9⟩⟩ rfl rfl hl.1 rfl (lv_room (Nat.le_of_ble_eq_true rfl)) dL_law_306 ⟨(Nat.le_of_ble_eq_true rfl), (Nat.le_of_ble_eq_true rfl)⟩) hS (fun r306 m306 H locs hq9 hP hz9 hS => ?_)
      obtain ⟨he8, hr8⟩ := hq9
      rw [he8] at hP
      obtain rfl : r306 = nI 1 := hr8
      refine lv_iload hx hb dL_law_309 (lv_at hl 0 rfl) ?_
      refine nv_icmp_eq (tgt := 316) hx hb (by omega) (by omega) dL_law_311 (by decide) (fun hc311 => ?_) (fun hc311 => ?_)
      · refine lv_goto (tgt := 1218) hx hb dL_law_316 (by decide) ?_
        refine W.widen (k := 138) (n := 15799) (by omega) (by omega) ?_
        exact L1218 (mu (mu (mu m284 md (.inr (7, [.int (nI 1), .ref ab, .ref av, .int (nI 0), .ref c1, .ref c2, .ref c3, .ref c4, .ref c5, .ref c6, .ref c7, .ref c8, .ref c9]))) ab (.inl (G.2 0, 3744, .inr (.inl g9)))) av (.inl (G.2 2, 26, .inl w9)))  _ _ hP hS ls (lv_sub hl [1, 2, 3, 4, 5] rfl)
      · exfalso; omega

set_option maxHeartbeats 4000000 in
set_option maxRecDepth 100000 in
theorem lw_k3 (l : Launch) (hlt : l.stackTraces = false) (G : GG) (B : Nat) (sc0 : Nat) (fs : Nat → Int32) {p : Program} {e : Env} {s : State} {m : MethodId} {args : Array Value} {below : List Frame} {meth : Method} {c : Code} {Q : State → Prop} (μ : mp) (d aS aL aR aT aO bn nn s9 lo : Nat) (nf : List Value) (sa la bE : Nat → Nat) (F : Nat → Nat → Int64) (g : Nat → Int64) (w9 : Nat → Int32) (fS fL fR fT : Nat → Option Nat) (sp : Nat → Nat) (fO : Nat → Int64) (ou : Nat) (fo : Nat → Int64) (md ab av c1 c2 c3 c4 c5 c6 c7 c8 c9 : Nat) (f : Nat → Int64) (v : Nat → Int32) (i1 i2 i3 i4 i5 i6 : Nat → Int32) (hx : p.tables.exec = Jvm.exec) (hb : c.code = cL_law) (hml : c.maxLocals = 8) (hown : s.vm.findClass RL = some m.cls) (hts : ∀ w ∈ wsL_law, w.before args s = true) (hBs : B ≤ s.heap.size) (hKK : KK G B s) (hDc : DcI s) (hscB : sc0 < B) (hbl : sc0 < s.heap.size) (hX : va_X sc0 6 fs s s.heap) (L1218 : ∀ (μ9 : mp) (H : Heap) (locs : List Loc), mw G.1 vwCl B μ9 H → va_S (fun q => B ≤ q) s.heap H locs → ∀ ls : Array Slot, lv_has ls 8 [(4, .int (nI 0)), (3, .ref ou), (2, .ref md), (1, .ref d), (0, .ref sc0)] → W p l e room_1 s m args below meth c H locs 138 15799 Q (F0 m 1218 ls [])) (hD : DK G μ d aS aL aR aT aO bn nn s9 lo 0 nf sa la bE F g w9 fS fL fR fT sp fO) (hFS : FS F bE g) (hou : μ ou = some (.inl (G.2 0, 1, .inr (.inl fo)))) (hap : Apt d aO s9 lo sa la sp ou) (hmd : μ md = some (.inr (7, [.int (nI 0), .ref ab, .ref av, .int (nI 0), .ref c1, .ref c2, .ref c3, .ref c4, .ref c5, .ref c6, .ref c7, .ref c8, .ref c9]))) (hab : μ ab = some (.inl (G.2 0, 3744, .inr (.inl f)))) (hav : μ av = some (.inl (G.2 2, 26, .inl v))) (hNM : NM f v) (hc1 : μ c1 = some (.inl (G.2 1, 20, .inl i1))) (hc2 : μ c2 = some (.inl (G.2 1, 20, .inl i2))) (hc3 : μ c3 = some (.inl (G.2 1, 20, .inl i3))) (hc4 : μ c4 = some (.inl (G.2 1, 20, .inl i4))) (hc5 : μ c5 = some (.inl (G.2 1, 20, .inl i5))) (hc6 : μ c6 = some (.inl (G.2 1, 20, .inl i6))) (n12 : c1 ≠ c2) (n13 : c1 ≠ c3) (n14 : c1 ≠ c4) (n15 : c1 ≠ c5) (n16 : c1 ≠ c6) (n23 : c2 ≠ c3) (n24 : c2 ≠ c4) (n25 : c2 ≠ c5) (n26 : c2 ≠ c6) (n34 : c3 ≠ c4) (n35 : c3 ≠ c5) (n36 : c3 ≠ c6) (n45 : c4 ≠ c5) (n46 : c4 ≠ c6) (n56 : c5 ≠ c6) (ap_md : Apt d aO s9 lo sa la sp md) (ap_ab : Apt d aO s9 lo sa la sp ab) (ap_av : Apt d aO s9 lo sa la sp av) (ap_c1 : Apt d aO s9 lo sa la sp c1) (ap_c2 : Apt d aO s9 lo sa la sp c2) (ap_c3 : Apt d aO s9 lo sa la sp c3) (ap_c4 : Apt d aO s9 lo sa la sp c4) (ap_c5 : Apt d aO s9 lo sa la sp c5) (ap_c6 : Apt d aO s9 lo sa la sp c6) (H : Heap) (locs : List Loc) (hP : mw G.1 vwCl B μ H) (hS : va_S (fun q => B ≤ q) s.heap H locs) (ls : Array Slot) (hl : lv_has ls 8 [(4, .int (nI 0)), (3, .ref ou), (2, .ref md), (1, .ref d), (0, .ref sc0)]) : W p l e room_1 s m args below meth c H locs 103 8067 Q (F0 m 319 ls []) := by
  have hK := hKK.k
  refine lv_aload_n hx hb dL_law_319 rfl (lv_at hl 3 rfl) ?_
  refine lv_aload_n hx hb dL_law_320 rfl (lv_at hl 4 rfl) ?_
  refine lv_iload hx hb dL_law_321 (lv_at hl 0 rfl) ?_
  refine lv_iconst (v := nI 1) hx hb dL_law_323 (by decide) ?_
  refine nv_iadd hx hb dL_law_324 ?_
  refine sc_iald (i := 1) hx hb hX hbl hscB hS (by omega) (by omega) dL_law_325 ?_
  refine lv_aload_n hx hb dL_law_326 rfl (lv_at hl 4 rfl) ?_
  refine lv_iload hx hb dL_law_327 (lv_at hl 0 rfl) ?_
  refine lv_iconst (v := nI 2) hx hb dL_law_329 (by decide) ?_
  refine nv_iadd hx hb dL_law_330 ?_
  refine sc_iald (i := 2) hx hb hX hbl hscB hS (by omega) (by omega) dL_law_331 ?_
  refine lv_aload_n hx hb dL_law_332 rfl (lv_at hl 4 rfl) ?_
  refine lv_iload hx hb dL_law_333 (lv_at hl 0 rfl) ?_
  refine lv_iconst (v := nI 3) hx hb dL_law_335 (by decide) ?_
  refine nv_iadd hx hb dL_law_336 ?_
  refine sc_iald (i := 3) hx hb hX hbl hscB hS (by omega) (by omega) dL_law_337 ?_
  refine lv_aload_n hx hb dL_law_338 rfl (lv_at hl 1 rfl) ?_
  refine kx_i (vx_runSX (As := [.ref d, .int (fs 1), .int (fs 2), .int (fs 3), .ref ou]) (rest := []) ⟨hx, hb, hml, hown, hts⟩ (c_L_meet l hlt G B (μ) d aS aL aR aT aO bn nn s9 lo nf sa la bE F g w9 fS fL fR fT sp fO (fs 1) (fs 2) (fs 3) ou fo hD hFS hou hap) (vx_cwSW 5 hts gL_law_L_meet rfl rfl rfl (by decide +kernel) ⟨Nat.le_of_ble_eq_true rfl, Nat.le_of_ble_eq_true rfl⟩) ⟨KX.blind, fun U9 hU9 hW9 => ⟨rfl, KW.pre hBs hKK hS hP U9 hU9 hW9, hDc.at hW9⟩⟩ rfl rfl hl.1 rfl (lv_room (Nat.le_of_ble_eq_true rfl)) dL_law_339 ⟨(Nat.le_of_ble_eq_true rfl), (Nat.le_of_ble_eq_true rfl)⟩) hS (fun E ce q9 H locs hce hP hS h91 h92 h93 => ?_) (fun r339 m339 H locs hq9 hP hz9 hS => ?_)
  · exact False.elim hce
  obtain ⟨hfr, fo9, hou9, hcase⟩ := hq9
  have hg_md := hfr md _ (hmd) (mp_ne hmd hou (by simp)) ap_md
  have hg_ab := hfr ab _ (hab) (mp_ne hab hou (by simp)) ap_ab
  have hg_av := hfr av _ (hav) (mp_ne hav hou (by simp)) ap_av
  have hg_c1 := hfr c1 _ (hc1) (mp_ne hc1 hou (by simp)) ap_c1
  have hg_c2 := hfr c2 _ (hc2) (mp_ne hc2 hou (by simp)) ap_c2
  have hg_c3 := hfr c3 _ (hc3) (mp_ne hc3 hou (by simp)) ap_c3
  have hg_c4 := hfr c4 _ (hc4) (mp_ne hc4 hou (by simp)) ap_c4
  have hg_c5 := hfr c5 _ (hc5) (mp_ne hc5 hou (by simp)) ap_c5
  have hg_c6 := hfr c6 _ (hc6) (mp_ne hc6 hou (by simp)) ap_c6
  refine lv_istore (lv' := [(5, .int r339), (4, .int (nI 0)), (3, .ref ou), (2, .ref md), (1, .ref d), (0, .ref sc0)]) hx hb dL_law_342 hl (by decide) rfl (fun ls hl => ?_)
  refine lv_aload_n hx hb dL_law_344 rfl (lv_at hl 3 rfl) ?_
  refine lv_aload_n hx hb dL_law_345 rfl (lv_at hl 5 rfl) ?_
  refine lv_iload hx hb dL_law_346 (lv_at hl 1 rfl) ?_
  refine lv_iconst (v := nI 1) hx hb dL_law_348 (by decide) ?_
  refine nv_iadd hx hb dL_law_349 ?_
  refine sc_iald (i := 1) hx hb hX hbl hscB hS (by omega) (by omega) dL_law_350 ?_
  refine lv_aload_n hx hb dL_law_351 rfl (lv_at hl 5 rfl) ?_
  refine lv_iload hx hb dL_law_352 (lv_at hl 1 rfl) ?_
  refine lv_iconst (v := nI 2) hx hb dL_law_354 (by decide) ?_
  refine nv_iadd hx hb dL_law_355 ?_
  refine sc_iald (i := 2) hx hb hX hbl hscB hS (by omega) (by omega) dL_law_356 ?_
  refine lv_aload_n hx hb dL_law_357 rfl (lv_at hl 5 rfl) ?_
  refine lv_iload hx hb dL_law_358 (lv_at hl 1 rfl) ?_
  refine lv_iconst (v := nI 3) hx hb dL_law_360 (by decide) ?_
  refine nv_iadd hx hb dL_law_361 ?_
  refine sc_iald (i := 3) hx hb hX hbl hscB hS (by omega) (by omega) dL_law_362 ?_
  refine kc_i (va_runV (As := [.int (fs 1), .int (fs 2), .int (fs 3)]) (rest := []) ⟨hx, hb, hml, hown, hts⟩ (c_X7_meet l G B (m339) md ab av c1 c2 c3 c4 c5 c6 c7 c8 c9 0 0 f v (fs 1) (fs 2) (fs 3) (hg_md) (hg_ab) (hg_av) hNM) (cwV 3 hts gL_law_X7_meet rfl rfl rfl (by decide +kernel) ⟨Nat.le_of_ble_eq_true rfl, Nat.le_of_ble_eq_true rfl⟩) ⟨KW.blind, hP.recv hK rfl (hg_md), fun U9 hU9 hW9 => ⟨rfl, KW.pre hBs hKK hS hP U9 hU9 hW9⟩⟩ rfl rfl hl.1 rfl (lv_room (Nat.le_of_ble_eq_true rfl)) dL_law_363 ⟨(Nat.le_of_ble_eq_true rfl), (Nat.le_of_ble_eq_true rfl)⟩) hS (fun r363 m363 H locs hq9 hP hz9 hS => ?_)
  obtain ⟨fl9, g9, w9, he9, hm9⟩ := hq9
  rw [he9] at hP
  rcases hcase with ⟨hr9, hok, hv9⟩ | ⟨hr9, hno⟩
  · rcases hm9 with ⟨hf9, hok2, hb9⟩ | ⟨hf9, hno2⟩
    · subst hf9
      obtain rfl : r339 = nI 0 := hr9
      obtain rfl : r363 = nI 1 := hb9
      refine lv_istore (lv' := [(6, .int (nI 1)), (5, .int (nI 0)), (4, .int (nI 0)), (3, .ref ou), (2, .ref md), (1, .ref d), (0, .ref sc0)]) hx hb dL_law_366 hl (by decide) rfl (fun ls hl => ?_)
      refine lv_aload_n hx hb dL_law_368 rfl (lv_at hl 4 rfl) ?_
      refine kc_i (va_runV (As := []) (rest := []) ⟨hx, hb, hml, hown, hts⟩ (c_X7_thrown l G B (mu (mu (mu m339 md (.inr (7, [.int (nI 0), .ref ab, .ref av, .int (nI 0), .ref c1, .ref c2, .ref c3, .ref c4, .ref c5, .ref c6, .ref c7, .ref c8, .ref c9]))) ab (.inl (G.2 0, 3744, .inr (.inl g9)))) av (.inl (G.2 2, 26, .inl w9))) md ab av c1 c2 c3 c4 c5 c6 c7 c8 c9 0 0 g9 w9 ((mu_n ((mp_ne hg_md hg_av (by simp)))).trans ((mu_n ((mp_ne hg_md hg_ab (by simp)))).trans (mu_s _ _ _))) ((mu_n ((mp_ne hg_ab hg_av (by simp)))).trans (mu_s _ _ _)) (mu_s _ _ _)) (cwV 0 hts gL_law_X7_thrown rfl rfl rfl (by decide +kernel) ⟨Nat.le_of_ble_eq_true rfl, Nat.le_of_ble_eq_true rfl⟩) ⟨KW.blind, hP.recv hK rfl ((mu_n ((mp_ne hg_md hg_av (by simp)))).trans ((mu_n ((mp_ne hg_md hg_ab (by simp)))).trans (mu_s _ _ _))), fun U9 hU9 hW9 => ⟨rfl, KW.pre hBs hKK hS hP U9 hU9 hW9⟩⟩ rfl rfl hl.1 rfl (lv_room (Nat.le_of_ble_eq_true rfl)) dL_law_369 ⟨(Nat.le_of_ble_eq_true rfl), (Nat.le_of_ble_eq_true rfl)⟩) hS (fun r369 m369 H locs hq9 hP hz9 hS => ?_)
      obtain ⟨he8, hr8⟩ := hq9
      rw [he8] at hP
      obtain rfl : r369 = nI 0 := hr8
      refine lv_iload hx hb dL_law_372 (lv_at hl 1 rfl) ?_
      refine nv_icmp_eq (tgt := 379) hx hb (by omega) (by omega) dL_law_374 (by decide) (fun hc374 => ?_) (fun hc374 => ?_)
      · refine lv_iload hx hb dL_law_379 (lv_at hl 1 rfl) ?_
        refine lv_if_ne (tgt := 403) hx hb dL_law_381 (by decide) (fun hc381 => ?_) (fun hc381 => ?_)
        · exact absurd rfl hc381
        · refine lv_aload_n hx hb dL_law_384 rfl (lv_at hl 3 rfl) ?_
          refine lv_iconst (v := nI 0) hx hb dL_law_385 (by decide) ?_
          refine mw_lald hx hb hK hP 0 ((mu_n ((mp_ne hou9 hg_av (by simp)))).trans ((mu_n ((mp_ne hou9 hg_ab (by simp)))).trans ((mu_n ((mp_ne hou9 hg_md (by simp)))).trans (hou9)))) rfl (by omega) (by omega) dL_law_386 ?_
          refine lv_iload hx hb dL_law_387 (lv_at hl 0 rfl) ?_
          refine lv_if_eq (tgt := 396) hx hb dL_law_389 (by decide) (fun hc389 => ?_) (fun hc389 => ?_)
          · exact absurd hc389 (by decide)
          · refine lv_lconst (v := 1) hx hb dL_law_392 (by decide) ?_
            refine lv_goto (tgt := 397) hx hb dL_law_393 (by decide) ?_
            refine nl_if_eq (tgt := 403) hx hb dL_law_397 dL_law_398 (by decide) (fun hc397 => ?_) (fun hc397 => ?_)
            · refine lv_goto (tgt := 1218) hx hb dL_law_403 (by decide) ?_
              refine W.widen (k := 138) (n := 15799) (by omega) (by omega) ?_
              exact L1218 (mu (mu (mu m339 md (.inr (7, [.int (nI 0), .ref ab, .ref av, .int (nI 0), .ref c1, .ref c2, .ref c3, .ref c4, .ref c5, .ref c6, .ref c7, .ref c8, .ref c9]))) ab (.inl (G.2 0, 3744, .inr (.inl g9)))) av (.inl (G.2 2, 26, .inl w9)))  _ _ hP hS ls (lv_sub hl [2, 3, 4, 5, 6] rfl)
            · exact absurd (hv9.trans (by first | rfl | decide | (subst_vars; decide))) hc397
      · exfalso; omega
    · exact absurd hok hno2
  · rcases hm9 with ⟨hf9, hok2, hb9⟩ | ⟨hf9, hno2⟩
    · exact absurd hok2 hno
    · subst hf9
      obtain rfl : r339 = nI 1 := hr9
      refine lv_istore (lv' := [(6, .int r363), (5, .int (nI 1)), (4, .int (nI 0)), (3, .ref ou), (2, .ref md), (1, .ref d), (0, .ref sc0)]) hx hb dL_law_366 hl (by decide) rfl (fun ls hl => ?_)
      refine lv_aload_n hx hb dL_law_368 rfl (lv_at hl 4 rfl) ?_
      refine kc_i (va_runV (As := []) (rest := []) ⟨hx, hb, hml, hown, hts⟩ (c_X7_thrown l G B (mu (mu (mu m339 md (.inr (7, [.int (nI 1), .ref ab, .ref av, .int (nI 0), .ref c1, .ref c2, .ref c3, .ref c4, .ref c5, .ref c6, .ref c7, .ref c8, .ref c9]))) ab (.inl (G.2 0, 3744, .inr (.inl g9)))) av (.inl (G.2 2, 26, .inl w9))) md ab av c1 c2 c3 c4 c5 c6 c7 c8 c9 1 0 g9 w9 ((mu_n ((mp_ne hg_md hg_av (by simp)))).trans ((mu_n ((mp_ne hg_md hg_ab (by simp)))).trans (mu_s _ _ _))) ((mu_n ((mp_ne hg_ab hg_av (by simp)))).trans (mu_s _ _ _)) (mu_s _ _ _)) (cwV 0 hts gL_law_X7_thrown rfl rfl rfl (by decide +kernel) ⟨Nat.le_of_ble_eq_true rfl, Nat.le_of_ble_eq_true rfl⟩) ⟨KW.blind, hP.recv hK rfl ((mu_n ((mp_ne hg_md hg_av (by simp)))).trans ((mu_n ((mp_ne hg_md hg_ab (by simp)))).trans (mu_s _ _ _))), fun U9 hU9 hW9 => ⟨rfl, KW.pre hBs hKK hS hP U9 hU9 hW9⟩⟩ rfl rfl hl.1 rfl (lv_room (Nat.le_of_ble_eq_true rfl)) dL_law_369 ⟨(Nat.le_of_ble_eq_true rfl), (Nat.le_of_ble_eq_true rfl)⟩) hS (fun r369 m369 H locs hq9 hP hz9 hS => ?_)
      obtain ⟨he8, hr8⟩ := hq9
      rw [he8] at hP
      obtain rfl : r369 = nI 1 := hr8
      refine lv_iload hx hb dL_law_372 (lv_at hl 1 rfl) ?_
      refine nv_icmp_eq (tgt := 379) hx hb (by omega) (by omega) dL_law_374 (by decide) (fun hc374 => ?_) (fun hc374 => ?_)
      · refine lv_iload hx hb dL_law_379 (lv_at hl 1 rfl) ?_
        refine lv_if_ne (tgt := 403) hx hb dL_law_381 (by decide) (fun hc381 => ?_) (fun hc381 => ?_)
        · refine lv_goto (tgt := 1218) hx hb dL_law_403 (by decide) ?_
          refine W.widen (k := 138) (n := 15799) (by omega) (by omega) ?_
          exact L1218 (mu (mu (mu m339 md (.inr (7, [.int (nI 1), .ref ab, .ref av, .int (nI 0), .ref c1, .ref c2, .ref c3, .ref c4, .ref c5, .ref c6, .ref c7, .ref c8, .ref c9]))) ab (.inl (G.2 0, 3744, .inr (.inl g9)))) av (.inl (G.2 2, 26, .inl w9)))  _ _ hP hS ls (lv_sub hl [2, 3, 4, 5, 6] rfl)
        · exact absurd hc381 (by decide)
      · exfalso; omega

set_option maxHeartbeats 4000000 in
set_option maxRecDepth 100000 in
theorem lw_k4 (l : Launch) (hlt : l.stackTraces = false) (G : GG) (B : Nat) (sc0 : Nat) (fs : Nat → Int32) {p : Program} {e : Env} {s : State} {m : MethodId} {args : Array Value} {below : List Frame} {meth : Method} {c : Code} {Q : State → Prop} (μ : mp) (d aS aL aR aT aO bn nn s9 lo : Nat) (nf : List Value) (sa la bE : Nat → Nat) (F : Nat → Nat → Int64) (g : Nat → Int64) (w9 : Nat → Int32) (fS fL fR fT : Nat → Option Nat) (sp : Nat → Nat) (fO : Nat → Int64) (ou : Nat) (fo : Nat → Int64) (md ab av c1 c2 c3 c4 c5 c6 c7 c8 c9 : Nat) (f : Nat → Int64) (v : Nat → Int32) (i1 i2 i3 i4 i5 i6 : Nat → Int32) (hx : p.tables.exec = Jvm.exec) (hb : c.code = cL_law) (hml : c.maxLocals = 8) (hown : s.vm.findClass RL = some m.cls) (hts : ∀ w ∈ wsL_law, w.before args s = true) (hBs : B ≤ s.heap.size) (hKK : KK G B s) (hDc : DcI s) (hscB : sc0 < B) (hbl : sc0 < s.heap.size) (hX : va_X sc0 6 fs s s.heap) (L1218 : ∀ (μ9 : mp) (H : Heap) (locs : List Loc), mw G.1 vwCl B μ9 H → va_S (fun q => B ≤ q) s.heap H locs → ∀ ls : Array Slot, lv_has ls 8 [(4, .int (nI 0)), (3, .ref ou), (2, .ref md), (1, .ref d), (0, .ref sc0)] → W p l e room_1 s m args below meth c H locs 138 15799 Q (F0 m 1218 ls [])) (hD : DK G μ d aS aL aR aT aO bn nn s9 lo 0 nf sa la bE F g w9 fS fL fR fT sp fO) (hFS : FS F bE g) (hou : μ ou = some (.inl (G.2 0, 1, .inr (.inl fo)))) (hap : Apt d aO s9 lo sa la sp ou) (hmd : μ md = some (.inr (7, [.int (nI 0), .ref ab, .ref av, .int (nI 0), .ref c1, .ref c2, .ref c3, .ref c4, .ref c5, .ref c6, .ref c7, .ref c8, .ref c9]))) (hab : μ ab = some (.inl (G.2 0, 3744, .inr (.inl f)))) (hav : μ av = some (.inl (G.2 2, 26, .inl v))) (hNM : NM f v) (hc1 : μ c1 = some (.inl (G.2 1, 20, .inl i1))) (hc2 : μ c2 = some (.inl (G.2 1, 20, .inl i2))) (hc3 : μ c3 = some (.inl (G.2 1, 20, .inl i3))) (hc4 : μ c4 = some (.inl (G.2 1, 20, .inl i4))) (hc5 : μ c5 = some (.inl (G.2 1, 20, .inl i5))) (hc6 : μ c6 = some (.inl (G.2 1, 20, .inl i6))) (n12 : c1 ≠ c2) (n13 : c1 ≠ c3) (n14 : c1 ≠ c4) (n15 : c1 ≠ c5) (n16 : c1 ≠ c6) (n23 : c2 ≠ c3) (n24 : c2 ≠ c4) (n25 : c2 ≠ c5) (n26 : c2 ≠ c6) (n34 : c3 ≠ c4) (n35 : c3 ≠ c5) (n36 : c3 ≠ c6) (n45 : c4 ≠ c5) (n46 : c4 ≠ c6) (n56 : c5 ≠ c6) (ap_md : Apt d aO s9 lo sa la sp md) (ap_ab : Apt d aO s9 lo sa la sp ab) (ap_av : Apt d aO s9 lo sa la sp av) (ap_c1 : Apt d aO s9 lo sa la sp c1) (ap_c2 : Apt d aO s9 lo sa la sp c2) (ap_c3 : Apt d aO s9 lo sa la sp c3) (ap_c4 : Apt d aO s9 lo sa la sp c4) (ap_c5 : Apt d aO s9 lo sa la sp c5) (ap_c6 : Apt d aO s9 lo sa la sp c6) (H : Heap) (locs : List Loc) (hP : mw G.1 vwCl B μ H) (hS : va_S (fun q => B ≤ q) s.heap H locs) (ls : Array Slot) (hl : lv_has ls 8 [(4, .int (nI 0)), (3, .ref ou), (2, .ref md), (1, .ref d), (0, .ref sc0)]) : W p l e room_1 s m args below meth c H locs 103 8067 Q (F0 m 406 ls []) := by
  have hK := hKK.k
  refine lv_aload_n hx hb dL_law_406 rfl (lv_at hl 3 rfl) ?_
  refine lv_aload_n hx hb dL_law_407 rfl (lv_at hl 4 rfl) ?_
  refine lv_iload hx hb dL_law_408 (lv_at hl 0 rfl) ?_
  refine lv_iconst (v := nI 1) hx hb dL_law_410 (by decide) ?_
  refine nv_iadd hx hb dL_law_411 ?_
  refine sc_iald (i := 1) hx hb hX hbl hscB hS (by omega) (by omega) dL_law_412 ?_
  refine lv_aload_n hx hb dL_law_413 rfl (lv_at hl 4 rfl) ?_
  refine lv_iload hx hb dL_law_414 (lv_at hl 0 rfl) ?_
  refine lv_iconst (v := nI 2) hx hb dL_law_416 (by decide) ?_
  refine nv_iadd hx hb dL_law_417 ?_
  refine sc_iald (i := 2) hx hb hX hbl hscB hS (by omega) (by omega) dL_law_418 ?_
  refine lv_aload_n hx hb dL_law_419 rfl (lv_at hl 4 rfl) ?_
  refine lv_iload hx hb dL_law_420 (lv_at hl 0 rfl) ?_
  refine lv_iconst (v := nI 3) hx hb dL_law_422 (by decide) ?_
  refine nv_iadd hx hb dL_law_423 ?_
  refine sc_iald (i := 3) hx hb hX hbl hscB hS (by omega) (by omega) dL_law_424 ?_
  refine kx_i (vx_runSX (As := [.ref d, .int (fs 1), .int (fs 2), .int (fs 3)]) (rest := []) ⟨hx, hb, hml, hown, hts⟩ (c_L_join l hlt G B (μ) d aS aL aR aT aO bn nn s9 lo nf sa la bE F g w9 fS fL fR fT sp fO (fs 1) (fs 2) (fs 3) hD hFS) (vx_cwSW 4 hts gL_law_L_join rfl rfl rfl (by decide +kernel) ⟨Nat.le_of_ble_eq_true rfl, Nat.le_of_ble_eq_true rfl⟩) ⟨KX.blind, fun U9 hU9 hW9 => ⟨rfl, KW.pre hBs hKK hS hP U9 hU9 hW9, hDc.at hW9⟩⟩ rfl rfl hl.1 rfl (lv_room (Nat.le_of_ble_eq_true rfl)) dL_law_425 ⟨(Nat.le_of_ble_eq_true rfl), (Nat.le_of_ble_eq_true rfl)⟩) hS (fun E ce q9 H locs hce hP hS h91 h92 h93 => ?_) (fun r425 m425 H locs hq9 hP hz9 hS => ?_)
  · exact False.elim hce
  obtain ⟨hfr, hcase⟩ := hq9
  have hg_md := hfr md _ (hmd) ap_md
  have hg_ab := hfr ab _ (hab) ap_ab
  have hg_av := hfr av _ (hav) ap_av
  have hg_c1 := hfr c1 _ (hc1) ap_c1
  have hg_c2 := hfr c2 _ (hc2) ap_c2
  have hg_c3 := hfr c3 _ (hc3) ap_c3
  have hg_c4 := hfr c4 _ (hc4) ap_c4
  have hg_c5 := hfr c5 _ (hc5) ap_c5
  have hg_c6 := hfr c6 _ (hc6) ap_c6
  have hg_ou := hfr ou _ (hou) hap
  refine lv_istore (lv' := [(5, .int r425), (4, .int (nI 0)), (3, .ref ou), (2, .ref md), (1, .ref d), (0, .ref sc0)]) hx hb dL_law_428 hl (by decide) rfl (fun ls hl => ?_)
  refine lv_aload_n hx hb dL_law_430 rfl (lv_at hl 3 rfl) ?_
  refine lv_aload_n hx hb dL_law_431 rfl (lv_at hl 5 rfl) ?_
  refine lv_iload hx hb dL_law_432 (lv_at hl 1 rfl) ?_
  refine lv_iconst (v := nI 1) hx hb dL_law_434 (by decide) ?_
  refine nv_iadd hx hb dL_law_435 ?_
  refine sc_iald (i := 1) hx hb hX hbl hscB hS (by omega) (by omega) dL_law_436 ?_
  refine lv_aload_n hx hb dL_law_437 rfl (lv_at hl 5 rfl) ?_
  refine lv_iload hx hb dL_law_438 (lv_at hl 1 rfl) ?_
  refine lv_iconst (v := nI 2) hx hb dL_law_440 (by decide) ?_
  refine nv_iadd hx hb dL_law_441 ?_
  refine sc_iald (i := 2) hx hb hX hbl hscB hS (by omega) (by omega) dL_law_442 ?_
  refine lv_aload_n hx hb dL_law_443 rfl (lv_at hl 5 rfl) ?_
  refine lv_iload hx hb dL_law_444 (lv_at hl 1 rfl) ?_
  refine lv_iconst (v := nI 3) hx hb dL_law_446 (by decide) ?_
  refine nv_iadd hx hb dL_law_447 ?_
  refine sc_iald (i := 3) hx hb hX hbl hscB hS (by omega) (by omega) dL_law_448 ?_
  refine kc_v (va_runV (As := [.int (fs 1), .int (fs 2), .int (fs 3)]) (rest := []) ⟨hx, hb, hml, hown, hts⟩ (c_X7_join l G B (m425) md ab av c1 c2 c3 c4 c5 c6 c7 c8 c9 0 0 f v (fs 1) (fs 2) (fs 3) (hg_md) (hg_ab) (hg_av) hNM) (cwV 3 hts gL_law_X7_join rfl rfl rfl (by decide +kernel) ⟨Nat.le_of_ble_eq_true rfl, Nat.le_of_ble_eq_true rfl⟩) ⟨KW.blind, hP.recv hK rfl (hg_md), fun U9 hU9 hW9 => ⟨rfl, KW.pre hBs hKK hS hP U9 hU9 hW9⟩⟩ rfl rfl hl.1 rfl (lv_room (Nat.le_of_ble_eq_true rfl)) dL_law_449 ⟨(Nat.le_of_ble_eq_true rfl), (Nat.le_of_ble_eq_true rfl)⟩) hS (fun m449 H locs hq9 hP hz9 hS => ?_)
  obtain ⟨fl9, g9, w9, he9, hm9⟩ := hq9
  rw [he9] at hP
  rcases hcase with ⟨hr9, hok⟩ | ⟨hr9, hno⟩
  · rcases hm9 with ⟨hf9, hok2⟩ | ⟨hf9, hno2⟩
    · subst hf9
      obtain rfl : r425 = nI 0 := hr9
      refine lv_aload_n hx hb dL_law_452 rfl (lv_at hl 3 rfl) ?_
      refine kc_i (va_runV (As := []) (rest := []) ⟨hx, hb, hml, hown, hts⟩ (c_X7_thrown l G B (mu (mu (mu m425 md (.inr (7, [.int (nI 0), .ref ab, .ref av, .int (nI 0), .ref c1, .ref c2, .ref c3, .ref c4, .ref c5, .ref c6, .ref c7, .ref c8, .ref c9]))) ab (.inl (G.2 0, 3744, .inr (.inl g9)))) av (.inl (G.2 2, 26, .inl w9))) md ab av c1 c2 c3 c4 c5 c6 c7 c8 c9 0 0 g9 w9 ((mu_n ((mp_ne hg_md hg_av (by simp)))).trans ((mu_n ((mp_ne hg_md hg_ab (by simp)))).trans (mu_s _ _ _))) ((mu_n ((mp_ne hg_ab hg_av (by simp)))).trans (mu_s _ _ _)) (mu_s _ _ _)) (cwV 0 hts gL_law_X7_thrown rfl rfl rfl (by decide +kernel) ⟨Nat.le_of_ble_eq_true rfl, Nat.le_of_ble_eq_true rfl⟩) ⟨KW.blind, hP.recv hK rfl ((mu_n ((mp_ne hg_md hg_av (by simp)))).trans ((mu_n ((mp_ne hg_md hg_ab (by simp)))).trans (mu_s _ _ _))), fun U9 hU9 hW9 => ⟨rfl, KW.pre hBs hKK hS hP U9 hU9 hW9⟩⟩ rfl rfl hl.1 rfl (lv_room (Nat.le_of_ble_eq_true rfl)) dL_law_453 ⟨(Nat.le_of_ble_eq_true rfl), (Nat.le_of_ble_eq_true rfl)⟩) hS (fun r453 m453 H locs hq9 hP hz9 hS => ?_)
      obtain ⟨he8, hr8⟩ := hq9
      rw [he8] at hP
      obtain rfl : r453 = nI 0 := hr8
      refine lv_iload hx hb dL_law_456 (lv_at hl 0 rfl) ?_
      refine nv_icmp_eq (tgt := 463) hx hb (by omega) (by omega) dL_law_458 (by decide) (fun hc458 => ?_) (fun hc458 => ?_)
      · refine lv_goto (tgt := 1218) hx hb dL_law_463 (by decide) ?_
        refine W.widen (k := 138) (n := 15799) (by omega) (by omega) ?_
        exact L1218 (mu (mu (mu m425 md (.inr (7, [.int (nI 0), .ref ab, .ref av, .int (nI 0), .ref c1, .ref c2, .ref c3, .ref c4, .ref c5, .ref c6, .ref c7, .ref c8, .ref c9]))) ab (.inl (G.2 0, 3744, .inr (.inl g9)))) av (.inl (G.2 2, 26, .inl w9)))  _ _ hP hS ls (lv_sub hl [1, 2, 3, 4, 5] rfl)
      · exfalso; omega
    · exact absurd hok hno2
  · rcases hm9 with ⟨hf9, hok2⟩ | ⟨hf9, hno2⟩
    · exact absurd hok2 hno
    · subst hf9
      obtain rfl : r425 = nI 1 := hr9
      refine lv_aload_n hx hb dL_law_452 rfl (lv_at hl 3 rfl) ?_
      refine kc_i (va_runV (As := []) (rest := []) ⟨hx, hb, hml, hown, hts⟩ (c_X7_thrown l G B (mu (mu (mu m425 md (.inr (7, [.int (nI 1), .ref ab, .ref av, .int (nI 0), .ref c1, .ref c2, .ref c3, .ref c4, .ref c5, .ref c6, .ref c7, .ref c8, .ref c9]))) ab (.inl (G.2 0, 3744, .inr (.inl g9)))) av (.inl (G.2 2, 26, .inl w9))) md ab av c1 c2 c3 c4 c5 c6 c7 c8 c9 1 0 g9 w9 ((mu_n ((mp_ne hg_md hg_av (by simp)))).trans ((mu_n ((mp_ne hg_md hg_ab (by simp)))).trans (mu_s _ _ _))) ((mu_n ((mp_ne hg_ab hg_av (by simp)))).trans (mu_s _ _ _)) (mu_s _ _ _)) (cwV 0 hts gL_law_X7_thrown rfl rfl rfl (by decide +kernel) ⟨Nat.le_of_ble_eq_true rfl, Nat.le_of_ble_eq_true rfl⟩) ⟨KW.blind, hP.recv hK rfl ((mu_n ((mp_ne hg_md hg_av (by simp)))).trans ((mu_n ((mp_ne hg_md hg_ab (by simp)))).trans (mu_s _ _ _))), fun U9 hU9 hW9 => ⟨rfl, KW.pre hBs hKK hS hP U9 hU9 hW9⟩⟩ rfl rfl hl.1 rfl (lv_room (Nat.le_of_ble_eq_true rfl)) dL_law_453 ⟨(Nat.le_of_ble_eq_true rfl), (Nat.le_of_ble_eq_true rfl)⟩) hS (fun r453 m453 H locs hq9 hP hz9 hS => ?_)
      obtain ⟨he8, hr8⟩ := hq9
      rw [he8] at hP
      obtain rfl : r453 = nI 1 := hr8
      refine lv_iload hx hb dL_law_456 (lv_at hl 0 rfl) ?_
      refine nv_icmp_eq (tgt := 463) hx hb (by omega) (by omega) dL_law_458 (by decide) (fun hc458 => ?_) (fun hc458 => ?_)
      · refine lv_goto (tgt := 1218) hx hb dL_law_463 (by decide) ?_
        refine W.widen (k := 138) (n := 15799) (by omega) (by omega) ?_
        exact L1218 (mu (mu (mu m425 md (.inr (7, [.int (nI 1), .ref ab, .ref av, .int (nI 0), .ref c1, .ref c2, .ref c3, .ref c4, .ref c5, .ref c6, .ref c7, .ref c8, .ref c9]))) ab (.inl (G.2 0, 3744, .inr (.inl g9)))) av (.inl (G.2 2, 26, .inl w9)))  _ _ hP hS ls (lv_sub hl [1, 2, 3, 4, 5] rfl)
      · exfalso; omega

set_option maxHeartbeats 4000000 in
set_option maxRecDepth 100000 in
theorem lw_k5 (l : Launch) (hlt : l.stackTraces = false) (G : GG) (B : Nat) (sc0 : Nat) (fs : Nat → Int32) {p : Program} {e : Env} {s : State} {m : MethodId} {args : Array Value} {below : List Frame} {meth : Method} {c : Code} {Q : State → Prop} (μ : mp) (d aS aL aR aT aO bn nn s9 lo : Nat) (nf : List Value) (sa la bE : Nat → Nat) (F : Nat → Nat → Int64) (g : Nat → Int64) (w9 : Nat → Int32) (fS fL fR fT : Nat → Option Nat) (sp : Nat → Nat) (fO : Nat → Int64) (ou : Nat) (fo : Nat → Int64) (md ab av c1 c2 c3 c4 c5 c6 c7 c8 c9 : Nat) (f : Nat → Int64) (v : Nat → Int32) (i1 i2 i3 i4 i5 i6 : Nat → Int32) (hx : p.tables.exec = Jvm.exec) (hb : c.code = cL_law) (hml : c.maxLocals = 8) (hown : s.vm.findClass RL = some m.cls) (hts : ∀ w ∈ wsL_law, w.before args s = true) (hBs : B ≤ s.heap.size) (hKK : KK G B s) (hDc : DcI s) (hscB : sc0 < B) (hbl : sc0 < s.heap.size) (hX : va_X sc0 6 fs s s.heap) (L1218 : ∀ (μ9 : mp) (H : Heap) (locs : List Loc), mw G.1 vwCl B μ9 H → va_S (fun q => B ≤ q) s.heap H locs → ∀ ls : Array Slot, lv_has ls 8 [(4, .int (nI 0)), (3, .ref ou), (2, .ref md), (1, .ref d), (0, .ref sc0)] → W p l e room_1 s m args below meth c H locs 138 15799 Q (F0 m 1218 ls [])) (hD : DK G μ d aS aL aR aT aO bn nn s9 lo 0 nf sa la bE F g w9 fS fL fR fT sp fO) (hFS : FS F bE g) (hou : μ ou = some (.inl (G.2 0, 1, .inr (.inl fo)))) (hap : Apt d aO s9 lo sa la sp ou) (hmd : μ md = some (.inr (7, [.int (nI 0), .ref ab, .ref av, .int (nI 0), .ref c1, .ref c2, .ref c3, .ref c4, .ref c5, .ref c6, .ref c7, .ref c8, .ref c9]))) (hab : μ ab = some (.inl (G.2 0, 3744, .inr (.inl f)))) (hav : μ av = some (.inl (G.2 2, 26, .inl v))) (hNM : NM f v) (hc1 : μ c1 = some (.inl (G.2 1, 20, .inl i1))) (hc2 : μ c2 = some (.inl (G.2 1, 20, .inl i2))) (hc3 : μ c3 = some (.inl (G.2 1, 20, .inl i3))) (hc4 : μ c4 = some (.inl (G.2 1, 20, .inl i4))) (hc5 : μ c5 = some (.inl (G.2 1, 20, .inl i5))) (hc6 : μ c6 = some (.inl (G.2 1, 20, .inl i6))) (n12 : c1 ≠ c2) (n13 : c1 ≠ c3) (n14 : c1 ≠ c4) (n15 : c1 ≠ c5) (n16 : c1 ≠ c6) (n23 : c2 ≠ c3) (n24 : c2 ≠ c4) (n25 : c2 ≠ c5) (n26 : c2 ≠ c6) (n34 : c3 ≠ c4) (n35 : c3 ≠ c5) (n36 : c3 ≠ c6) (n45 : c4 ≠ c5) (n46 : c4 ≠ c6) (n56 : c5 ≠ c6) (ap_md : Apt d aO s9 lo sa la sp md) (ap_ab : Apt d aO s9 lo sa la sp ab) (ap_av : Apt d aO s9 lo sa la sp av) (ap_c1 : Apt d aO s9 lo sa la sp c1) (ap_c2 : Apt d aO s9 lo sa la sp c2) (ap_c3 : Apt d aO s9 lo sa la sp c3) (ap_c4 : Apt d aO s9 lo sa la sp c4) (ap_c5 : Apt d aO s9 lo sa la sp c5) (ap_c6 : Apt d aO s9 lo sa la sp c6) (H : Heap) (locs : List Loc) (hP : mw G.1 vwCl B μ H) (hS : va_S (fun q => B ≤ q) s.heap H locs) (ls : Array Slot) (hl : lv_has ls 8 [(4, .int (nI 0)), (3, .ref ou), (2, .ref md), (1, .ref d), (0, .ref sc0)]) : W p l e room_1 s m args below meth c H locs 103 8067 Q (F0 m 466 ls []) := by
  have hK := hKK.k
  refine lv_aload_n hx hb dL_law_466 rfl (lv_at hl 3 rfl) ?_
  refine lv_aload_n hx hb dL_law_467 rfl (lv_at hl 4 rfl) ?_
  refine lv_iload hx hb dL_law_468 (lv_at hl 0 rfl) ?_
  refine lv_iconst (v := nI 1) hx hb dL_law_470 (by decide) ?_
  refine nv_iadd hx hb dL_law_471 ?_
  refine sc_iald (i := 1) hx hb hX hbl hscB hS (by omega) (by omega) dL_law_472 ?_
  refine lv_aload_n hx hb dL_law_473 rfl (lv_at hl 4 rfl) ?_
  refine lv_iload hx hb dL_law_474 (lv_at hl 0 rfl) ?_
  refine lv_iconst (v := nI 2) hx hb dL_law_476 (by decide) ?_
  refine nv_iadd hx hb dL_law_477 ?_
  refine sc_iald (i := 2) hx hb hX hbl hscB hS (by omega) (by omega) dL_law_478 ?_
  refine lv_aload_n hx hb dL_law_479 rfl (lv_at hl 4 rfl) ?_
  refine lv_iload hx hb dL_law_480 (lv_at hl 0 rfl) ?_
  refine lv_iconst (v := nI 3) hx hb dL_law_482 (by decide) ?_
  refine nv_iadd hx hb dL_law_483 ?_
  refine sc_iald (i := 3) hx hb hX hbl hscB hS (by omega) (by omega) dL_law_484 ?_
  refine kx_i (vx_runSX (As := [.ref d, .int (fs 1), .int (fs 2), .int (fs 3)]) (rest := []) ⟨hx, hb, hml, hown, hts⟩ (c_L_widen l hlt G B (μ) d aS aL aR aT aO bn nn s9 lo nf sa la bE F g w9 fS fL fR fT sp fO (fs 1) (fs 2) (fs 3) hD hFS) (vx_cwSW 4 hts gL_law_L_widen rfl rfl rfl (by decide +kernel) ⟨Nat.le_of_ble_eq_true rfl, Nat.le_of_ble_eq_true rfl⟩) ⟨KX.blind, fun U9 hU9 hW9 => ⟨rfl, KW.pre hBs hKK hS hP U9 hU9 hW9, hDc.at hW9⟩⟩ rfl rfl hl.1 rfl (lv_room (Nat.le_of_ble_eq_true rfl)) dL_law_485 ⟨(Nat.le_of_ble_eq_true rfl), (Nat.le_of_ble_eq_true rfl)⟩) hS (fun E ce q9 H locs hce hP hS h91 h92 h93 => ?_) (fun r485 m485 H locs hq9 hP hz9 hS => ?_)
  · exact False.elim hce
  obtain ⟨hfr, hcase⟩ := hq9
  have hg_md := hfr md _ (hmd) ap_md
  have hg_ab := hfr ab _ (hab) ap_ab
  have hg_av := hfr av _ (hav) ap_av
  have hg_c1 := hfr c1 _ (hc1) ap_c1
  have hg_c2 := hfr c2 _ (hc2) ap_c2
  have hg_c3 := hfr c3 _ (hc3) ap_c3
  have hg_c4 := hfr c4 _ (hc4) ap_c4
  have hg_c5 := hfr c5 _ (hc5) ap_c5
  have hg_c6 := hfr c6 _ (hc6) ap_c6
  have hg_ou := hfr ou _ (hou) hap
  refine lv_istore (lv' := [(5, .int r485), (4, .int (nI 0)), (3, .ref ou), (2, .ref md), (1, .ref d), (0, .ref sc0)]) hx hb dL_law_488 hl (by decide) rfl (fun ls hl => ?_)
  refine lv_aload_n hx hb dL_law_490 rfl (lv_at hl 3 rfl) ?_
  refine lv_aload_n hx hb dL_law_491 rfl (lv_at hl 5 rfl) ?_
  refine lv_iload hx hb dL_law_492 (lv_at hl 1 rfl) ?_
  refine lv_iconst (v := nI 1) hx hb dL_law_494 (by decide) ?_
  refine nv_iadd hx hb dL_law_495 ?_
  refine sc_iald (i := 1) hx hb hX hbl hscB hS (by omega) (by omega) dL_law_496 ?_
  refine lv_aload_n hx hb dL_law_497 rfl (lv_at hl 5 rfl) ?_
  refine lv_iload hx hb dL_law_498 (lv_at hl 1 rfl) ?_
  refine lv_iconst (v := nI 2) hx hb dL_law_500 (by decide) ?_
  refine nv_iadd hx hb dL_law_501 ?_
  refine sc_iald (i := 2) hx hb hX hbl hscB hS (by omega) (by omega) dL_law_502 ?_
  refine lv_aload_n hx hb dL_law_503 rfl (lv_at hl 5 rfl) ?_
  refine lv_iload hx hb dL_law_504 (lv_at hl 1 rfl) ?_
  refine lv_iconst (v := nI 3) hx hb dL_law_506 (by decide) ?_
  refine nv_iadd hx hb dL_law_507 ?_
  refine sc_iald (i := 3) hx hb hX hbl hscB hS (by omega) (by omega) dL_law_508 ?_
  refine kc_v (va_runV (As := [.int (fs 1), .int (fs 2), .int (fs 3)]) (rest := []) ⟨hx, hb, hml, hown, hts⟩ (c_X7_widen l G B (m485) md ab av c1 c2 c3 c4 c5 c6 c7 c8 c9 0 0 f v (fs 1) (fs 2) (fs 3) (hg_md) (hg_ab) (hg_av) hNM) (cwV 3 hts gL_law_X7_widen rfl rfl rfl (by decide +kernel) ⟨Nat.le_of_ble_eq_true rfl, Nat.le_of_ble_eq_true rfl⟩) ⟨KW.blind, hP.recv hK rfl (hg_md), fun U9 hU9 hW9 => ⟨rfl, KW.pre hBs hKK hS hP U9 hU9 hW9⟩⟩ rfl rfl hl.1 rfl (lv_room (Nat.le_of_ble_eq_true rfl)) dL_law_509 ⟨(Nat.le_of_ble_eq_true rfl), (Nat.le_of_ble_eq_true rfl)⟩) hS (fun m509 H locs hq9 hP hz9 hS => ?_)
  obtain ⟨fl9, g9, w9, he9, hm9⟩ := hq9
  rw [he9] at hP
  rcases hcase with ⟨hr9, hok⟩ | ⟨hr9, hno⟩
  · rcases hm9 with ⟨hf9, hok2⟩ | ⟨hf9, hno2⟩
    · subst hf9
      obtain rfl : r485 = nI 0 := hr9
      refine lv_aload_n hx hb dL_law_512 rfl (lv_at hl 3 rfl) ?_
      refine kc_i (va_runV (As := []) (rest := []) ⟨hx, hb, hml, hown, hts⟩ (c_X7_thrown l G B (mu (mu (mu m485 md (.inr (7, [.int (nI 0), .ref ab, .ref av, .int (nI 0), .ref c1, .ref c2, .ref c3, .ref c4, .ref c5, .ref c6, .ref c7, .ref c8, .ref c9]))) ab (.inl (G.2 0, 3744, .inr (.inl g9)))) av (.inl (G.2 2, 26, .inl w9))) md ab av c1 c2 c3 c4 c5 c6 c7 c8 c9 0 0 g9 w9 ((mu_n ((mp_ne hg_md hg_av (by simp)))).trans ((mu_n ((mp_ne hg_md hg_ab (by simp)))).trans (mu_s _ _ _))) ((mu_n ((mp_ne hg_ab hg_av (by simp)))).trans (mu_s _ _ _)) (mu_s _ _ _)) (cwV 0 hts gL_law_X7_thrown rfl rfl rfl (by decide +kernel) ⟨Nat.le_of_ble_eq_true rfl, Nat.le_of_ble_eq_true rfl⟩) ⟨KW.blind, hP.recv hK rfl ((mu_n ((mp_ne hg_md hg_av (by simp)))).trans ((mu_n ((mp_ne hg_md hg_ab (by simp)))).trans (mu_s _ _ _))), fun U9 hU9 hW9 => ⟨rfl, KW.pre hBs hKK hS hP U9 hU9 hW9⟩⟩ rfl rfl hl.1 rfl (lv_room (Nat.le_of_ble_eq_true rfl)) dL_law_513 ⟨(Nat.le_of_ble_eq_true rfl), (Nat.le_of_ble_eq_true rfl)⟩) hS (fun r513 m513 H locs hq9 hP hz9 hS => ?_)
      obtain ⟨he8, hr8⟩ := hq9
      rw [he8] at hP
      obtain rfl : r513 = nI 0 := hr8
      refine lv_iload hx hb dL_law_516 (lv_at hl 0 rfl) ?_
      refine nv_icmp_eq (tgt := 523) hx hb (by omega) (by omega) dL_law_518 (by decide) (fun hc518 => ?_) (fun hc518 => ?_)
      · refine lv_goto (tgt := 1218) hx hb dL_law_523 (by decide) ?_
        refine W.widen (k := 138) (n := 15799) (by omega) (by omega) ?_
        exact L1218 (mu (mu (mu m485 md (.inr (7, [.int (nI 0), .ref ab, .ref av, .int (nI 0), .ref c1, .ref c2, .ref c3, .ref c4, .ref c5, .ref c6, .ref c7, .ref c8, .ref c9]))) ab (.inl (G.2 0, 3744, .inr (.inl g9)))) av (.inl (G.2 2, 26, .inl w9)))  _ _ hP hS ls (lv_sub hl [1, 2, 3, 4, 5] rfl)
      · exfalso; omega
    · exact absurd hok hno2
  · rcases hm9 with ⟨hf9, hok2⟩ | ⟨hf9, hno2⟩
    · exact absurd hok2 hno
    · subst hf9
      obtain rfl : r485 = nI 1 := hr9
      refine lv_aload_n hx hb dL_law_512 rfl (lv_at hl 3 rfl) ?_
      refine kc_i (va_runV (As := []) (rest := []) ⟨hx, hb, hml, hown, hts⟩ (c_X7_thrown l G B (mu (mu (mu m485 md (.inr (7, [.int (nI 1), .ref ab, .ref av, .int (nI 0), .ref c1, .ref c2, .ref c3, .ref c4, .ref c5, .ref c6, .ref c7, .ref c8, .ref c9]))) ab (.inl (G.2 0, 3744, .inr (.inl g9)))) av (.inl (G.2 2, 26, .inl w9))) md ab av c1 c2 c3 c4 c5 c6 c7 c8 c9 1 0 g9 w9 ((mu_n ((mp_ne hg_md hg_av (by simp)))).trans ((mu_n ((mp_ne hg_md hg_ab (by simp)))).trans (mu_s _ _ _))) ((mu_n ((mp_ne hg_ab hg_av (by simp)))).trans (mu_s _ _ _)) (mu_s _ _ _)) (cwV 0 hts gL_law_X7_thrown rfl rfl rfl (by decide +kernel) ⟨Nat.le_of_ble_eq_true rfl, Nat.le_of_ble_eq_true rfl⟩) ⟨KW.blind, hP.recv hK rfl ((mu_n ((mp_ne hg_md hg_av (by simp)))).trans ((mu_n ((mp_ne hg_md hg_ab (by simp)))).trans (mu_s _ _ _))), fun U9 hU9 hW9 => ⟨rfl, KW.pre hBs hKK hS hP U9 hU9 hW9⟩⟩ rfl rfl hl.1 rfl (lv_room (Nat.le_of_ble_eq_true rfl)) dL_law_513 ⟨(Nat.le_of_ble_eq_true rfl), (Nat.le_of_ble_eq_true rfl)⟩) hS (fun r513 m513 H locs hq9 hP hz9 hS => ?_)
      obtain ⟨he8, hr8⟩ := hq9
      rw [he8] at hP
      obtain rfl : r513 = nI 1 := hr8
      refine lv_iload hx hb dL_law_516 (lv_at hl 0 rfl) ?_
      refine nv_icmp_eq (tgt := 523) hx hb (by omega) (by omega) dL_law_518 (by decide) (fun hc518 => ?_) (fun hc518 => ?_)
      · refine lv_goto (tgt := 1218) hx hb dL_law_523 (by decide) ?_
        refine W.widen (k := 138) (n := 15799) (by omega) (by omega) ?_
        exact L1218 (mu (mu (mu m485 md (.inr (7, [.int (nI 1), .ref ab, .ref av, .int (nI 0), .ref c1, .ref c2, .ref c3, .ref c4, .ref c5, .ref c6, .ref c7, .ref c8, .ref c9]))) ab (.inl (G.2 0, 3744, .inr (.inl g9)))) av (.inl (G.2 2, 26, .inl w9)))  _ _ hP hS ls (lv_sub hl [1, 2, 3, 4, 5] rfl)
      · exfalso; omega

set_option maxHeartbeats 4000000 in
set_option maxRecDepth 100000 in
theorem lw_k6 (l : Launch) (hlt : l.stackTraces = false) (G : GG) (B : Nat) (sc0 : Nat) (fs : Nat → Int32) {p : Program} {e : Env} {s : State} {m : MethodId} {args : Array Value} {below : List Frame} {meth : Method} {c : Code} {Q : State → Prop} (μ : mp) (d aS aL aR aT aO bn nn s9 lo : Nat) (nf : List Value) (sa la bE : Nat → Nat) (F : Nat → Nat → Int64) (g : Nat → Int64) (w9 : Nat → Int32) (fS fL fR fT : Nat → Option Nat) (sp : Nat → Nat) (fO : Nat → Int64) (ou : Nat) (fo : Nat → Int64) (md ab av c1 c2 c3 c4 c5 c6 c7 c8 c9 : Nat) (f : Nat → Int64) (v : Nat → Int32) (i1 i2 i3 i4 i5 i6 : Nat → Int32) (hx : p.tables.exec = Jvm.exec) (hb : c.code = cL_law) (hml : c.maxLocals = 8) (hown : s.vm.findClass RL = some m.cls) (hts : ∀ w ∈ wsL_law, w.before args s = true) (hBs : B ≤ s.heap.size) (hKK : KK G B s) (hDc : DcI s) (hscB : sc0 < B) (hbl : sc0 < s.heap.size) (hX : va_X sc0 6 fs s s.heap) (L1218 : ∀ (μ9 : mp) (H : Heap) (locs : List Loc), mw G.1 vwCl B μ9 H → va_S (fun q => B ≤ q) s.heap H locs → ∀ ls : Array Slot, lv_has ls 8 [(4, .int (nI 0)), (3, .ref ou), (2, .ref md), (1, .ref d), (0, .ref sc0)] → W p l e room_1 s m args below meth c H locs 138 15799 Q (F0 m 1218 ls [])) (hD : DK G μ d aS aL aR aT aO bn nn s9 lo 0 nf sa la bE F g w9 fS fL fR fT sp fO) (hFS : FS F bE g) (hou : μ ou = some (.inl (G.2 0, 1, .inr (.inl fo)))) (hap : Apt d aO s9 lo sa la sp ou) (hmd : μ md = some (.inr (7, [.int (nI 0), .ref ab, .ref av, .int (nI 0), .ref c1, .ref c2, .ref c3, .ref c4, .ref c5, .ref c6, .ref c7, .ref c8, .ref c9]))) (hab : μ ab = some (.inl (G.2 0, 3744, .inr (.inl f)))) (hav : μ av = some (.inl (G.2 2, 26, .inl v))) (hNM : NM f v) (hc1 : μ c1 = some (.inl (G.2 1, 20, .inl i1))) (hc2 : μ c2 = some (.inl (G.2 1, 20, .inl i2))) (hc3 : μ c3 = some (.inl (G.2 1, 20, .inl i3))) (hc4 : μ c4 = some (.inl (G.2 1, 20, .inl i4))) (hc5 : μ c5 = some (.inl (G.2 1, 20, .inl i5))) (hc6 : μ c6 = some (.inl (G.2 1, 20, .inl i6))) (n12 : c1 ≠ c2) (n13 : c1 ≠ c3) (n14 : c1 ≠ c4) (n15 : c1 ≠ c5) (n16 : c1 ≠ c6) (n23 : c2 ≠ c3) (n24 : c2 ≠ c4) (n25 : c2 ≠ c5) (n26 : c2 ≠ c6) (n34 : c3 ≠ c4) (n35 : c3 ≠ c5) (n36 : c3 ≠ c6) (n45 : c4 ≠ c5) (n46 : c4 ≠ c6) (n56 : c5 ≠ c6) (ap_md : Apt d aO s9 lo sa la sp md) (ap_ab : Apt d aO s9 lo sa la sp ab) (ap_av : Apt d aO s9 lo sa la sp av) (ap_c1 : Apt d aO s9 lo sa la sp c1) (ap_c2 : Apt d aO s9 lo sa la sp c2) (ap_c3 : Apt d aO s9 lo sa la sp c3) (ap_c4 : Apt d aO s9 lo sa la sp c4) (ap_c5 : Apt d aO s9 lo sa la sp c5) (ap_c6 : Apt d aO s9 lo sa la sp c6) (H : Heap) (locs : List Loc) (hP : mw G.1 vwCl B μ H) (hS : va_S (fun q => B ≤ q) s.heap H locs) (ls : Array Slot) (hl : lv_has ls 8 [(4, .int (nI 0)), (3, .ref ou), (2, .ref md), (1, .ref d), (0, .ref sc0)]) : W p l e room_1 s m args below meth c H locs 103 8067 Q (F0 m 526 ls []) := by
  have hK := hKK.k
  refine lv_aload_n hx hb dL_law_526 rfl (lv_at hl 3 rfl) ?_
  refine lv_aload_n hx hb dL_law_527 rfl (lv_at hl 4 rfl) ?_
  refine lv_iload hx hb dL_law_528 (lv_at hl 0 rfl) ?_
  refine lv_iconst (v := nI 1) hx hb dL_law_530 (by decide) ?_
  refine nv_iadd hx hb dL_law_531 ?_
  refine sc_iald (i := 1) hx hb hX hbl hscB hS (by omega) (by omega) dL_law_532 ?_
  refine lv_aload_n hx hb dL_law_533 rfl (lv_at hl 4 rfl) ?_
  refine lv_iload hx hb dL_law_534 (lv_at hl 0 rfl) ?_
  refine lv_iconst (v := nI 2) hx hb dL_law_536 (by decide) ?_
  refine nv_iadd hx hb dL_law_537 ?_
  refine sc_iald (i := 2) hx hb hX hbl hscB hS (by omega) (by omega) dL_law_538 ?_
  refine kx_i (vx_runSX (As := [.ref d, .int (fs 1), .int (fs 2)]) (rest := []) ⟨hx, hb, hml, hown, hts⟩ (c_L_forget l hlt G B (μ) d aS aL aR aT aO bn nn s9 lo nf sa la bE F g w9 fS fL fR fT sp fO (fs 1) (fs 2) hD hFS) (vx_cwSW 3 hts gL_law_L_forget rfl rfl rfl (by decide +kernel) ⟨Nat.le_of_ble_eq_true rfl, Nat.le_of_ble_eq_true rfl⟩) ⟨KX.blind, fun U9 hU9 hW9 => ⟨rfl, KW.pre hBs hKK hS hP U9 hU9 hW9, hDc.at hW9⟩⟩ rfl rfl hl.1 rfl (lv_room (Nat.le_of_ble_eq_true rfl)) dL_law_539 ⟨(Nat.le_of_ble_eq_true rfl), (Nat.le_of_ble_eq_true rfl)⟩) hS (fun E ce q9 H locs hce hP hS h91 h92 h93 => ?_) (fun r539 m539 H locs hq9 hP hz9 hS => ?_)
  · exact False.elim hce
  obtain ⟨hfr, hcase⟩ := hq9
  have hg_md := hfr md _ (hmd) ap_md
  have hg_ab := hfr ab _ (hab) ap_ab
  have hg_av := hfr av _ (hav) ap_av
  have hg_c1 := hfr c1 _ (hc1) ap_c1
  have hg_c2 := hfr c2 _ (hc2) ap_c2
  have hg_c3 := hfr c3 _ (hc3) ap_c3
  have hg_c4 := hfr c4 _ (hc4) ap_c4
  have hg_c5 := hfr c5 _ (hc5) ap_c5
  have hg_c6 := hfr c6 _ (hc6) ap_c6
  have hg_ou := hfr ou _ (hou) hap
  refine lv_istore (lv' := [(5, .int r539), (4, .int (nI 0)), (3, .ref ou), (2, .ref md), (1, .ref d), (0, .ref sc0)]) hx hb dL_law_542 hl (by decide) rfl (fun ls hl => ?_)
  refine lv_aload_n hx hb dL_law_544 rfl (lv_at hl 3 rfl) ?_
  refine lv_aload_n hx hb dL_law_545 rfl (lv_at hl 5 rfl) ?_
  refine lv_iload hx hb dL_law_546 (lv_at hl 1 rfl) ?_
  refine lv_iconst (v := nI 1) hx hb dL_law_548 (by decide) ?_
  refine nv_iadd hx hb dL_law_549 ?_
  refine sc_iald (i := 1) hx hb hX hbl hscB hS (by omega) (by omega) dL_law_550 ?_
  refine lv_aload_n hx hb dL_law_551 rfl (lv_at hl 5 rfl) ?_
  refine lv_iload hx hb dL_law_552 (lv_at hl 1 rfl) ?_
  refine lv_iconst (v := nI 2) hx hb dL_law_554 (by decide) ?_
  refine nv_iadd hx hb dL_law_555 ?_
  refine sc_iald (i := 2) hx hb hX hbl hscB hS (by omega) (by omega) dL_law_556 ?_
  refine kc_v (va_runV (As := [.int (fs 1), .int (fs 2)]) (rest := []) ⟨hx, hb, hml, hown, hts⟩ (c_X7_forget l G B (m539) md ab av c1 c2 c3 c4 c5 c6 c7 c8 c9 0 0 f v (fs 1) (fs 2) (hg_md) (hg_ab) (hg_av) hNM) (cwV 2 hts gL_law_X7_forget rfl rfl rfl (by decide +kernel) ⟨Nat.le_of_ble_eq_true rfl, Nat.le_of_ble_eq_true rfl⟩) ⟨KW.blind, hP.recv hK rfl (hg_md), fun U9 hU9 hW9 => ⟨rfl, KW.pre hBs hKK hS hP U9 hU9 hW9⟩⟩ rfl rfl hl.1 rfl (lv_room (Nat.le_of_ble_eq_true rfl)) dL_law_557 ⟨(Nat.le_of_ble_eq_true rfl), (Nat.le_of_ble_eq_true rfl)⟩) hS (fun m557 H locs hq9 hP hz9 hS => ?_)
  obtain ⟨fl9, g9, w9, he9, hm9⟩ := hq9
  rw [he9] at hP
  rcases hcase with ⟨hr9, hok⟩ | ⟨hr9, hno⟩
  · rcases hm9 with ⟨hf9, hok2⟩ | ⟨hf9, hno2⟩
    · subst hf9
      obtain rfl : r539 = nI 0 := hr9
      refine lv_aload_n hx hb dL_law_560 rfl (lv_at hl 3 rfl) ?_
      refine kc_i (va_runV (As := []) (rest := []) ⟨hx, hb, hml, hown, hts⟩ (c_X7_thrown l G B (mu (mu (mu m539 md (.inr (7, [.int (nI 0), .ref ab, .ref av, .int (nI 0), .ref c1, .ref c2, .ref c3, .ref c4, .ref c5, .ref c6, .ref c7, .ref c8, .ref c9]))) ab (.inl (G.2 0, 3744, .inr (.inl g9)))) av (.inl (G.2 2, 26, .inl w9))) md ab av c1 c2 c3 c4 c5 c6 c7 c8 c9 0 0 g9 w9 ((mu_n ((mp_ne hg_md hg_av (by simp)))).trans ((mu_n ((mp_ne hg_md hg_ab (by simp)))).trans (mu_s _ _ _))) ((mu_n ((mp_ne hg_ab hg_av (by simp)))).trans (mu_s _ _ _)) (mu_s _ _ _)) (cwV 0 hts gL_law_X7_thrown rfl rfl rfl (by decide +kernel) ⟨Nat.le_of_ble_eq_true rfl, Nat.le_of_ble_eq_true rfl⟩) ⟨KW.blind, hP.recv hK rfl ((mu_n ((mp_ne hg_md hg_av (by simp)))).trans ((mu_n ((mp_ne hg_md hg_ab (by simp)))).trans (mu_s _ _ _))), fun U9 hU9 hW9 => ⟨rfl, KW.pre hBs hKK hS hP U9 hU9 hW9⟩⟩ rfl rfl hl.1 rfl (lv_room (Nat.le_of_ble_eq_true rfl)) dL_law_561 ⟨(Nat.le_of_ble_eq_true rfl), (Nat.le_of_ble_eq_true rfl)⟩) hS (fun r561 m561 H locs hq9 hP hz9 hS => ?_)
      obtain ⟨he8, hr8⟩ := hq9
      rw [he8] at hP
      obtain rfl : r561 = nI 0 := hr8
      refine lv_iload hx hb dL_law_564 (lv_at hl 0 rfl) ?_
      refine nv_icmp_eq (tgt := 571) hx hb (by omega) (by omega) dL_law_566 (by decide) (fun hc566 => ?_) (fun hc566 => ?_)
      · refine lv_goto (tgt := 1218) hx hb dL_law_571 (by decide) ?_
        refine W.widen (k := 138) (n := 15799) (by omega) (by omega) ?_
        exact L1218 (mu (mu (mu m539 md (.inr (7, [.int (nI 0), .ref ab, .ref av, .int (nI 0), .ref c1, .ref c2, .ref c3, .ref c4, .ref c5, .ref c6, .ref c7, .ref c8, .ref c9]))) ab (.inl (G.2 0, 3744, .inr (.inl g9)))) av (.inl (G.2 2, 26, .inl w9)))  _ _ hP hS ls (lv_sub hl [1, 2, 3, 4, 5] rfl)
      · exfalso; omega
    · exact absurd hok hno2
  · rcases hm9 with ⟨hf9, hok2⟩ | ⟨hf9, hno2⟩
    · exact absurd hok2 hno
    · subst hf9
      obtain rfl : r539 = nI 1 := hr9
      refine lv_aload_n hx hb dL_law_560 rfl (lv_at hl 3 rfl) ?_
      refine kc_i (va_runV (As := []) (rest := []) ⟨hx, hb, hml, hown, hts⟩ (c_X7_thrown l G B (mu (mu (mu m539 md (.inr (7, [.int (nI 1), .ref ab, .ref av, .int (nI 0), .ref c1, .ref c2, .ref c3, .ref c4, .ref c5, .ref c6, .ref c7, .ref c8, .ref c9]))) ab (.inl (G.2 0, 3744, .inr (.inl g9)))) av (.inl (G.2 2, 26, .inl w9))) md ab av c1 c2 c3 c4 c5 c6 c7 c8 c9 1 0 g9 w9 ((mu_n ((mp_ne hg_md hg_av (by simp)))).trans ((mu_n ((mp_ne hg_md hg_ab (by simp)))).trans (mu_s _ _ _))) ((mu_n ((mp_ne hg_ab hg_av (by simp)))).trans (mu_s _ _ _)) (mu_s _ _ _)) (cwV 0 hts gL_law_X7_thrown rfl rfl rfl (by decide +kernel) ⟨Nat.le_of_ble_eq_true rfl, Nat.le_of_ble_eq_true rfl⟩) ⟨KW.blind, hP.recv hK rfl ((mu_n ((mp_ne hg_md hg_av (by simp)))).trans ((mu_n ((mp_ne hg_md hg_ab (by simp)))).trans (mu_s _ _ _))), fun U9 hU9 hW9 => ⟨rfl, KW.pre hBs hKK hS hP U9 hU9 hW9⟩⟩ rfl rfl hl.1 rfl (lv_room (Nat.le_of_ble_eq_true rfl)) dL_law_561 ⟨(Nat.le_of_ble_eq_true rfl), (Nat.le_of_ble_eq_true rfl)⟩) hS (fun r561 m561 H locs hq9 hP hz9 hS => ?_)
      obtain ⟨he8, hr8⟩ := hq9
      rw [he8] at hP
      obtain rfl : r561 = nI 1 := hr8
      refine lv_iload hx hb dL_law_564 (lv_at hl 0 rfl) ?_
      refine nv_icmp_eq (tgt := 571) hx hb (by omega) (by omega) dL_law_566 (by decide) (fun hc566 => ?_) (fun hc566 => ?_)
      · refine lv_goto (tgt := 1218) hx hb dL_law_571 (by decide) ?_
        refine W.widen (k := 138) (n := 15799) (by omega) (by omega) ?_
        exact L1218 (mu (mu (mu m539 md (.inr (7, [.int (nI 1), .ref ab, .ref av, .int (nI 0), .ref c1, .ref c2, .ref c3, .ref c4, .ref c5, .ref c6, .ref c7, .ref c8, .ref c9]))) ab (.inl (G.2 0, 3744, .inr (.inl g9)))) av (.inl (G.2 2, 26, .inl w9)))  _ _ hP hS ls (lv_sub hl [1, 2, 3, 4, 5] rfl)
      · exfalso; omega

set_option maxHeartbeats 4000000 in
set_option maxRecDepth 100000 in
theorem lw_k7 (l : Launch) (hlt : l.stackTraces = false) (G : GG) (B : Nat) (sc0 : Nat) (fs : Nat → Int32) {p : Program} {e : Env} {s : State} {m : MethodId} {args : Array Value} {below : List Frame} {meth : Method} {c : Code} {Q : State → Prop} (μ : mp) (d aS aL aR aT aO bn nn s9 lo : Nat) (nf : List Value) (sa la bE : Nat → Nat) (F : Nat → Nat → Int64) (g : Nat → Int64) (w9 : Nat → Int32) (fS fL fR fT : Nat → Option Nat) (sp : Nat → Nat) (fO : Nat → Int64) (ou : Nat) (fo : Nat → Int64) (md ab av c1 c2 c3 c4 c5 c6 c7 c8 c9 : Nat) (f : Nat → Int64) (v : Nat → Int32) (i1 i2 i3 i4 i5 i6 : Nat → Int32) (hx : p.tables.exec = Jvm.exec) (hb : c.code = cL_law) (hml : c.maxLocals = 8) (hown : s.vm.findClass RL = some m.cls) (hts : ∀ w ∈ wsL_law, w.before args s = true) (hBs : B ≤ s.heap.size) (hKK : KK G B s) (hDc : DcI s) (hscB : sc0 < B) (hbl : sc0 < s.heap.size) (hX : va_X sc0 6 fs s s.heap) (L1218 : ∀ (μ9 : mp) (H : Heap) (locs : List Loc), mw G.1 vwCl B μ9 H → va_S (fun q => B ≤ q) s.heap H locs → ∀ ls : Array Slot, lv_has ls 8 [(4, .int (nI 0)), (3, .ref ou), (2, .ref md), (1, .ref d), (0, .ref sc0)] → W p l e room_1 s m args below meth c H locs 138 15799 Q (F0 m 1218 ls [])) (hD : DK G μ d aS aL aR aT aO bn nn s9 lo 0 nf sa la bE F g w9 fS fL fR fT sp fO) (hFS : FS F bE g) (hou : μ ou = some (.inl (G.2 0, 1, .inr (.inl fo)))) (hap : Apt d aO s9 lo sa la sp ou) (hmd : μ md = some (.inr (7, [.int (nI 0), .ref ab, .ref av, .int (nI 0), .ref c1, .ref c2, .ref c3, .ref c4, .ref c5, .ref c6, .ref c7, .ref c8, .ref c9]))) (hab : μ ab = some (.inl (G.2 0, 3744, .inr (.inl f)))) (hav : μ av = some (.inl (G.2 2, 26, .inl v))) (hNM : NM f v) (hc1 : μ c1 = some (.inl (G.2 1, 20, .inl i1))) (hc2 : μ c2 = some (.inl (G.2 1, 20, .inl i2))) (hc3 : μ c3 = some (.inl (G.2 1, 20, .inl i3))) (hc4 : μ c4 = some (.inl (G.2 1, 20, .inl i4))) (hc5 : μ c5 = some (.inl (G.2 1, 20, .inl i5))) (hc6 : μ c6 = some (.inl (G.2 1, 20, .inl i6))) (n12 : c1 ≠ c2) (n13 : c1 ≠ c3) (n14 : c1 ≠ c4) (n15 : c1 ≠ c5) (n16 : c1 ≠ c6) (n23 : c2 ≠ c3) (n24 : c2 ≠ c4) (n25 : c2 ≠ c5) (n26 : c2 ≠ c6) (n34 : c3 ≠ c4) (n35 : c3 ≠ c5) (n36 : c3 ≠ c6) (n45 : c4 ≠ c5) (n46 : c4 ≠ c6) (n56 : c5 ≠ c6) (ap_md : Apt d aO s9 lo sa la sp md) (ap_ab : Apt d aO s9 lo sa la sp ab) (ap_av : Apt d aO s9 lo sa la sp av) (ap_c1 : Apt d aO s9 lo sa la sp c1) (ap_c2 : Apt d aO s9 lo sa la sp c2) (ap_c3 : Apt d aO s9 lo sa la sp c3) (ap_c4 : Apt d aO s9 lo sa la sp c4) (ap_c5 : Apt d aO s9 lo sa la sp c5) (ap_c6 : Apt d aO s9 lo sa la sp c6) (H : Heap) (locs : List Loc) (hP : mw G.1 vwCl B μ H) (hS : va_S (fun q => B ≤ q) s.heap H locs) (ls : Array Slot) (hl : lv_has ls 8 [(4, .int (nI 0)), (3, .ref ou), (2, .ref md), (1, .ref d), (0, .ref sc0)]) : W p l e room_1 s m args below meth c H locs 103 8067 Q (F0 m 574 ls []) := by
  have hK := hKK.k
  refine lv_aload_n hx hb dL_law_574 rfl (lv_at hl 3 rfl) ?_
  refine lv_aload_n hx hb dL_law_575 rfl (lv_at hl 4 rfl) ?_
  refine lv_iload hx hb dL_law_576 (lv_at hl 0 rfl) ?_
  refine lv_iconst (v := nI 1) hx hb dL_law_578 (by decide) ?_
  refine nv_iadd hx hb dL_law_579 ?_
  refine sc_iald (i := 1) hx hb hX hbl hscB hS (by omega) (by omega) dL_law_580 ?_
  refine lv_aload_n hx hb dL_law_581 rfl (lv_at hl 1 rfl) ?_
  refine kx_i (vx_runSX (As := [.ref d, .int (fs 1), .ref ou]) (rest := []) ⟨hx, hb, hml, hown, hts⟩ (c_L_isEmpty l hlt G B (μ) d aS aL aR aT aO bn nn s9 lo nf sa la bE F g w9 fS fL fR fT sp fO (fs 1) ou fo hD hFS hou hap) (vx_cwSW 3 hts gL_law_L_isEmpty rfl rfl rfl (by decide +kernel) ⟨Nat.le_of_ble_eq_true rfl, Nat.le_of_ble_eq_true rfl⟩) ⟨KX.blind, fun U9 hU9 hW9 => ⟨rfl, KW.pre hBs hKK hS hP U9 hU9 hW9, hDc.at hW9⟩⟩ rfl rfl hl.1 rfl (lv_room (Nat.le_of_ble_eq_true rfl)) dL_law_582 ⟨(Nat.le_of_ble_eq_true rfl), (Nat.le_of_ble_eq_true rfl)⟩) hS (fun E ce q9 H locs hce hP hS h91 h92 h93 => ?_) (fun r582 m582 H locs hq9 hP hz9 hS => ?_)
  · exact False.elim hce
  obtain ⟨hfr, fo9, hou9, hcase⟩ := hq9
  have hg_md := hfr md _ (hmd) (mp_ne hmd hou (by simp)) ap_md
  have hg_ab := hfr ab _ (hab) (mp_ne hab hou (by simp)) ap_ab
  have hg_av := hfr av _ (hav) (mp_ne hav hou (by simp)) ap_av
  have hg_c1 := hfr c1 _ (hc1) (mp_ne hc1 hou (by simp)) ap_c1
  have hg_c2 := hfr c2 _ (hc2) (mp_ne hc2 hou (by simp)) ap_c2
  have hg_c3 := hfr c3 _ (hc3) (mp_ne hc3 hou (by simp)) ap_c3
  have hg_c4 := hfr c4 _ (hc4) (mp_ne hc4 hou (by simp)) ap_c4
  have hg_c5 := hfr c5 _ (hc5) (mp_ne hc5 hou (by simp)) ap_c5
  have hg_c6 := hfr c6 _ (hc6) (mp_ne hc6 hou (by simp)) ap_c6
  refine lv_istore (lv' := [(5, .int r582), (4, .int (nI 0)), (3, .ref ou), (2, .ref md), (1, .ref d), (0, .ref sc0)]) hx hb dL_law_585 hl (by decide) rfl (fun ls hl => ?_)
  refine lv_aload_n hx hb dL_law_587 rfl (lv_at hl 3 rfl) ?_
  refine lv_aload_n hx hb dL_law_588 rfl (lv_at hl 5 rfl) ?_
  refine lv_iload hx hb dL_law_589 (lv_at hl 1 rfl) ?_
  refine lv_iconst (v := nI 1) hx hb dL_law_591 (by decide) ?_
  refine nv_iadd hx hb dL_law_592 ?_
  refine sc_iald (i := 1) hx hb hX hbl hscB hS (by omega) (by omega) dL_law_593 ?_
  refine kc_i (va_runV (As := [.int (fs 1)]) (rest := []) ⟨hx, hb, hml, hown, hts⟩ (c_X7_isEmpty l G B (m582) md ab av c1 c2 c3 c4 c5 c6 c7 c8 c9 0 0 f v (fs 1) (hg_md) (hg_ab) (hg_av) hNM) (cwV 1 hts gL_law_X7_isEmpty rfl rfl rfl (by decide +kernel) ⟨Nat.le_of_ble_eq_true rfl, Nat.le_of_ble_eq_true rfl⟩) ⟨KW.blind, hP.recv hK rfl (hg_md), fun U9 hU9 hW9 => ⟨rfl, KW.pre hBs hKK hS hP U9 hU9 hW9⟩⟩ rfl rfl hl.1 rfl (lv_room (Nat.le_of_ble_eq_true rfl)) dL_law_594 ⟨(Nat.le_of_ble_eq_true rfl), (Nat.le_of_ble_eq_true rfl)⟩) hS (fun r594 m594 H locs hq9 hP hz9 hS => ?_)
  obtain ⟨fl9, g9, w9, he9, hm9⟩ := hq9
  rw [he9] at hP
  rcases hcase with ⟨hr9, hok, hv9⟩ | ⟨hr9, hno⟩
  · rcases hm9 with ⟨hf9, hok2, hb9⟩ | ⟨hf9, hno2⟩
    · subst hf9
      obtain rfl : r582 = nI 0 := hr9
      obtain rfl : r594 = nI 0 := hb9
      refine lv_istore (lv' := [(6, .int (nI 0)), (5, .int (nI 0)), (4, .int (nI 0)), (3, .ref ou), (2, .ref md), (1, .ref d), (0, .ref sc0)]) hx hb dL_law_597 hl (by decide) rfl (fun ls hl => ?_)
      refine lv_aload_n hx hb dL_law_599 rfl (lv_at hl 4 rfl) ?_
      refine kc_i (va_runV (As := []) (rest := []) ⟨hx, hb, hml, hown, hts⟩ (c_X7_thrown l G B (mu (mu (mu m582 md (.inr (7, [.int (nI 0), .ref ab, .ref av, .int (nI 0), .ref c1, .ref c2, .ref c3, .ref c4, .ref c5, .ref c6, .ref c7, .ref c8, .ref c9]))) ab (.inl (G.2 0, 3744, .inr (.inl g9)))) av (.inl (G.2 2, 26, .inl w9))) md ab av c1 c2 c3 c4 c5 c6 c7 c8 c9 0 0 g9 w9 ((mu_n ((mp_ne hg_md hg_av (by simp)))).trans ((mu_n ((mp_ne hg_md hg_ab (by simp)))).trans (mu_s _ _ _))) ((mu_n ((mp_ne hg_ab hg_av (by simp)))).trans (mu_s _ _ _)) (mu_s _ _ _)) (cwV 0 hts gL_law_X7_thrown rfl rfl rfl (by decide +kernel) ⟨Nat.le_of_ble_eq_true rfl, Nat.le_of_ble_eq_true rfl⟩) ⟨KW.blind, hP.recv hK rfl ((mu_n ((mp_ne hg_md hg_av (by simp)))).trans ((mu_n ((mp_ne hg_md hg_ab (by simp)))).trans (mu_s _ _ _))), fun U9 hU9 hW9 => ⟨rfl, KW.pre hBs hKK hS hP U9 hU9 hW9⟩⟩ rfl rfl hl.1 rfl (lv_room (Nat.le_of_ble_eq_true rfl)) dL_law_600 ⟨(Nat.le_of_ble_eq_true rfl), (Nat.le_of_ble_eq_true rfl)⟩) hS (fun r600 m600 H locs hq9 hP hz9 hS => ?_)
      obtain ⟨he8, hr8⟩ := hq9
      rw [he8] at hP
      obtain rfl : r600 = nI 0 := hr8
      refine lv_iload hx hb dL_law_603 (lv_at hl 1 rfl) ?_
      refine nv_icmp_eq (tgt := 610) hx hb (by omega) (by omega) dL_law_605 (by decide) (fun hc605 => ?_) (fun hc605 => ?_)
      · refine lv_iload hx hb dL_law_610 (lv_at hl 1 rfl) ?_
        refine lv_if_ne (tgt := 634) hx hb dL_law_612 (by decide) (fun hc612 => ?_) (fun hc612 => ?_)
        · exact absurd rfl hc612
        · refine lv_aload_n hx hb dL_law_615 rfl (lv_at hl 3 rfl) ?_
          refine lv_iconst (v := nI 0) hx hb dL_law_616 (by decide) ?_
          refine mw_lald hx hb hK hP 0 ((mu_n ((mp_ne hou9 hg_av (by simp)))).trans ((mu_n ((mp_ne hou9 hg_ab (by simp)))).trans ((mu_n ((mp_ne hou9 hg_md (by simp)))).trans (hou9)))) rfl (by omega) (by omega) dL_law_617 ?_
          refine lv_iload hx hb dL_law_618 (lv_at hl 0 rfl) ?_
          refine lv_if_eq (tgt := 627) hx hb dL_law_620 (by decide) (fun hc620 => ?_) (fun hc620 => ?_)
          · refine lv_lconst (v := 0) hx hb dL_law_627 (by decide) ?_
            refine nl_if_eq (tgt := 634) hx hb dL_law_628 dL_law_629 (by decide) (fun hc628 => ?_) (fun hc628 => ?_)
            · refine lv_goto (tgt := 1218) hx hb dL_law_634 (by decide) ?_
              refine W.widen (k := 138) (n := 15799) (by omega) (by omega) ?_
              exact L1218 (mu (mu (mu m582 md (.inr (7, [.int (nI 0), .ref ab, .ref av, .int (nI 0), .ref c1, .ref c2, .ref c3, .ref c4, .ref c5, .ref c6, .ref c7, .ref c8, .ref c9]))) ab (.inl (G.2 0, 3744, .inr (.inl g9)))) av (.inl (G.2 2, 26, .inl w9)))  _ _ hP hS ls (lv_sub hl [2, 3, 4, 5, 6] rfl)
            · exact absurd (hv9.trans (by first | rfl | decide | (subst_vars; decide))) hc628
          · exact absurd rfl hc620
      · exfalso; omega
    · exact absurd hok hno2
  · rcases hm9 with ⟨hf9, hok2, hb9⟩ | ⟨hf9, hno2⟩
    · exact absurd hok2 hno
    · subst hf9
      obtain rfl : r582 = nI 1 := hr9
      refine lv_istore (lv' := [(6, .int r594), (5, .int (nI 1)), (4, .int (nI 0)), (3, .ref ou), (2, .ref md), (1, .ref d), (0, .ref sc0)]) hx hb dL_law_597 hl (by decide) rfl (fun ls hl => ?_)
      refine lv_aload_n hx hb dL_law_599 rfl (lv_at hl 4 rfl) ?_
      refine kc_i (va_runV (As := []) (rest := []) ⟨hx, hb, hml, hown, hts⟩ (c_X7_thrown l G B (mu (mu (mu m582 md (.inr (7, [.int (nI 1), .ref ab, .ref av, .int (nI 0), .ref c1, .ref c2, .ref c3, .ref c4, .ref c5, .ref c6, .ref c7, .ref c8, .ref c9]))) ab (.inl (G.2 0, 3744, .inr (.inl g9)))) av (.inl (G.2 2, 26, .inl w9))) md ab av c1 c2 c3 c4 c5 c6 c7 c8 c9 1 0 g9 w9 ((mu_n ((mp_ne hg_md hg_av (by simp)))).trans ((mu_n ((mp_ne hg_md hg_ab (by simp)))).trans (mu_s _ _ _))) ((mu_n ((mp_ne hg_ab hg_av (by simp)))).trans (mu_s _ _ _)) (mu_s _ _ _)) (cwV 0 hts gL_law_X7_thrown rfl rfl rfl (by decide +kernel) ⟨Nat.le_of_ble_eq_true rfl, Nat.le_of_ble_eq_true rfl⟩) ⟨KW.blind, hP.recv hK rfl ((mu_n ((mp_ne hg_md hg_av (by simp)))).trans ((mu_n ((mp_ne hg_md hg_ab (by simp)))).trans (mu_s _ _ _))), fun U9 hU9 hW9 => ⟨rfl, KW.pre hBs hKK hS hP U9 hU9 hW9⟩⟩ rfl rfl hl.1 rfl (lv_room (Nat.le_of_ble_eq_true rfl)) dL_law_600 ⟨(Nat.le_of_ble_eq_true rfl), (Nat.le_of_ble_eq_true rfl)⟩) hS (fun r600 m600 H locs hq9 hP hz9 hS => ?_)
      obtain ⟨he8, hr8⟩ := hq9
      rw [he8] at hP
      obtain rfl : r600 = nI 1 := hr8
      refine lv_iload hx hb dL_law_603 (lv_at hl 1 rfl) ?_
      refine nv_icmp_eq (tgt := 610) hx hb (by omega) (by omega) dL_law_605 (by decide) (fun hc605 => ?_) (fun hc605 => ?_)
      · refine lv_iload hx hb dL_law_610 (lv_at hl 1 rfl) ?_
        refine lv_if_ne (tgt := 634) hx hb dL_law_612 (by decide) (fun hc612 => ?_) (fun hc612 => ?_)
        · refine lv_goto (tgt := 1218) hx hb dL_law_634 (by decide) ?_
          refine W.widen (k := 138) (n := 15799) (by omega) (by omega) ?_
          exact L1218 (mu (mu (mu m582 md (.inr (7, [.int (nI 1), .ref ab, .ref av, .int (nI 0), .ref c1, .ref c2, .ref c3, .ref c4, .ref c5, .ref c6, .ref c7, .ref c8, .ref c9]))) ab (.inl (G.2 0, 3744, .inr (.inl g9)))) av (.inl (G.2 2, 26, .inl w9)))  _ _ hP hS ls (lv_sub hl [2, 3, 4, 5, 6] rfl)
        · exact absurd hc612 (by decide)
      · exfalso; omega
