/-- a cell that is none of the desk's own -/
def Apt (d aO s9 lo : Nat) (sa la sp : Nat → Nat) (a : Nat) : Prop := ¬ OW d aO s9 lo sa la sp a
theorem DR.at {μ μ2 : mp} {d aO s9 lo : Nat} {sa la sp : Nat → Nat} (h : DR μ μ2 (OW d aO s9 lo sa la sp)) {a : Nat} {e : va_E} (h1 : μ a = some e) (h2 : Apt d aO s9 lo sa la sp a) : μ2 a = some e := h a e h1 h2
abbrev rm_L_clear : Room := { frames := 8, cells := 5, slots := 30, locals := 141 }
set_option maxHeartbeats 4000000 in
set_option maxRecDepth 100000 in
theorem c_L_clear (l : Launch) (hlt : l.stackTraces = false) (G : GG) (B : Nat) (μ : mp) (d aS aL aR aT aO bn nn s9 lo : Nat) (nf : List Value) (sa la bE : Nat → Nat) (F : Nat → Nat → Int64) (g : Nat → Int64) (w9 : Nat → Int32) (fS fL fR fT : Nat → Option Nat) (sp : Nat → Nat) (fO : Nat → Int64) (x9 : Int32) (hD : DK G μ d aS aL aR aT aO bn nn s9 lo 0 nf sa la bE F g w9 fS fL fR fT sp fO) (hFS : FS F bE g) : vx_Met l yL_clear wsL_clear rm_L_clear (va_Pc [.ref d, .int x9] (KX G B μ)) (va_Qi (fun r μ2 => (∀ (a : Nat) (e : va_E), μ a = some e → Apt d aO s9 lo sa la sp a → μ2 a = some e) ∧ ((r = 0 ∧ (okS x9)) ∨ (r = 1 ∧ ¬ (okS x9)))) (BB G B) (fun q => B ≤ q)) (XX G B μ (fun _ => False)) 5 30 (fun q => B ≤ q) := by
  refine vx_ofWH (cc := cL_clear) (maxL := 3) (ret := (some .int)) (by decide) rfl ?_
  intro p e s m args below meth c s₁ B9 hml hv
  obtain ⟨hargs, ⟨hBs, hP, hKK⟩, hDc⟩ := hv
  have hx := B9.exec
  have hb := B9.bytes
  have hr := B9.returns
  have hts := atoms_spec (ws := wsL_clear) B9.pre
  have hown : s.vm.findClass RL = some m.cls := findClass_of_methodNamed B9.named
  have htab := vx_table (x := yL_clear) B9 (hts (.codeWith yL_clear cL_clear 3 (some .int) [(0, 5, 8, 13)]) (by decide +kernel))
  have hlocks := B9.notSynchronized
  have hK := hKK.k
  have hS : va_S (fun q => B ≤ q) s.heap s.heap [] := va_S.rf
  obtain ⟨Q, hQ⟩ : ∃ Q, Q = vx_MQ below (va_Qi (fun r μ2 => (∀ (a : Nat) (e : va_E), μ a = some e → Apt d aO s9 lo sa la sp a → μ2 a = some e) ∧ ((r = 0 ∧ (okS x9)) ∨ (r = 1 ∧ ¬ (okS x9)))) (BB G B) (fun q => B ≤ q)) (XX G B μ (fun _ => False)) args s 5 30 (fun q => B ≤ q) := ⟨_, rfl⟩
  rw [← hQ]
  have hl := lv_entry ([.ref d, .int x9]) (n := 3) (Nat.le_of_ble_eq_true rfl)
  have he9 : entryFrame m args 3 = entryFrame m ([.ref d, .int x9] : List Value).toArray 3 := by rw [hargs]
  rw [he9, lg_entry_eq]
  generalize (lg_sl ([.ref d, .int x9]) ++ List.replicate (3 - (lg_sl ([.ref d, .int x9])).length) Slot.unset).toArray = ls at hl ⊢
  have hl : lv_has ls 3 [(0, .ref d), (1, .int x9)] := hl
  refine lv_aload_n hx hb dL_clear_0 rfl (lv_at hl 0 rfl) ?_
  refine lv_iload_n hx hb dL_clear_1 rfl (lv_at hl 1 rfl) ?_
  refine kx_v (vx_runV (As := [.int x9]) (rest := []) ⟨hx, hb, hml, hown, hts⟩ (c_X6_clear l hlt G B (μ) d aS aL aR aT aO bn nn s9 lo 0 nf sa la bE F g w9 fS fL fR fT sp fO x9 hD hFS) (cwV 1 hts gL_clear_X6_clear rfl rfl rfl (by decide +kernel) ⟨Nat.le_of_ble_eq_true rfl, Nat.le_of_ble_eq_true rfl⟩) ⟨KX.blind, hP.recv hK rfl (hD.1), fun U9 hU9 hW9 => ⟨rfl, KW.pre hBs hKK hS hP U9 hU9 hW9, hDc.at hW9⟩⟩ rfl rfl hl.1 rfl (lv_room (Nat.le_of_ble_eq_true rfl)) dL_clear_2 ⟨(Nat.le_of_ble_eq_true rfl), (Nat.le_of_ble_eq_true rfl)⟩) hS (fun E ce q9 H locs hce hP hS h91 h92 h93 => ?_) (fun m2 H locs hq9 hP hz9 hS => ?_)
  · obtain ⟨eE, hno⟩ := hce
    subst eE
    refine vx_catch (own := RL) (name := exA) hown [] ⟨0, 5, 8, 13⟩ [] (htab.trans rfl) (fun z9 hz9 => nomatch hz9) (by decide) (by decide) (hts (.classLink RL 13 exA) (by decide +kernel)) (va_Nw.use rfl hKK.2.2.2.2.1.1) h91 h92 h93 ?_
    refine lv_astore_n (lv' := [(2, .ref q9), (0, .ref d), (1, .int x9)]) hx hb dL_clear_8 rfl hl (by decide) rfl (fun ls hl => ?_)
    refine lv_iconst (v := nI 1) hx hb dL_clear_9 (by decide) ?_
    rw [hQ]
    refine vx_ret ?_
    refine W.widen (k := 5) (n := 30) (by omega) (by omega) ?_
    exact W.iret (v := nI 1) hx hb hr (fun t99 ht99 hW99 => ⟨⟨nI 1, μ, rfl, (⟨fun a e h1 _ => h1, Or.inr ⟨rfl, hno⟩⟩), by show mw _ _ _ _ t99.heap; rw [ht99]; exact hP⟩, hS.F ht99⟩) hS.2.2 dL_clear_10
  obtain ⟨hok, hR⟩ := hq9
  refine lv_goto (tgt := 11) hx hb dL_clear_5 (by decide) ?_
  refine lv_iconst (v := nI 0) hx hb dL_clear_11 (by decide) ?_
  rw [hQ]
  refine vx_ret ?_
  refine W.widen (k := 5) (n := 30) (by omega) (by omega) ?_
  exact W.iret (v := nI 0) hx hb hr (fun t99 ht99 hW99 => ⟨⟨nI 0, m2, rfl, (⟨fun a e h1 h3 => hR.at h1 h3, Or.inl ⟨rfl, hok⟩⟩), by show mw _ _ _ _ t99.heap; rw [ht99]; exact hP⟩, hS.F ht99⟩) hS.2.2 dL_clear_12

abbrev rm_L_copy : Room := { frames := 8, cells := 5, slots := 30, locals := 142 }
set_option maxHeartbeats 4000000 in
set_option maxRecDepth 100000 in
theorem c_L_copy (l : Launch) (hlt : l.stackTraces = false) (G : GG) (B : Nat) (μ : mp) (d aS aL aR aT aO bn nn s9 lo : Nat) (nf : List Value) (sa la bE : Nat → Nat) (F : Nat → Nat → Int64) (g : Nat → Int64) (w9 : Nat → Int32) (fS fL fR fT : Nat → Option Nat) (sp : Nat → Nat) (fO : Nat → Int64) (x9 y9 : Int32) (hD : DK G μ d aS aL aR aT aO bn nn s9 lo 0 nf sa la bE F g w9 fS fL fR fT sp fO) (hFS : FS F bE g) : vx_Met l yL_copy wsL_copy rm_L_copy (va_Pc [.ref d, .int x9, .int y9] (KX G B μ)) (va_Qi (fun r μ2 => (∀ (a : Nat) (e : va_E), μ a = some e → Apt d aO s9 lo sa la sp a → μ2 a = some e) ∧ ((r = 0 ∧ (okS x9 ∧ okS y9)) ∨ (r = 1 ∧ ¬ (okS x9 ∧ okS y9)))) (BB G B) (fun q => B ≤ q)) (XX G B μ (fun _ => False)) 5 30 (fun q => B ≤ q) := by
  refine vx_ofWH (cc := cL_copy) (maxL := 4) (ret := (some .int)) (by decide) rfl ?_
  intro p e s m args below meth c s₁ B9 hml hv
  obtain ⟨hargs, ⟨hBs, hP, hKK⟩, hDc⟩ := hv
  have hx := B9.exec
  have hb := B9.bytes
  have hr := B9.returns
  have hts := atoms_spec (ws := wsL_copy) B9.pre
  have hown : s.vm.findClass RL = some m.cls := findClass_of_methodNamed B9.named
  have htab := vx_table (x := yL_copy) B9 (hts (.codeWith yL_copy cL_copy 4 (some .int) [(0, 6, 9, 13)]) (by decide +kernel))
  have hlocks := B9.notSynchronized
  have hK := hKK.k
  have hS : va_S (fun q => B ≤ q) s.heap s.heap [] := va_S.rf
  obtain ⟨Q, hQ⟩ : ∃ Q, Q = vx_MQ below (va_Qi (fun r μ2 => (∀ (a : Nat) (e : va_E), μ a = some e → Apt d aO s9 lo sa la sp a → μ2 a = some e) ∧ ((r = 0 ∧ (okS x9 ∧ okS y9)) ∨ (r = 1 ∧ ¬ (okS x9 ∧ okS y9)))) (BB G B) (fun q => B ≤ q)) (XX G B μ (fun _ => False)) args s 5 30 (fun q => B ≤ q) := ⟨_, rfl⟩
  rw [← hQ]
  have hl := lv_entry ([.ref d, .int x9, .int y9]) (n := 4) (Nat.le_of_ble_eq_true rfl)
  have he9 : entryFrame m args 4 = entryFrame m ([.ref d, .int x9, .int y9] : List Value).toArray 4 := by rw [hargs]
  rw [he9, lg_entry_eq]
  generalize (lg_sl ([.ref d, .int x9, .int y9]) ++ List.replicate (4 - (lg_sl ([.ref d, .int x9, .int y9])).length) Slot.unset).toArray = ls at hl ⊢
  have hl : lv_has ls 4 [(0, .ref d), (1, .int x9), (2, .int y9)] := hl
  refine lv_aload_n hx hb dL_copy_0 rfl (lv_at hl 0 rfl) ?_
  refine lv_iload_n hx hb dL_copy_1 rfl (lv_at hl 1 rfl) ?_
  refine lv_iload_n hx hb dL_copy_2 rfl (lv_at hl 2 rfl) ?_
  refine kx_v (vx_runV (As := [.int x9, .int y9]) (rest := []) ⟨hx, hb, hml, hown, hts⟩ (c_X6_copy l hlt G B (μ) d aS aL aR aT aO bn nn s9 lo 0 nf sa la bE F g w9 fS fL fR fT sp fO x9 y9 hD hFS) (cwV 2 hts gL_copy_X6_copy rfl rfl rfl (by decide +kernel) ⟨Nat.le_of_ble_eq_true rfl, Nat.le_of_ble_eq_true rfl⟩) ⟨KX.blind, hP.recv hK rfl (hD.1), fun U9 hU9 hW9 => ⟨rfl, KW.pre hBs hKK hS hP U9 hU9 hW9, hDc.at hW9⟩⟩ rfl rfl hl.1 rfl (lv_room (Nat.le_of_ble_eq_true rfl)) dL_copy_3 ⟨(Nat.le_of_ble_eq_true rfl), (Nat.le_of_ble_eq_true rfl)⟩) hS (fun E ce q9 H locs hce hP hS h91 h92 h93 => ?_) (fun m3 H locs hq9 hP hz9 hS => ?_)
  · obtain ⟨eE, hno⟩ := hce
    subst eE
    refine vx_catch (own := RL) (name := exA) hown [] ⟨0, 6, 9, 13⟩ [] (htab.trans rfl) (fun z9 hz9 => nomatch hz9) (by decide) (by decide) (hts (.classLink RL 13 exA) (by decide +kernel)) (va_Nw.use rfl hKK.2.2.2.2.1.1) h91 h92 h93 ?_
    refine lv_astore_n (lv' := [(3, .ref q9), (0, .ref d), (1, .int x9), (2, .int y9)]) hx hb dL_copy_9 rfl hl (by decide) rfl (fun ls hl => ?_)
    refine lv_iconst (v := nI 1) hx hb dL_copy_10 (by decide) ?_
    rw [hQ]
    refine vx_ret ?_
    refine W.widen (k := 5) (n := 30) (by omega) (by omega) ?_
    exact W.iret (v := nI 1) hx hb hr (fun t99 ht99 hW99 => ⟨⟨nI 1, μ, rfl, (⟨fun a e h1 _ => h1, Or.inr ⟨rfl, hno⟩⟩), by show mw _ _ _ _ t99.heap; rw [ht99]; exact hP⟩, hS.F ht99⟩) hS.2.2 dL_copy_11
  obtain ⟨ho1, ho2, hR⟩ := hq9
  have hok : okS x9 ∧ okS y9 := ⟨ho1, ho2⟩
  refine lv_goto (tgt := 12) hx hb dL_copy_6 (by decide) ?_
  refine lv_iconst (v := nI 0) hx hb dL_copy_12 (by decide) ?_
  rw [hQ]
  refine vx_ret ?_
  refine W.widen (k := 5) (n := 30) (by omega) (by omega) ?_
  exact W.iret (v := nI 0) hx hb hr (fun t99 ht99 hW99 => ⟨⟨nI 0, m3, rfl, (⟨fun a e h1 h3 => hR.at h1 h3, Or.inl ⟨rfl, hok⟩⟩), by show mw _ _ _ _ t99.heap; rw [ht99]; exact hP⟩, hS.F ht99⟩) hS.2.2 dL_copy_13

abbrev rm_L_join : Room := { frames := 9, cells := 5, slots := 30, locals := 165 }
set_option maxHeartbeats 4000000 in
set_option maxRecDepth 100000 in
theorem c_L_join (l : Launch) (hlt : l.stackTraces = false) (G : GG) (B : Nat) (μ : mp) (d aS aL aR aT aO bn nn s9 lo : Nat) (nf : List Value) (sa la bE : Nat → Nat) (F : Nat → Nat → Int64) (g : Nat → Int64) (w9 : Nat → Int32) (fS fL fR fT : Nat → Option Nat) (sp : Nat → Nat) (fO : Nat → Int64) (x9 y9 z9 : Int32) (hD : DK G μ d aS aL aR aT aO bn nn s9 lo 0 nf sa la bE F g w9 fS fL fR fT sp fO) (hFS : FS F bE g) : vx_Met l yL_join wsL_join rm_L_join (va_Pc [.ref d, .int x9, .int y9, .int z9] (KX G B μ)) (va_Qi (fun r μ2 => (∀ (a : Nat) (e : va_E), μ a = some e → Apt d aO s9 lo sa la sp a → μ2 a = some e) ∧ ((r = 0 ∧ (okS x9 ∧ okS y9 ∧ okS z9)) ∨ (r = 1 ∧ ¬ (okS x9 ∧ okS y9 ∧ okS z9)))) (BB G B) (fun q => B ≤ q)) (XX G B μ (fun _ => False)) 5 30 (fun q => B ≤ q) := by
  refine vx_ofWH (cc := cL_join) (maxL := 5) (ret := (some .int)) (by decide) rfl ?_
  intro p e s m args below meth c s₁ B9 hml hv
  obtain ⟨hargs, ⟨hBs, hP, hKK⟩, hDc⟩ := hv
  have hx := B9.exec
  have hb := B9.bytes
  have hr := B9.returns
  have hts := atoms_spec (ws := wsL_join) B9.pre
  have hown : s.vm.findClass RL = some m.cls := findClass_of_methodNamed B9.named
  have htab := vx_table (x := yL_join) B9 (hts (.codeWith yL_join cL_join 5 (some .int) [(0, 7, 10, 13)]) (by decide +kernel))
  have hlocks := B9.notSynchronized
  have hK := hKK.k
  have hS : va_S (fun q => B ≤ q) s.heap s.heap [] := va_S.rf
  obtain ⟨Q, hQ⟩ : ∃ Q, Q = vx_MQ below (va_Qi (fun r μ2 => (∀ (a : Nat) (e : va_E), μ a = some e → Apt d aO s9 lo sa la sp a → μ2 a = some e) ∧ ((r = 0 ∧ (okS x9 ∧ okS y9 ∧ okS z9)) ∨ (r = 1 ∧ ¬ (okS x9 ∧ okS y9 ∧ okS z9)))) (BB G B) (fun q => B ≤ q)) (XX G B μ (fun _ => False)) args s 5 30 (fun q => B ≤ q) := ⟨_, rfl⟩
  rw [← hQ]
  have hl := lv_entry ([.ref d, .int x9, .int y9, .int z9]) (n := 5) (Nat.le_of_ble_eq_true rfl)
  have he9 : entryFrame m args 5 = entryFrame m ([.ref d, .int x9, .int y9, .int z9] : List Value).toArray 5 := by rw [hargs]
  rw [he9, lg_entry_eq]
  generalize (lg_sl ([.ref d, .int x9, .int y9, .int z9]) ++ List.replicate (5 - (lg_sl ([.ref d, .int x9, .int y9, .int z9])).length) Slot.unset).toArray = ls at hl ⊢
  have hl : lv_has ls 5 [(0, .ref d), (1, .int x9), (2, .int y9), (3, .int z9)] := hl
  refine lv_aload_n hx hb dL_join_0 rfl (lv_at hl 0 rfl) ?_
  refine lv_iload_n hx hb dL_join_1 rfl (lv_at hl 1 rfl) ?_
  refine lv_iload_n hx hb dL_join_2 rfl (lv_at hl 2 rfl) ?_
  refine lv_iload_n hx hb dL_join_3 rfl (lv_at hl 3 rfl) ?_
  refine kx_v (vx_runV (As := [.int x9, .int y9, .int z9]) (rest := []) ⟨hx, hb, hml, hown, hts⟩ (c_X6_join l hlt G B (μ) d aS aL aR aT aO bn nn s9 lo 0 nf sa la bE F g w9 fS fL fR fT sp fO x9 y9 z9 hD hFS) (cwV 3 hts gL_join_X6_join rfl rfl rfl (by decide +kernel) ⟨Nat.le_of_ble_eq_true rfl, Nat.le_of_ble_eq_true rfl⟩) ⟨KX.blind, hP.recv hK rfl (hD.1), fun U9 hU9 hW9 => ⟨rfl, KW.pre hBs hKK hS hP U9 hU9 hW9, hDc.at hW9⟩⟩ rfl rfl hl.1 rfl (lv_room (Nat.le_of_ble_eq_true rfl)) dL_join_4 ⟨(Nat.le_of_ble_eq_true rfl), (Nat.le_of_ble_eq_true rfl)⟩) hS (fun E ce q9 H locs hce hP hS h91 h92 h93 => ?_) (fun m4 H locs hq9 hP hz9 hS => ?_)
  · obtain ⟨eE, hno⟩ := hce
    subst eE
    refine vx_catch (own := RL) (name := exA) hown [] ⟨0, 7, 10, 13⟩ [] (htab.trans rfl) (fun z9 hz9 => nomatch hz9) (by decide) (by decide) (hts (.classLink RL 13 exA) (by decide +kernel)) (va_Nw.use rfl hKK.2.2.2.2.1.1) h91 h92 h93 ?_
    refine lv_astore (lv' := [(4, .ref q9), (0, .ref d), (1, .int x9), (2, .int y9), (3, .int z9)]) hx hb dL_join_10 hl (by decide) rfl (fun ls hl => ?_)
    refine lv_iconst (v := nI 1) hx hb dL_join_12 (by decide) ?_
    rw [hQ]
    refine vx_ret ?_
    refine W.widen (k := 5) (n := 30) (by omega) (by omega) ?_
    exact W.iret (v := nI 1) hx hb hr (fun t99 ht99 hW99 => ⟨⟨nI 1, μ, rfl, (⟨fun a e h1 _ => h1, Or.inr ⟨rfl, hno⟩⟩), by show mw _ _ _ _ t99.heap; rw [ht99]; exact hP⟩, hS.F ht99⟩) hS.2.2 dL_join_13
  obtain ⟨hok, hR⟩ := hq9
  refine lv_goto (tgt := 14) hx hb dL_join_7 (by decide) ?_
  refine lv_iconst (v := nI 0) hx hb dL_join_14 (by decide) ?_
  rw [hQ]
  refine vx_ret ?_
  refine W.widen (k := 5) (n := 30) (by omega) (by omega) ?_
  exact W.iret (v := nI 0) hx hb hr (fun t99 ht99 hW99 => ⟨⟨nI 0, m4, rfl, (⟨fun a e h1 h3 => hR.at h1 h3, Or.inl ⟨rfl, hok⟩⟩), by show mw _ _ _ _ t99.heap; rw [ht99]; exact hP⟩, hS.F ht99⟩) hS.2.2 dL_join_15

abbrev rm_L_widen : Room := { frames := 9, cells := 5, slots := 30, locals := 165 }
set_option maxHeartbeats 4000000 in
set_option maxRecDepth 100000 in
theorem c_L_widen (l : Launch) (hlt : l.stackTraces = false) (G : GG) (B : Nat) (μ : mp) (d aS aL aR aT aO bn nn s9 lo : Nat) (nf : List Value) (sa la bE : Nat → Nat) (F : Nat → Nat → Int64) (g : Nat → Int64) (w9 : Nat → Int32) (fS fL fR fT : Nat → Option Nat) (sp : Nat → Nat) (fO : Nat → Int64) (x9 y9 z9 : Int32) (hD : DK G μ d aS aL aR aT aO bn nn s9 lo 0 nf sa la bE F g w9 fS fL fR fT sp fO) (hFS : FS F bE g) : vx_Met l yL_widen wsL_widen rm_L_widen (va_Pc [.ref d, .int x9, .int y9, .int z9] (KX G B μ)) (va_Qi (fun r μ2 => (∀ (a : Nat) (e : va_E), μ a = some e → Apt d aO s9 lo sa la sp a → μ2 a = some e) ∧ ((r = 0 ∧ (okS x9 ∧ okS y9 ∧ okS z9)) ∨ (r = 1 ∧ ¬ (okS x9 ∧ okS y9 ∧ okS z9)))) (BB G B) (fun q => B ≤ q)) (XX G B μ (fun _ => False)) 5 30 (fun q => B ≤ q) := by
  refine vx_ofWH (cc := cL_widen) (maxL := 5) (ret := (some .int)) (by decide) rfl ?_
  intro p e s m args below meth c s₁ B9 hml hv
  obtain ⟨hargs, ⟨hBs, hP, hKK⟩, hDc⟩ := hv
  have hx := B9.exec
  have hb := B9.bytes
  have hr := B9.returns
  have hts := atoms_spec (ws := wsL_widen) B9.pre
  have hown : s.vm.findClass RL = some m.cls := findClass_of_methodNamed B9.named
  have htab := vx_table (x := yL_widen) B9 (hts (.codeWith yL_widen cL_widen 5 (some .int) [(0, 7, 10, 13)]) (by decide +kernel))
  have hlocks := B9.notSynchronized
  have hK := hKK.k
  have hS : va_S (fun q => B ≤ q) s.heap s.heap [] := va_S.rf
  obtain ⟨Q, hQ⟩ : ∃ Q, Q = vx_MQ below (va_Qi (fun r μ2 => (∀ (a : Nat) (e : va_E), μ a = some e → Apt d aO s9 lo sa la sp a → μ2 a = some e) ∧ ((r = 0 ∧ (okS x9 ∧ okS y9 ∧ okS z9)) ∨ (r = 1 ∧ ¬ (okS x9 ∧ okS y9 ∧ okS z9)))) (BB G B) (fun q => B ≤ q)) (XX G B μ (fun _ => False)) args s 5 30 (fun q => B ≤ q) := ⟨_, rfl⟩
  rw [← hQ]
  have hl := lv_entry ([.ref d, .int x9, .int y9, .int z9]) (n := 5) (Nat.le_of_ble_eq_true rfl)
  have he9 : entryFrame m args 5 = entryFrame m ([.ref d, .int x9, .int y9, .int z9] : List Value).toArray 5 := by rw [hargs]
  rw [he9, lg_entry_eq]
  generalize (lg_sl ([.ref d, .int x9, .int y9, .int z9]) ++ List.replicate (5 - (lg_sl ([.ref d, .int x9, .int y9, .int z9])).length) Slot.unset).toArray = ls at hl ⊢
  have hl : lv_has ls 5 [(0, .ref d), (1, .int x9), (2, .int y9), (3, .int z9)] := hl
  refine lv_aload_n hx hb dL_widen_0 rfl (lv_at hl 0 rfl) ?_
  refine lv_iload_n hx hb dL_widen_1 rfl (lv_at hl 1 rfl) ?_
  refine lv_iload_n hx hb dL_widen_2 rfl (lv_at hl 2 rfl) ?_
  refine lv_iload_n hx hb dL_widen_3 rfl (lv_at hl 3 rfl) ?_
  refine kx_v (vx_runV (As := [.int x9, .int y9, .int z9]) (rest := []) ⟨hx, hb, hml, hown, hts⟩ (c_X6_widen l hlt G B (μ) d aS aL aR aT aO bn nn s9 lo 0 nf sa la bE F g w9 fS fL fR fT sp fO x9 y9 z9 hD hFS) (cwV 3 hts gL_widen_X6_widen rfl rfl rfl (by decide +kernel) ⟨Nat.le_of_ble_eq_true rfl, Nat.le_of_ble_eq_true rfl⟩) ⟨KX.blind, hP.recv hK rfl (hD.1), fun U9 hU9 hW9 => ⟨rfl, KW.pre hBs hKK hS hP U9 hU9 hW9, hDc.at hW9⟩⟩ rfl rfl hl.1 rfl (lv_room (Nat.le_of_ble_eq_true rfl)) dL_widen_4 ⟨(Nat.le_of_ble_eq_true rfl), (Nat.le_of_ble_eq_true rfl)⟩) hS (fun E ce q9 H locs hce hP hS h91 h92 h93 => ?_) (fun m4 H locs hq9 hP hz9 hS => ?_)
  · obtain ⟨eE, hno⟩ := hce
    subst eE
    refine vx_catch (own := RL) (name := exA) hown [] ⟨0, 7, 10, 13⟩ [] (htab.trans rfl) (fun z9 hz9 => nomatch hz9) (by decide) (by decide) (hts (.classLink RL 13 exA) (by decide +kernel)) (va_Nw.use rfl hKK.2.2.2.2.1.1) h91 h92 h93 ?_
    refine lv_astore (lv' := [(4, .ref q9), (0, .ref d), (1, .int x9), (2, .int y9), (3, .int z9)]) hx hb dL_widen_10 hl (by decide) rfl (fun ls hl => ?_)
    refine lv_iconst (v := nI 1) hx hb dL_widen_12 (by decide) ?_
    rw [hQ]
    refine vx_ret ?_
    refine W.widen (k := 5) (n := 30) (by omega) (by omega) ?_
    exact W.iret (v := nI 1) hx hb hr (fun t99 ht99 hW99 => ⟨⟨nI 1, μ, rfl, (⟨fun a e h1 _ => h1, Or.inr ⟨rfl, hno⟩⟩), by show mw _ _ _ _ t99.heap; rw [ht99]; exact hP⟩, hS.F ht99⟩) hS.2.2 dL_widen_13
  obtain ⟨hok, hR⟩ := hq9
  refine lv_goto (tgt := 14) hx hb dL_widen_7 (by decide) ?_
  refine lv_iconst (v := nI 0) hx hb dL_widen_14 (by decide) ?_
  rw [hQ]
  refine vx_ret ?_
  refine W.widen (k := 5) (n := 30) (by omega) (by omega) ?_
  exact W.iret (v := nI 0) hx hb hr (fun t99 ht99 hW99 => ⟨⟨nI 0, m4, rfl, (⟨fun a e h1 h3 => hR.at h1 h3, Or.inl ⟨rfl, hok⟩⟩), by show mw _ _ _ _ t99.heap; rw [ht99]; exact hP⟩, hS.F ht99⟩) hS.2.2 dL_widen_15

abbrev rm_L_forget : Room := { frames := 8, cells := 5, slots := 30, locals := 142 }
set_option maxHeartbeats 4000000 in
set_option maxRecDepth 100000 in
theorem c_L_forget (l : Launch) (hlt : l.stackTraces = false) (G : GG) (B : Nat) (μ : mp) (d aS aL aR aT aO bn nn s9 lo : Nat) (nf : List Value) (sa la bE : Nat → Nat) (F : Nat → Nat → Int64) (g : Nat → Int64) (w9 : Nat → Int32) (fS fL fR fT : Nat → Option Nat) (sp : Nat → Nat) (fO : Nat → Int64) (x9 y9 : Int32) (hD : DK G μ d aS aL aR aT aO bn nn s9 lo 0 nf sa la bE F g w9 fS fL fR fT sp fO) (hFS : FS F bE g) : vx_Met l yL_forget wsL_forget rm_L_forget (va_Pc [.ref d, .int x9, .int y9] (KX G B μ)) (va_Qi (fun r μ2 => (∀ (a : Nat) (e : va_E), μ a = some e → Apt d aO s9 lo sa la sp a → μ2 a = some e) ∧ ((r = 0 ∧ (okS x9 ∧ okS y9)) ∨ (r = 1 ∧ ¬ (okS x9 ∧ okS y9)))) (BB G B) (fun q => B ≤ q)) (XX G B μ (fun _ => False)) 5 30 (fun q => B ≤ q) := by
  refine vx_ofWH (cc := cL_forget) (maxL := 4) (ret := (some .int)) (by decide) rfl ?_
  intro p e s m args below meth c s₁ B9 hml hv
  obtain ⟨hargs, ⟨hBs, hP, hKK⟩, hDc⟩ := hv
  have hx := B9.exec
  have hb := B9.bytes
  have hr := B9.returns
  have hts := atoms_spec (ws := wsL_forget) B9.pre
  have hown : s.vm.findClass RL = some m.cls := findClass_of_methodNamed B9.named
  have htab := vx_table (x := yL_forget) B9 (hts (.codeWith yL_forget cL_forget 4 (some .int) [(0, 6, 9, 13)]) (by decide +kernel))
  have hlocks := B9.notSynchronized
  have hK := hKK.k
  have hS : va_S (fun q => B ≤ q) s.heap s.heap [] := va_S.rf
  obtain ⟨Q, hQ⟩ : ∃ Q, Q = vx_MQ below (va_Qi (fun r μ2 => (∀ (a : Nat) (e : va_E), μ a = some e → Apt d aO s9 lo sa la sp a → μ2 a = some e) ∧ ((r = 0 ∧ (okS x9 ∧ okS y9)) ∨ (r = 1 ∧ ¬ (okS x9 ∧ okS y9)))) (BB G B) (fun q => B ≤ q)) (XX G B μ (fun _ => False)) args s 5 30 (fun q => B ≤ q) := ⟨_, rfl⟩
  rw [← hQ]
  have hl := lv_entry ([.ref d, .int x9, .int y9]) (n := 4) (Nat.le_of_ble_eq_true rfl)
  have he9 : entryFrame m args 4 = entryFrame m ([.ref d, .int x9, .int y9] : List Value).toArray 4 := by rw [hargs]
  rw [he9, lg_entry_eq]
  generalize (lg_sl ([.ref d, .int x9, .int y9]) ++ List.replicate (4 - (lg_sl ([.ref d, .int x9, .int y9])).length) Slot.unset).toArray = ls at hl ⊢
  have hl : lv_has ls 4 [(0, .ref d), (1, .int x9), (2, .int y9)] := hl
  refine lv_aload_n hx hb dL_forget_0 rfl (lv_at hl 0 rfl) ?_
  refine lv_iload_n hx hb dL_forget_1 rfl (lv_at hl 1 rfl) ?_
  refine lv_iload_n hx hb dL_forget_2 rfl (lv_at hl 2 rfl) ?_
  refine kx_v (vx_runV (As := [.int x9, .int y9]) (rest := []) ⟨hx, hb, hml, hown, hts⟩ (c_X6_forget l hlt G B (μ) d aS aL aR aT aO bn nn s9 lo 0 nf sa la bE F g w9 fS fL fR fT sp fO x9 y9 hD hFS) (cwV 2 hts gL_forget_X6_forget rfl rfl rfl (by decide +kernel) ⟨Nat.le_of_ble_eq_true rfl, Nat.le_of_ble_eq_true rfl⟩) ⟨KX.blind, hP.recv hK rfl (hD.1), fun U9 hU9 hW9 => ⟨rfl, KW.pre hBs hKK hS hP U9 hU9 hW9, hDc.at hW9⟩⟩ rfl rfl hl.1 rfl (lv_room (Nat.le_of_ble_eq_true rfl)) dL_forget_3 ⟨(Nat.le_of_ble_eq_true rfl), (Nat.le_of_ble_eq_true rfl)⟩) hS (fun E ce q9 H locs hce hP hS h91 h92 h93 => ?_) (fun m3 H locs hq9 hP hz9 hS => ?_)
  · obtain ⟨eE, hno⟩ := hce
    subst eE
    refine vx_catch (own := RL) (name := exA) hown [] ⟨0, 6, 9, 13⟩ [] (htab.trans rfl) (fun z9 hz9 => nomatch hz9) (by decide) (by decide) (hts (.classLink RL 13 exA) (by decide +kernel)) (va_Nw.use rfl hKK.2.2.2.2.1.1) h91 h92 h93 ?_
    refine lv_astore_n (lv' := [(3, .ref q9), (0, .ref d), (1, .int x9), (2, .int y9)]) hx hb dL_forget_9 rfl hl (by decide) rfl (fun ls hl => ?_)
    refine lv_iconst (v := nI 1) hx hb dL_forget_10 (by decide) ?_
    rw [hQ]
    refine vx_ret ?_
    refine W.widen (k := 5) (n := 30) (by omega) (by omega) ?_
    exact W.iret (v := nI 1) hx hb hr (fun t99 ht99 hW99 => ⟨⟨nI 1, μ, rfl, (⟨fun a e h1 _ => h1, Or.inr ⟨rfl, hno⟩⟩), by show mw _ _ _ _ t99.heap; rw [ht99]; exact hP⟩, hS.F ht99⟩) hS.2.2 dL_forget_11
  obtain ⟨ho1, ho2, hR⟩ := hq9
  have hok : okS x9 ∧ okS y9 := ⟨ho1, ho2⟩
  refine lv_goto (tgt := 12) hx hb dL_forget_6 (by decide) ?_
  refine lv_iconst (v := nI 0) hx hb dL_forget_12 (by decide) ?_
  rw [hQ]
  refine vx_ret ?_
  refine W.widen (k := 5) (n := 30) (by omega) (by omega) ?_
  exact W.iret (v := nI 0) hx hb hr (fun t99 ht99 hW99 => ⟨⟨nI 0, m3, rfl, (⟨fun a e h1 h3 => hR.at h1 h3, Or.inl ⟨rfl, hok⟩⟩), by show mw _ _ _ _ t99.heap; rw [ht99]; exact hP⟩, hS.F ht99⟩) hS.2.2 dL_forget_13

abbrev rm_L_act : Room := { frames := 10, cells := 5, slots := 30, locals := 189 }
set_option maxHeartbeats 4000000 in
set_option maxRecDepth 100000 in
theorem c_L_act (l : Launch) (hlt : l.stackTraces = false) (G : GG) (B : Nat) (μ : mp) (d aS aL aR aT aO bn nn s9 lo : Nat) (nf : List Value) (sa la bE : Nat → Nat) (F : Nat → Nat → Int64) (g : Nat → Int64) (w9 : Nat → Int32) (fS fL fR fT : Nat → Option Nat) (sp : Nat → Nat) (fO : Nat → Int64) (x9 k9 a9 b9 c9 : Int32) (ou : Nat) (fo : Nat → Int64) (hD : DK G μ d aS aL aR aT aO bn nn s9 lo 0 nf sa la bE F g w9 fS fL fR fT sp fO) (hFS : FS F bE g) (hou : μ ou = some (.inl (G.2 0, 1, .inr (.inl fo)))) (hap : Apt d aO s9 lo sa la sp ou) : vx_Met l yL_act wsL_act rm_L_act (va_Pc [.ref d, .int x9, .int k9, .int a9, .int b9, .int c9, .ref ou] (KX G B μ)) (va_Qi (fun r μ2 => (∀ (a : Nat) (e : va_E), μ a = some e → a ≠ ou → Apt d aO s9 lo sa la sp a → μ2 a = some e) ∧ ∃ fo9 : Nat → Int64, μ2 ou = some (.inl (G.2 0, 1, .inr (.inl fo9))) ∧ ((r = 0 ∧ (okS x9 ∧ okA k9 a9 b9 c9) ∧ fo9 0 = 1) ∨ (r = 1 ∧ ¬ (okS x9 ∧ okA k9 a9 b9 c9)))) (BB G B) (fun q => B ≤ q)) (XX G B μ (fun _ => False)) 5 30 (fun q => B ≤ q) := by
  refine vx_ofWH (cc := cL_act) (maxL := 8) (ret := (some .int)) (by decide) rfl ?_
  intro p e s m args below meth c s₁ B9 hml hv
  obtain ⟨hargs, ⟨hBs, hP, hKK⟩, hDc⟩ := hv
  have hx := B9.exec
  have hb := B9.bytes
  have hr := B9.returns
  have hts := atoms_spec (ws := wsL_act) B9.pre
  have hown : s.vm.findClass RL = some m.cls := findClass_of_methodNamed B9.named
  have htab := vx_table (x := yL_act) B9 (hts (.codeWith yL_act cL_act 8 (some .int) [(0, 23, 26, 13)]) (by decide +kernel))
  have hlocks := B9.notSynchronized
  have hK := hKK.k
  have hS : va_S (fun q => B ≤ q) s.heap s.heap [] := va_S.rf
  obtain ⟨Q, hQ⟩ : ∃ Q, Q = vx_MQ below (va_Qi (fun r μ2 => (∀ (a : Nat) (e : va_E), μ a = some e → a ≠ ou → Apt d aO s9 lo sa la sp a → μ2 a = some e) ∧ ∃ fo9 : Nat → Int64, μ2 ou = some (.inl (G.2 0, 1, .inr (.inl fo9))) ∧ ((r = 0 ∧ (okS x9 ∧ okA k9 a9 b9 c9) ∧ fo9 0 = 1) ∨ (r = 1 ∧ ¬ (okS x9 ∧ okA k9 a9 b9 c9)))) (BB G B) (fun q => B ≤ q)) (XX G B μ (fun _ => False)) args s 5 30 (fun q => B ≤ q) := ⟨_, rfl⟩
  rw [← hQ]
  have hl := lv_entry ([.ref d, .int x9, .int k9, .int a9, .int b9, .int c9, .ref ou]) (n := 8) (Nat.le_of_ble_eq_true rfl)
  have he9 : entryFrame m args 8 = entryFrame m ([.ref d, .int x9, .int k9, .int a9, .int b9, .int c9, .ref ou] : List Value).toArray 8 := by rw [hargs]
  rw [he9, lg_entry_eq]
  generalize (lg_sl ([.ref d, .int x9, .int k9, .int a9, .int b9, .int c9, .ref ou]) ++ List.replicate (8 - (lg_sl ([.ref d, .int x9, .int k9, .int a9, .int b9, .int c9, .ref ou])).length) Slot.unset).toArray = ls at hl ⊢
  have hl : lv_has ls 8 [(0, .ref d), (1, .int x9), (2, .int k9), (3, .int a9), (4, .int b9), (5, .int c9), (6, .ref ou)] := hl
  refine lv_aload hx hb dL_act_0 (lv_at hl 6 rfl) ?_
  refine lv_iconst (v := nI 0) hx hb dL_act_2 (by decide) ?_
  refine lv_aload_n hx hb dL_act_3 rfl (lv_at hl 0 rfl) ?_
  refine lv_iload_n hx hb dL_act_4 rfl (lv_at hl 1 rfl) ?_
  refine lv_iload_n hx hb dL_act_5 rfl (lv_at hl 2 rfl) ?_
  refine lv_iload_n hx hb dL_act_6 rfl (lv_at hl 3 rfl) ?_
  refine lv_iload hx hb dL_act_7 (lv_at hl 4 rfl) ?_
  refine lv_iload hx hb dL_act_9 (lv_at hl 5 rfl) ?_
  refine kx_i (vx_runV (As := [.int x9, .int k9, .int a9, .int b9, .int c9]) (rest := [.int (nI 0), .ref ou]) ⟨hx, hb, hml, hown, hts⟩ (c_X6_act l hlt G B (μ) d aS aL aR aT aO bn nn s9 lo 0 nf sa la bE F g w9 fS fL fR fT sp fO x9 k9 a9 b9 c9 hD hFS) (cwV 5 hts gL_act_X6_act rfl rfl rfl (by decide +kernel) ⟨Nat.le_of_ble_eq_true rfl, Nat.le_of_ble_eq_true rfl⟩) ⟨KX.blind, hP.recv hK rfl (hD.1), fun U9 hU9 hW9 => ⟨rfl, KW.pre hBs hKK hS hP U9 hU9 hW9, hDc.at hW9⟩⟩ rfl rfl hl.1 rfl (lv_room (Nat.le_of_ble_eq_true rfl)) dL_act_11 ⟨(Nat.le_of_ble_eq_true rfl), (Nat.le_of_ble_eq_true rfl)⟩) hS (fun E ce q9 H locs hce hP hS h91 h92 h93 => ?_) (fun r11 m11 H locs hq9 hP hz9 hS => ?_)
  · obtain ⟨eE, hno⟩ := hce
    subst eE
    refine vx_catch (own := RL) (name := exA) hown [] ⟨0, 23, 26, 13⟩ [] (htab.trans rfl) (fun z9 hz9 => nomatch hz9) (by decide) (by decide) (hts (.classLink RL 13 exA) (by decide +kernel)) (va_Nw.use rfl hKK.2.2.2.2.1.1) h91 h92 h93 ?_
    refine lv_astore (lv' := [(7, .ref q9), (0, .ref d), (1, .int x9), (2, .int k9), (3, .int a9), (4, .int b9), (5, .int c9), (6, .ref ou)]) hx hb dL_act_26 hl (by decide) rfl (fun ls hl => ?_)
    refine lv_iconst (v := nI 1) hx hb dL_act_28 (by decide) ?_
    rw [hQ]
    refine vx_ret ?_
    refine W.widen (k := 5) (n := 30) (by omega) (by omega) ?_
    exact W.iret (v := nI 1) hx hb hr (fun t99 ht99 hW99 => ⟨⟨nI 1, μ, rfl, (⟨fun a e h1 _ _ => h1, _, hou, Or.inr ⟨rfl, hno⟩⟩), by show mw _ _ _ _ t99.heap; rw [ht99]; exact hP⟩, hS.F ht99⟩) hS.2.2 dL_act_29
  obtain ⟨ho1, ho2, hrv, hR⟩ := hq9
  have hok : okS x9 ∧ okA k9 a9 b9 c9 := ⟨ho1, ho2⟩
  have hou1 := hR.at hou hap
  obtain rfl : r11 = nI 1 := hrv
  refine lv_if_eq (tgt := 21) hx hb dL_act_14 (by decide) (fun hc14 => ?_) (fun hc14 => ?_)
  · exact absurd hc14 (by decide)
  · refine lv_lconst (v := 1) hx hb dL_act_17 (by decide) ?_
    refine lv_goto (tgt := 22) hx hb dL_act_18 (by decide) ?_
    refine mw_last hx hb hK hP hS 0 (hou1) rfl (by omega) (by omega) dL_act_22 (fun H locs hP hS => ?_)
    have hP : mw G.1 vwCl B (mu m11 ou (.inl (G.2 0, 1, .inr (.inl (vp_updL fo 0 1))))) _ := hP
    refine lv_goto (tgt := 30) hx hb dL_act_23 (by decide) ?_
    refine lv_iconst (v := nI 0) hx hb dL_act_30 (by decide) ?_
    rw [hQ]
    refine vx_ret ?_
    refine W.widen (k := 5) (n := 30) (by omega) (by omega) ?_
    exact W.iret (v := nI 0) hx hb hr (fun t99 ht99 hW99 => ⟨⟨nI 0, mu m11 ou (.inl (G.2 0, 1, .inr (.inl (vp_updL fo 0 1)))), rfl, (⟨fun a e h1 h2 h3 => (mu_n h2).trans (hR.at h1 h3), _, mu_s _ _ _, Or.inl ⟨rfl, hok, pk_uLs.trans (by first | rfl | decide | (subst_vars; decide))⟩⟩), by show mw _ _ _ _ t99.heap; rw [ht99]; exact hP⟩, hS.F ht99⟩) hS.2.2 dL_act_31

abbrev rm_L_meet : Room := { frames := 9, cells := 5, slots := 30, locals := 165 }
set_option maxHeartbeats 4000000 in
set_option maxRecDepth 100000 in
theorem c_L_meet (l : Launch) (hlt : l.stackTraces = false) (G : GG) (B : Nat) (μ : mp) (d aS aL aR aT aO bn nn s9 lo : Nat) (nf : List Value) (sa la bE : Nat → Nat) (F : Nat → Nat → Int64) (g : Nat → Int64) (w9 : Nat → Int32) (fS fL fR fT : Nat → Option Nat) (sp : Nat → Nat) (fO : Nat → Int64) (x9 y9 z9 : Int32) (ou : Nat) (fo : Nat → Int64) (hD : DK G μ d aS aL aR aT aO bn nn s9 lo 0 nf sa la bE F g w9 fS fL fR fT sp fO) (hFS : FS F bE g) (hou : μ ou = some (.inl (G.2 0, 1, .inr (.inl fo)))) (hap : Apt d aO s9 lo sa la sp ou) : vx_Met l yL_meet wsL_meet rm_L_meet (va_Pc [.ref d, .int x9, .int y9, .int z9, .ref ou] (KX G B μ)) (va_Qi (fun r μ2 => (∀ (a : Nat) (e : va_E), μ a = some e → a ≠ ou → Apt d aO s9 lo sa la sp a → μ2 a = some e) ∧ ∃ fo9 : Nat → Int64, μ2 ou = some (.inl (G.2 0, 1, .inr (.inl fo9))) ∧ ((r = 0 ∧ (okS x9 ∧ okS y9 ∧ okS z9) ∧ fo9 0 = 1) ∨ (r = 1 ∧ ¬ (okS x9 ∧ okS y9 ∧ okS z9)))) (BB G B) (fun q => B ≤ q)) (XX G B μ (fun _ => False)) 5 30 (fun q => B ≤ q) := by
  refine vx_ofWH (cc := cL_meet) (maxL := 6) (ret := (some .int)) (by decide) rfl ?_
  intro p e s m args below meth c s₁ B9 hml hv
  obtain ⟨hargs, ⟨hBs, hP, hKK⟩, hDc⟩ := hv
  have hx := B9.exec
  have hb := B9.bytes
  have hr := B9.returns
  have hts := atoms_spec (ws := wsL_meet) B9.pre
  have hown : s.vm.findClass RL = some m.cls := findClass_of_methodNamed B9.named
  have htab := vx_table (x := yL_meet) B9 (hts (.codeWith yL_meet cL_meet 6 (some .int) [(0, 19, 22, 13)]) (by decide +kernel))
  have hlocks := B9.notSynchronized
  have hK := hKK.k
  have hS : va_S (fun q => B ≤ q) s.heap s.heap [] := va_S.rf
  obtain ⟨Q, hQ⟩ : ∃ Q, Q = vx_MQ below (va_Qi (fun r μ2 => (∀ (a : Nat) (e : va_E), μ a = some e → a ≠ ou → Apt d aO s9 lo sa la sp a → μ2 a = some e) ∧ ∃ fo9 : Nat → Int64, μ2 ou = some (.inl (G.2 0, 1, .inr (.inl fo9))) ∧ ((r = 0 ∧ (okS x9 ∧ okS y9 ∧ okS z9) ∧ fo9 0 = 1) ∨ (r = 1 ∧ ¬ (okS x9 ∧ okS y9 ∧ okS z9)))) (BB G B) (fun q => B ≤ q)) (XX G B μ (fun _ => False)) args s 5 30 (fun q => B ≤ q) := ⟨_, rfl⟩
  rw [← hQ]
  have hl := lv_entry ([.ref d, .int x9, .int y9, .int z9, .ref ou]) (n := 6) (Nat.le_of_ble_eq_true rfl)
  have he9 : entryFrame m args 6 = entryFrame m ([.ref d, .int x9, .int y9, .int z9, .ref ou] : List Value).toArray 6 := by rw [hargs]
  rw [he9, lg_entry_eq]
  generalize (lg_sl ([.ref d, .int x9, .int y9, .int z9, .ref ou]) ++ List.replicate (6 - (lg_sl ([.ref d, .int x9, .int y9, .int z9, .ref ou])).length) Slot.unset).toArray = ls at hl ⊢
  have hl : lv_has ls 6 [(0, .ref d), (1, .int x9), (2, .int y9), (3, .int z9), (4, .ref ou)] := hl
  refine lv_aload hx hb dL_meet_0 (lv_at hl 4 rfl) ?_
  refine lv_iconst (v := nI 0) hx hb dL_meet_2 (by decide) ?_
  refine lv_aload_n hx hb dL_meet_3 rfl (lv_at hl 0 rfl) ?_
  refine lv_iload_n hx hb dL_meet_4 rfl (lv_at hl 1 rfl) ?_
  refine lv_iload_n hx hb dL_meet_5 rfl (lv_at hl 2 rfl) ?_
  refine lv_iload_n hx hb dL_meet_6 rfl (lv_at hl 3 rfl) ?_
  refine kx_i (vx_runV (As := [.int x9, .int y9, .int z9]) (rest := [.int (nI 0), .ref ou]) ⟨hx, hb, hml, hown, hts⟩ (c_X6_meet l hlt G B (μ) d aS aL aR aT aO bn nn s9 lo 0 nf sa la bE F g w9 fS fL fR fT sp fO x9 y9 z9 hD hFS) (cwV 3 hts gL_meet_X6_meet rfl rfl rfl (by decide +kernel) ⟨Nat.le_of_ble_eq_true rfl, Nat.le_of_ble_eq_true rfl⟩) ⟨KX.blind, hP.recv hK rfl (hD.1), fun U9 hU9 hW9 => ⟨rfl, KW.pre hBs hKK hS hP U9 hU9 hW9, hDc.at hW9⟩⟩ rfl rfl hl.1 rfl (lv_room (Nat.le_of_ble_eq_true rfl)) dL_meet_7 ⟨(Nat.le_of_ble_eq_true rfl), (Nat.le_of_ble_eq_true rfl)⟩) hS (fun E ce q9 H locs hce hP hS h91 h92 h93 => ?_) (fun r7 m7 H locs hq9 hP hz9 hS => ?_)
  · obtain ⟨eE, hno⟩ := hce
    subst eE
    refine vx_catch (own := RL) (name := exA) hown [] ⟨0, 19, 22, 13⟩ [] (htab.trans rfl) (fun z9 hz9 => nomatch hz9) (by decide) (by decide) (hts (.classLink RL 13 exA) (by decide +kernel)) (va_Nw.use rfl hKK.2.2.2.2.1.1) h91 h92 h93 ?_
    refine lv_astore (lv' := [(5, .ref q9), (0, .ref d), (1, .int x9), (2, .int y9), (3, .int z9), (4, .ref ou)]) hx hb dL_meet_22 hl (by decide) rfl (fun ls hl => ?_)
    refine lv_iconst (v := nI 1) hx hb dL_meet_24 (by decide) ?_
    rw [hQ]
    refine vx_ret ?_
    refine W.widen (k := 5) (n := 30) (by omega) (by omega) ?_
    exact W.iret (v := nI 1) hx hb hr (fun t99 ht99 hW99 => ⟨⟨nI 1, μ, rfl, (⟨fun a e h1 _ _ => h1, _, hou, Or.inr ⟨rfl, hno⟩⟩), by show mw _ _ _ _ t99.heap; rw [ht99]; exact hP⟩, hS.F ht99⟩) hS.2.2 dL_meet_25
  obtain ⟨hok, hrv, hR⟩ := hq9
  have hou1 := hR.at hou hap
  obtain rfl : r7 = nI 1 := hrv
  refine lv_if_eq (tgt := 17) hx hb dL_meet_10 (by decide) (fun hc10 => ?_) (fun hc10 => ?_)
  · exact absurd hc10 (by decide)
  · refine lv_lconst (v := 1) hx hb dL_meet_13 (by decide) ?_
    refine lv_goto (tgt := 18) hx hb dL_meet_14 (by decide) ?_
    refine mw_last hx hb hK hP hS 0 (hou1) rfl (by omega) (by omega) dL_meet_18 (fun H locs hP hS => ?_)
    have hP : mw G.1 vwCl B (mu m7 ou (.inl (G.2 0, 1, .inr (.inl (vp_updL fo 0 1))))) _ := hP
    refine lv_goto (tgt := 26) hx hb dL_meet_19 (by decide) ?_
    refine lv_iconst (v := nI 0) hx hb dL_meet_26 (by decide) ?_
    rw [hQ]
    refine vx_ret ?_
    refine W.widen (k := 5) (n := 30) (by omega) (by omega) ?_
    exact W.iret (v := nI 0) hx hb hr (fun t99 ht99 hW99 => ⟨⟨nI 0, mu m7 ou (.inl (G.2 0, 1, .inr (.inl (vp_updL fo 0 1)))), rfl, (⟨fun a e h1 h2 h3 => (mu_n h2).trans (hR.at h1 h3), _, mu_s _ _ _, Or.inl ⟨rfl, hok, pk_uLs.trans (by first | rfl | decide | (subst_vars; decide))⟩⟩), by show mw _ _ _ _ t99.heap; rw [ht99]; exact hP⟩, hS.F ht99⟩) hS.2.2 dL_meet_27

abbrev rm_L_isEmpty : Room := { frames := 8, cells := 5, slots := 30, locals := 141 }
set_option maxHeartbeats 4000000 in
set_option maxRecDepth 100000 in
theorem c_L_isEmpty (l : Launch) (hlt : l.stackTraces = false) (G : GG) (B : Nat) (μ : mp) (d aS aL aR aT aO bn nn s9 lo : Nat) (nf : List Value) (sa la bE : Nat → Nat) (F : Nat → Nat → Int64) (g : Nat → Int64) (w9 : Nat → Int32) (fS fL fR fT : Nat → Option Nat) (sp : Nat → Nat) (fO : Nat → Int64) (x9 : Int32) (ou : Nat) (fo : Nat → Int64) (hD : DK G μ d aS aL aR aT aO bn nn s9 lo 0 nf sa la bE F g w9 fS fL fR fT sp fO) (hFS : FS F bE g) (hou : μ ou = some (.inl (G.2 0, 1, .inr (.inl fo)))) (hap : Apt d aO s9 lo sa la sp ou) : vx_Met l yL_isEmpty wsL_isEmpty rm_L_isEmpty (va_Pc [.ref d, .int x9, .ref ou] (KX G B μ)) (va_Qi (fun r μ2 => (∀ (a : Nat) (e : va_E), μ a = some e → a ≠ ou → Apt d aO s9 lo sa la sp a → μ2 a = some e) ∧ ∃ fo9 : Nat → Int64, μ2 ou = some (.inl (G.2 0, 1, .inr (.inl fo9))) ∧ ((r = 0 ∧ (okS x9) ∧ fo9 0 = 0) ∨ (r = 1 ∧ ¬ (okS x9)))) (BB G B) (fun q => B ≤ q)) (XX G B μ (fun _ => False)) 5 30 (fun q => B ≤ q) := by
  refine vx_ofWH (cc := cL_isEmpty) (maxL := 4) (ret := (some .int)) (by decide) rfl ?_
  intro p e s m args below meth c s₁ B9 hml hv
  obtain ⟨hargs, ⟨hBs, hP, hKK⟩, hDc⟩ := hv
  have hx := B9.exec
  have hb := B9.bytes
  have hr := B9.returns
  have hts := atoms_spec (ws := wsL_isEmpty) B9.pre
  have hown : s.vm.findClass RL = some m.cls := findClass_of_methodNamed B9.named
  have htab := vx_table (x := yL_isEmpty) B9 (hts (.codeWith yL_isEmpty cL_isEmpty 4 (some .int) [(0, 16, 19, 13)]) (by decide +kernel))
  have hlocks := B9.notSynchronized
  have hK := hKK.k
  have hS : va_S (fun q => B ≤ q) s.heap s.heap [] := va_S.rf
  obtain ⟨Q, hQ⟩ : ∃ Q, Q = vx_MQ below (va_Qi (fun r μ2 => (∀ (a : Nat) (e : va_E), μ a = some e → a ≠ ou → Apt d aO s9 lo sa la sp a → μ2 a = some e) ∧ ∃ fo9 : Nat → Int64, μ2 ou = some (.inl (G.2 0, 1, .inr (.inl fo9))) ∧ ((r = 0 ∧ (okS x9) ∧ fo9 0 = 0) ∨ (r = 1 ∧ ¬ (okS x9)))) (BB G B) (fun q => B ≤ q)) (XX G B μ (fun _ => False)) args s 5 30 (fun q => B ≤ q) := ⟨_, rfl⟩
  rw [← hQ]
  have hl := lv_entry ([.ref d, .int x9, .ref ou]) (n := 4) (Nat.le_of_ble_eq_true rfl)
  have he9 : entryFrame m args 4 = entryFrame m ([.ref d, .int x9, .ref ou] : List Value).toArray 4 := by rw [hargs]
  rw [he9, lg_entry_eq]
  generalize (lg_sl ([.ref d, .int x9, .ref ou]) ++ List.replicate (4 - (lg_sl ([.ref d, .int x9, .ref ou])).length) Slot.unset).toArray = ls at hl ⊢
  have hl : lv_has ls 4 [(0, .ref d), (1, .int x9), (2, .ref ou)] := hl
  refine lv_aload_n hx hb dL_isEmpty_0 rfl (lv_at hl 2 rfl) ?_
  refine lv_iconst (v := nI 0) hx hb dL_isEmpty_1 (by decide) ?_
  refine lv_aload_n hx hb dL_isEmpty_2 rfl (lv_at hl 0 rfl) ?_
  refine lv_iload_n hx hb dL_isEmpty_3 rfl (lv_at hl 1 rfl) ?_
  refine kx_i (vx_runV (As := [.int x9]) (rest := [.int (nI 0), .ref ou]) ⟨hx, hb, hml, hown, hts⟩ (c_X6_isEmpty l hlt G B (μ) d aS aL aR aT aO bn nn s9 lo 0 nf sa la bE F g w9 fS fL fR fT sp fO x9 hD hFS) (cwV 1 hts gL_isEmpty_X6_isEmpty rfl rfl rfl (by decide +kernel) ⟨Nat.le_of_ble_eq_true rfl, Nat.le_of_ble_eq_true rfl⟩) ⟨KX.blind, hP.recv hK rfl (hD.1), fun U9 hU9 hW9 => ⟨rfl, KW.pre hBs hKK hS hP U9 hU9 hW9, hDc.at hW9⟩⟩ rfl rfl hl.1 rfl (lv_room (Nat.le_of_ble_eq_true rfl)) dL_isEmpty_4 ⟨(Nat.le_of_ble_eq_true rfl), (Nat.le_of_ble_eq_true rfl)⟩) hS (fun E ce q9 H locs hce hP hS h91 h92 h93 => ?_) (fun r4 m4 H locs hq9 hP hz9 hS => ?_)
  · obtain ⟨eE, hno⟩ := hce
    subst eE
    refine vx_catch (own := RL) (name := exA) hown [] ⟨0, 16, 19, 13⟩ [] (htab.trans rfl) (fun z9 hz9 => nomatch hz9) (by decide) (by decide) (hts (.classLink RL 13 exA) (by decide +kernel)) (va_Nw.use rfl hKK.2.2.2.2.1.1) h91 h92 h93 ?_
    refine lv_astore_n (lv' := [(3, .ref q9), (0, .ref d), (1, .int x9), (2, .ref ou)]) hx hb dL_isEmpty_19 rfl hl (by decide) rfl (fun ls hl => ?_)
    refine lv_iconst (v := nI 1) hx hb dL_isEmpty_20 (by decide) ?_
    rw [hQ]
    refine vx_ret ?_
    refine W.widen (k := 5) (n := 30) (by omega) (by omega) ?_
    exact W.iret (v := nI 1) hx hb hr (fun t99 ht99 hW99 => ⟨⟨nI 1, μ, rfl, (⟨fun a e h1 _ _ => h1, _, hou, Or.inr ⟨rfl, hno⟩⟩), by show mw _ _ _ _ t99.heap; rw [ht99]; exact hP⟩, hS.F ht99⟩) hS.2.2 dL_isEmpty_21
  obtain ⟨hok, hrv, hR⟩ := hq9
  have hou1 := hR.at hou hap
  obtain rfl : r4 = nI 0 := hrv
  refine lv_if_eq (tgt := 14) hx hb dL_isEmpty_7 (by decide) (fun hc7 => ?_) (fun hc7 => ?_)
  · refine lv_lconst (v := 0) hx hb dL_isEmpty_14 (by decide) ?_
    refine mw_last hx hb hK hP hS 0 (hou1) rfl (by omega) (by omega) dL_isEmpty_15 (fun H locs hP hS => ?_)
    have hP : mw G.1 vwCl B (mu m4 ou (.inl (G.2 0, 1, .inr (.inl (vp_updL fo 0 0))))) _ := hP
    refine lv_goto (tgt := 22) hx hb dL_isEmpty_16 (by decide) ?_
    refine lv_iconst (v := nI 0) hx hb dL_isEmpty_22 (by decide) ?_
    rw [hQ]
    refine vx_ret ?_
    refine W.widen (k := 5) (n := 30) (by omega) (by omega) ?_
    exact W.iret (v := nI 0) hx hb hr (fun t99 ht99 hW99 => ⟨⟨nI 0, mu m4 ou (.inl (G.2 0, 1, .inr (.inl (vp_updL fo 0 0)))), rfl, (⟨fun a e h1 h2 h3 => (mu_n h2).trans (hR.at h1 h3), _, mu_s _ _ _, Or.inl ⟨rfl, hok, pk_uLs.trans (by first | rfl | decide | (subst_vars; decide))⟩⟩), by show mw _ _ _ _ t99.heap; rw [ht99]; exact hP⟩, hS.F ht99⟩) hS.2.2 dL_isEmpty_23
  · exact absurd rfl hc7

abbrev rm_L_most : Room := { frames := 9, cells := 5, slots := 30, locals := 164 }
set_option maxHeartbeats 4000000 in
set_option maxRecDepth 100000 in
theorem c_L_most (l : Launch) (hlt : l.stackTraces = false) (G : GG) (B : Nat) (μ : mp) (d aS aL aR aT aO bn nn s9 lo : Nat) (nf : List Value) (sa la bE : Nat → Nat) (F : Nat → Nat → Int64) (g : Nat → Int64) (w9 : Nat → Int32) (fS fL fR fT : Nat → Option Nat) (sp : Nat → Nat) (fO : Nat → Int64) (x9 y9 z9 : Int32) (ou : Nat) (fo : Nat → Int64) (hD : DK G μ d aS aL aR aT aO bn nn s9 lo 0 nf sa la bE F g w9 fS fL fR fT sp fO) (hFS : FS F bE g) (hou : μ ou = some (.inl (G.2 0, 1, .inr (.inl fo)))) (hap : Apt d aO s9 lo sa la sp ou) : vx_Met l yL_most wsL_most rm_L_most (va_Pc [.ref d, .int x9, .int y9, .int z9, .ref ou] (KX G B μ)) (va_Qi (fun r μ2 => (∀ (a : Nat) (e : va_E), μ a = some e → a ≠ ou → Apt d aO s9 lo sa la sp a → μ2 a = some e) ∧ ∃ fo9 : Nat → Int64, μ2 ou = some (.inl (G.2 0, 1, .inr (.inl fo9))) ∧ ((r = 0 ∧ (okS x9 ∧ okP y9 z9) ∧ fo9 0 = INF) ∨ (r = 1 ∧ ¬ (okS x9 ∧ okP y9 z9)))) (BB G B) (fun q => B ≤ q)) (XX G B μ (fun _ => False)) 5 30 (fun q => B ≤ q) := by
  refine vx_ofWH (cc := cL_most) (maxL := 6) (ret := (some .int)) (by decide) rfl ?_
  intro p e s m args below meth c s₁ B9 hml hv
  obtain ⟨hargs, ⟨hBs, hP, hKK⟩, hDc⟩ := hv
  have hx := B9.exec
  have hb := B9.bytes
  have hr := B9.returns
  have hts := atoms_spec (ws := wsL_most) B9.pre
  have hown : s.vm.findClass RL = some m.cls := findClass_of_methodNamed B9.named
  have htab := vx_table (x := yL_most) B9 (hts (.codeWith yL_most cL_most 6 (some .int) [(0, 11, 14, 13), (0, 11, 18, 45)]) (by decide +kernel))
  have hlocks := B9.notSynchronized
  have hK := hKK.k
  have hS : va_S (fun q => B ≤ q) s.heap s.heap [] := va_S.rf
  obtain ⟨Q, hQ⟩ : ∃ Q, Q = vx_MQ below (va_Qi (fun r μ2 => (∀ (a : Nat) (e : va_E), μ a = some e → a ≠ ou → Apt d aO s9 lo sa la sp a → μ2 a = some e) ∧ ∃ fo9 : Nat → Int64, μ2 ou = some (.inl (G.2 0, 1, .inr (.inl fo9))) ∧ ((r = 0 ∧ (okS x9 ∧ okP y9 z9) ∧ fo9 0 = INF) ∨ (r = 1 ∧ ¬ (okS x9 ∧ okP y9 z9)))) (BB G B) (fun q => B ≤ q)) (XX G B μ (fun _ => False)) args s 5 30 (fun q => B ≤ q) := ⟨_, rfl⟩
  rw [← hQ]
  have hl := lv_entry ([.ref d, .int x9, .int y9, .int z9, .ref ou]) (n := 6) (Nat.le_of_ble_eq_true rfl)
  have he9 : entryFrame m args 6 = entryFrame m ([.ref d, .int x9, .int y9, .int z9, .ref ou] : List Value).toArray 6 := by rw [hargs]
  rw [he9, lg_entry_eq]
  generalize (lg_sl ([.ref d, .int x9, .int y9, .int z9, .ref ou]) ++ List.replicate (6 - (lg_sl ([.ref d, .int x9, .int y9, .int z9, .ref ou])).length) Slot.unset).toArray = ls at hl ⊢
  have hl : lv_has ls 6 [(0, .ref d), (1, .int x9), (2, .int y9), (3, .int z9), (4, .ref ou)] := hl
  refine lv_aload hx hb dL_most_0 (lv_at hl 4 rfl) ?_
  refine lv_iconst (v := nI 0) hx hb dL_most_2 (by decide) ?_
  refine lv_aload_n hx hb dL_most_3 rfl (lv_at hl 0 rfl) ?_
  refine lv_iload_n hx hb dL_most_4 rfl (lv_at hl 1 rfl) ?_
  refine lv_iload_n hx hb dL_most_5 rfl (lv_at hl 2 rfl) ?_
  refine lv_iload_n hx hb dL_most_6 rfl (lv_at hl 3 rfl) ?_
  refine kx_l (vx_runV (As := [.int x9, .int y9, .int z9]) (rest := [.int (nI 0), .ref ou]) ⟨hx, hb, hml, hown, hts⟩ (c_X6_most l hlt G B (μ) d aS aL aR aT aO bn nn s9 lo 0 nf sa la bE F g w9 fS fL fR fT sp fO x9 y9 z9 hD hFS) (cwV 3 hts gL_most_X6_most rfl rfl rfl (by decide +kernel) ⟨Nat.le_of_ble_eq_true rfl, Nat.le_of_ble_eq_true rfl⟩) ⟨KX.blind, hP.recv hK rfl (hD.1), fun U9 hU9 hW9 => ⟨rfl, KW.pre hBs hKK hS hP U9 hU9 hW9, hDc.at hW9⟩⟩ rfl rfl hl.1 rfl (lv_room (Nat.le_of_ble_eq_true rfl)) dL_most_7 ⟨(Nat.le_of_ble_eq_true rfl), (Nat.le_of_ble_eq_true rfl)⟩) hS (fun E ce q9 H locs hce hP hS h91 h92 h93 => ?_) (fun r7 m7 H locs hq9 hP hz9 hS => ?_)
  · obtain ⟨eE, hno⟩ := hce
    subst eE
    refine vx_catch (own := RL) (name := exA) hown [] ⟨0, 11, 14, 13⟩ [⟨0, 11, 18, 45⟩] (htab.trans rfl) (fun z9 hz9 => nomatch hz9) (by decide) (by decide) (hts (.classLink RL 13 exA) (by decide +kernel)) (va_Nw.use rfl hKK.2.2.2.2.1.1) h91 h92 h93 ?_
    refine lv_astore (lv' := [(5, .ref q9), (0, .ref d), (1, .int x9), (2, .int y9), (3, .int z9), (4, .ref ou)]) hx hb dL_most_14 hl (by decide) rfl (fun ls hl => ?_)
    refine lv_iconst (v := nI 1) hx hb dL_most_16 (by decide) ?_
    rw [hQ]
    refine vx_ret ?_
    refine W.widen (k := 5) (n := 30) (by omega) (by omega) ?_
    exact W.iret (v := nI 1) hx hb hr (fun t99 ht99 hW99 => ⟨⟨nI 1, μ, rfl, (⟨fun a e h1 _ _ => h1, _, hou, Or.inr ⟨rfl, hno⟩⟩), by show mw _ _ _ _ t99.heap; rw [ht99]; exact hP⟩, hS.F ht99⟩) hS.2.2 dL_most_17
  obtain ⟨ho1, ho2, hrv, hR⟩ := hq9
  have hok : okS x9 ∧ okP y9 z9 := ⟨ho1, ho2⟩
  have hou1 := hR.at hou hap
  subst hrv
  refine mw_last hx hb hK hP hS 0 (hou1) rfl (by omega) (by omega) dL_most_10 (fun H locs hP hS => ?_)
  have hP : mw G.1 vwCl B (mu m7 ou (.inl (G.2 0, 1, .inr (.inl (vp_updL fo 0 9223372036854775807))))) _ := hP
  refine lv_goto (tgt := 22) hx hb dL_most_11 (by decide) ?_
  refine lv_iconst (v := nI 0) hx hb dL_most_22 (by decide) ?_
  rw [hQ]
  refine vx_ret ?_
  refine W.widen (k := 5) (n := 30) (by omega) (by omega) ?_
  exact W.iret (v := nI 0) hx hb hr (fun t99 ht99 hW99 => ⟨⟨nI 0, mu m7 ou (.inl (G.2 0, 1, .inr (.inl (vp_updL fo 0 9223372036854775807)))), rfl, (⟨fun a e h1 h2 h3 => (mu_n h2).trans (hR.at h1 h3), _, mu_s _ _ _, Or.inl ⟨rfl, hok, pk_uLs.trans (by first | rfl | decide | (subst_vars; decide))⟩⟩), by show mw _ _ _ _ t99.heap; rw [ht99]; exact hP⟩, hS.F ht99⟩) hS.2.2 dL_most_23

abbrev rm_L_inside : Room := { frames := 8, cells := 5, slots := 30, locals := 142 }
set_option maxHeartbeats 4000000 in
set_option maxRecDepth 100000 in
theorem c_L_inside (l : Launch) (hlt : l.stackTraces = false) (G : GG) (B : Nat) (μ : mp) (d aS aL aR aT aO bn nn s9 lo : Nat) (nf : List Value) (sa la bE : Nat → Nat) (F : Nat → Nat → Int64) (g : Nat → Int64) (w9 : Nat → Int32) (fS fL fR fT : Nat → Option Nat) (sp : Nat → Nat) (fO : Nat → Int64) (x9 y9 : Int32) (ou : Nat) (fo : Nat → Int64) (hD : DK G μ d aS aL aR aT aO bn nn s9 lo 0 nf sa la bE F g w9 fS fL fR fT sp fO) (hFS : FS F bE g) (hou : μ ou = some (.inl (G.2 0, 1, .inr (.inl fo)))) (hap : Apt d aO s9 lo sa la sp ou) : vx_Met l yL_inside wsL_inside rm_L_inside (va_Pc [.ref d, .int x9, .int y9, .ref ou] (KX G B μ)) (va_Qi (fun r μ2 => (∀ (a : Nat) (e : va_E), μ a = some e → a ≠ ou → Apt d aO s9 lo sa la sp a → μ2 a = some e) ∧ ∃ fo9 : Nat → Int64, μ2 ou = some (.inl (G.2 0, 1, .inr (.inl fo9))) ∧ ((r = 0 ∧ (okS x9 ∧ okS y9) ∧ fo9 0 = 1) ∨ (r = 1 ∧ ¬ (okS x9 ∧ okS y9)))) (BB G B) (fun q => B ≤ q)) (XX G B μ (fun _ => False)) 5 30 (fun q => B ≤ q) := by
  refine vx_ofWH (cc := cL_inside) (maxL := 5) (ret := (some .int)) (by decide) rfl ?_
  intro p e s m args below meth c s₁ B9 hml hv
  obtain ⟨hargs, ⟨hBs, hP, hKK⟩, hDc⟩ := hv
  have hx := B9.exec
  have hb := B9.bytes
  have hr := B9.returns
  have hts := atoms_spec (ws := wsL_inside) B9.pre
  have hown : s.vm.findClass RL = some m.cls := findClass_of_methodNamed B9.named
  have htab := vx_table (x := yL_inside) B9 (hts (.codeWith yL_inside cL_inside 5 (some .int) [(0, 17, 20, 13)]) (by decide +kernel))
  have hlocks := B9.notSynchronized
  have hK := hKK.k
  have hS : va_S (fun q => B ≤ q) s.heap s.heap [] := va_S.rf
  obtain ⟨Q, hQ⟩ : ∃ Q, Q = vx_MQ below (va_Qi (fun r μ2 => (∀ (a : Nat) (e : va_E), μ a = some e → a ≠ ou → Apt d aO s9 lo sa la sp a → μ2 a = some e) ∧ ∃ fo9 : Nat → Int64, μ2 ou = some (.inl (G.2 0, 1, .inr (.inl fo9))) ∧ ((r = 0 ∧ (okS x9 ∧ okS y9) ∧ fo9 0 = 1) ∨ (r = 1 ∧ ¬ (okS x9 ∧ okS y9)))) (BB G B) (fun q => B ≤ q)) (XX G B μ (fun _ => False)) args s 5 30 (fun q => B ≤ q) := ⟨_, rfl⟩
  rw [← hQ]
  have hl := lv_entry ([.ref d, .int x9, .int y9, .ref ou]) (n := 5) (Nat.le_of_ble_eq_true rfl)
  have he9 : entryFrame m args 5 = entryFrame m ([.ref d, .int x9, .int y9, .ref ou] : List Value).toArray 5 := by rw [hargs]
  rw [he9, lg_entry_eq]
  generalize (lg_sl ([.ref d, .int x9, .int y9, .ref ou]) ++ List.replicate (5 - (lg_sl ([.ref d, .int x9, .int y9, .ref ou])).length) Slot.unset).toArray = ls at hl ⊢
  have hl : lv_has ls 5 [(0, .ref d), (1, .int x9), (2, .int y9), (3, .ref ou)] := hl
  refine lv_aload_n hx hb dL_inside_0 rfl (lv_at hl 3 rfl) ?_
  refine lv_iconst (v := nI 0) hx hb dL_inside_1 (by decide) ?_
  refine lv_aload_n hx hb dL_inside_2 rfl (lv_at hl 0 rfl) ?_
  refine lv_iload_n hx hb dL_inside_3 rfl (lv_at hl 1 rfl) ?_
  refine lv_iload_n hx hb dL_inside_4 rfl (lv_at hl 2 rfl) ?_
  refine kx_i (vx_runV (As := [.int x9, .int y9]) (rest := [.int (nI 0), .ref ou]) ⟨hx, hb, hml, hown, hts⟩ (c_X6_inside l hlt G B (μ) d aS aL aR aT aO bn nn s9 lo 0 nf sa la bE F g w9 fS fL fR fT sp fO x9 y9 hD hFS) (cwV 2 hts gL_inside_X6_inside rfl rfl rfl (by decide +kernel) ⟨Nat.le_of_ble_eq_true rfl, Nat.le_of_ble_eq_true rfl⟩) ⟨KX.blind, hP.recv hK rfl (hD.1), fun U9 hU9 hW9 => ⟨rfl, KW.pre hBs hKK hS hP U9 hU9 hW9, hDc.at hW9⟩⟩ rfl rfl hl.1 rfl (lv_room (Nat.le_of_ble_eq_true rfl)) dL_inside_5 ⟨(Nat.le_of_ble_eq_true rfl), (Nat.le_of_ble_eq_true rfl)⟩) hS (fun E ce q9 H locs hce hP hS h91 h92 h93 => ?_) (fun r5 m5 H locs hq9 hP hz9 hS => ?_)
  · obtain ⟨eE, hno⟩ := hce
    subst eE
    refine vx_catch (own := RL) (name := exA) hown [] ⟨0, 17, 20, 13⟩ [] (htab.trans rfl) (fun z9 hz9 => nomatch hz9) (by decide) (by decide) (hts (.classLink RL 13 exA) (by decide +kernel)) (va_Nw.use rfl hKK.2.2.2.2.1.1) h91 h92 h93 ?_
    refine lv_astore (lv' := [(4, .ref q9), (0, .ref d), (1, .int x9), (2, .int y9), (3, .ref ou)]) hx hb dL_inside_20 hl (by decide) rfl (fun ls hl => ?_)
    refine lv_iconst (v := nI 1) hx hb dL_inside_22 (by decide) ?_
    rw [hQ]
    refine vx_ret ?_
    refine W.widen (k := 5) (n := 30) (by omega) (by omega) ?_
    exact W.iret (v := nI 1) hx hb hr (fun t99 ht99 hW99 => ⟨⟨nI 1, μ, rfl, (⟨fun a e h1 _ _ => h1, _, hou, Or.inr ⟨rfl, hno⟩⟩), by show mw _ _ _ _ t99.heap; rw [ht99]; exact hP⟩, hS.F ht99⟩) hS.2.2 dL_inside_23
  obtain ⟨ho1, ho2, hrv, hR⟩ := hq9
  have hok : okS x9 ∧ okS y9 := ⟨ho1, ho2⟩
  have hou1 := hR.at hou hap
  obtain rfl : r5 = nI 1 := hrv
  refine lv_if_eq (tgt := 15) hx hb dL_inside_8 (by decide) (fun hc8 => ?_) (fun hc8 => ?_)
  · exact absurd hc8 (by decide)
  · refine lv_lconst (v := 1) hx hb dL_inside_11 (by decide) ?_
    refine lv_goto (tgt := 16) hx hb dL_inside_12 (by decide) ?_
    refine mw_last hx hb hK hP hS 0 (hou1) rfl (by omega) (by omega) dL_inside_16 (fun H locs hP hS => ?_)
    have hP : mw G.1 vwCl B (mu m5 ou (.inl (G.2 0, 1, .inr (.inl (vp_updL fo 0 1))))) _ := hP
    refine lv_goto (tgt := 24) hx hb dL_inside_17 (by decide) ?_
    refine lv_iconst (v := nI 0) hx hb dL_inside_24 (by decide) ?_
    rw [hQ]
    refine vx_ret ?_
    refine W.widen (k := 5) (n := 30) (by omega) (by omega) ?_
    exact W.iret (v := nI 0) hx hb hr (fun t99 ht99 hW99 => ⟨⟨nI 0, mu m5 ou (.inl (G.2 0, 1, .inr (.inl (vp_updL fo 0 1)))), rfl, (⟨fun a e h1 h2 h3 => (mu_n h2).trans (hR.at h1 h3), _, mu_s _ _ _, Or.inl ⟨rfl, hok, pk_uLs.trans (by first | rfl | decide | (subst_vars; decide))⟩⟩), by show mw _ _ _ _ t99.heap; rw [ht99]; exact hP⟩, hS.F ht99⟩) hS.2.2 dL_inside_25

abbrev rm_L_bounds : Room := { frames := 8, cells := 5, slots := 30, locals := 141 }
set_option maxHeartbeats 4000000 in
set_option maxRecDepth 100000 in
theorem c_L_bounds (l : Launch) (hlt : l.stackTraces = false) (G : GG) (B : Nat) (μ : mp) (d aS aL aR aT aO bn nn s9 lo : Nat) (nf : List Value) (sa la bE : Nat → Nat) (F : Nat → Nat → Int64) (g : Nat → Int64) (w9 : Nat → Int32) (fS fL fR fT : Nat → Option Nat) (sp : Nat → Nat) (fO : Nat → Int64) (x9 : Int32) (ou : Nat) (fo : Nat → Int64) (hD : DK G μ d aS aL aR aT aO bn nn s9 lo 0 nf sa la bE F g w9 fS fL fR fT sp fO) (hFS : FS F bE g) (hou : μ ou = some (.inl (G.2 0, 1, .inr (.inl fo)))) (hap : Apt d aO s9 lo sa la sp ou) : vx_Met l yL_bounds wsL_bounds rm_L_bounds (va_Pc [.ref d, .int x9, .ref ou] (KX G B μ)) (va_Qi (fun r μ2 => (∀ (a : Nat) (e : va_E), μ a = some e → a ≠ ou → Apt d aO s9 lo sa la sp a → μ2 a = some e) ∧ ∃ fo9 : Nat → Int64, μ2 ou = some (.inl (G.2 0, 1, .inr (.inl fo9))) ∧ ((r = 0 ∧ (okS x9) ∧ fo9 0 = 0) ∨ (r = 1 ∧ ¬ (okS x9)))) (BB G B) (fun q => B ≤ q)) (XX G B μ (fun _ => False)) 5 30 (fun q => B ≤ q) := by
  refine vx_ofWH (cc := cL_bounds) (maxL := 4) (ret := (some .int)) (by decide) rfl ?_
  intro p e s m args below meth c s₁ B9 hml hv
  obtain ⟨hargs, ⟨hBs, hP, hKK⟩, hDc⟩ := hv
  have hx := B9.exec
  have hb := B9.bytes
  have hr := B9.returns
  have hts := atoms_spec (ws := wsL_bounds) B9.pre
  have hown : s.vm.findClass RL = some m.cls := findClass_of_methodNamed B9.named
  have htab := vx_table (x := yL_bounds) B9 (hts (.codeWith yL_bounds cL_bounds 4 (some .int) [(0, 9, 12, 13)]) (by decide +kernel))
  have hlocks := B9.notSynchronized
  have hK := hKK.k
  have hS : va_S (fun q => B ≤ q) s.heap s.heap [] := va_S.rf
  obtain ⟨Q, hQ⟩ : ∃ Q, Q = vx_MQ below (va_Qi (fun r μ2 => (∀ (a : Nat) (e : va_E), μ a = some e → a ≠ ou → Apt d aO s9 lo sa la sp a → μ2 a = some e) ∧ ∃ fo9 : Nat → Int64, μ2 ou = some (.inl (G.2 0, 1, .inr (.inl fo9))) ∧ ((r = 0 ∧ (okS x9) ∧ fo9 0 = 0) ∨ (r = 1 ∧ ¬ (okS x9)))) (BB G B) (fun q => B ≤ q)) (XX G B μ (fun _ => False)) args s 5 30 (fun q => B ≤ q) := ⟨_, rfl⟩
  rw [← hQ]
  have hl := lv_entry ([.ref d, .int x9, .ref ou]) (n := 4) (Nat.le_of_ble_eq_true rfl)
  have he9 : entryFrame m args 4 = entryFrame m ([.ref d, .int x9, .ref ou] : List Value).toArray 4 := by rw [hargs]
  rw [he9, lg_entry_eq]
  generalize (lg_sl ([.ref d, .int x9, .ref ou]) ++ List.replicate (4 - (lg_sl ([.ref d, .int x9, .ref ou])).length) Slot.unset).toArray = ls at hl ⊢
  have hl : lv_has ls 4 [(0, .ref d), (1, .int x9), (2, .ref ou)] := hl
  refine lv_aload_n hx hb dL_bounds_0 rfl (lv_at hl 2 rfl) ?_
  refine lv_iconst (v := nI 0) hx hb dL_bounds_1 (by decide) ?_
  refine lv_aload_n hx hb dL_bounds_2 rfl (lv_at hl 0 rfl) ?_
  refine lv_iload_n hx hb dL_bounds_3 rfl (lv_at hl 1 rfl) ?_
  refine kx_i (vx_runV (As := [.int x9]) (rest := [.int (nI 0), .ref ou]) ⟨hx, hb, hml, hown, hts⟩ (c_X6_bounds l hlt G B (μ) d aS aL aR aT aO bn nn s9 lo 0 nf sa la bE F g w9 fS fL fR fT sp fO x9 hD hFS) (cwV 1 hts gL_bounds_X6_bounds rfl rfl rfl (by decide +kernel) ⟨Nat.le_of_ble_eq_true rfl, Nat.le_of_ble_eq_true rfl⟩) ⟨KX.blind, hP.recv hK rfl (hD.1), fun U9 hU9 hW9 => ⟨rfl, KW.pre hBs hKK hS hP U9 hU9 hW9, hDc.at hW9⟩⟩ rfl rfl hl.1 rfl (lv_room (Nat.le_of_ble_eq_true rfl)) dL_bounds_4 ⟨(Nat.le_of_ble_eq_true rfl), (Nat.le_of_ble_eq_true rfl)⟩) hS (fun E ce q9 H locs hce hP hS h91 h92 h93 => ?_) (fun r4 m4 H locs hq9 hP hz9 hS => ?_)
  · obtain ⟨eE, hno⟩ := hce
    subst eE
    refine vx_catch (own := RL) (name := exA) hown [] ⟨0, 9, 12, 13⟩ [] (htab.trans rfl) (fun z9 hz9 => nomatch hz9) (by decide) (by decide) (hts (.classLink RL 13 exA) (by decide +kernel)) (va_Nw.use rfl hKK.2.2.2.2.1.1) h91 h92 h93 ?_
    refine lv_astore_n (lv' := [(3, .ref q9), (0, .ref d), (1, .int x9), (2, .ref ou)]) hx hb dL_bounds_12 rfl hl (by decide) rfl (fun ls hl => ?_)
    refine lv_iconst (v := nI 1) hx hb dL_bounds_13 (by decide) ?_
    rw [hQ]
    refine vx_ret ?_
    refine W.widen (k := 5) (n := 30) (by omega) (by omega) ?_
    exact W.iret (v := nI 1) hx hb hr (fun t99 ht99 hW99 => ⟨⟨nI 1, μ, rfl, (⟨fun a e h1 _ _ => h1, _, hou, Or.inr ⟨rfl, hno⟩⟩), by show mw _ _ _ _ t99.heap; rw [ht99]; exact hP⟩, hS.F ht99⟩) hS.2.2 dL_bounds_14
  obtain ⟨hok, hrv, hR⟩ := hq9
  have hou1 := hR.at hou hap
  obtain rfl : r4 = nI 0 := hrv
  refine lv_i2l (v := (nI 0).toInt64) hx hb dL_bounds_7 rfl ?_
  refine lv_topl (fun v8 ev8 => ?_)
  refine mw_last hx hb hK hP hS 0 (hou1) rfl (by omega) (by omega) dL_bounds_8 (fun H locs hP hS => ?_)
  have hP : mw G.1 vwCl B (mu m4 ou (.inl (G.2 0, 1, .inr (.inl (vp_updL fo 0 v8))))) _ := hP
  refine lv_goto (tgt := 15) hx hb dL_bounds_9 (by decide) ?_
  refine lv_iconst (v := nI 0) hx hb dL_bounds_15 (by decide) ?_
  rw [hQ]
  refine vx_ret ?_
  refine W.widen (k := 5) (n := 30) (by omega) (by omega) ?_
  exact W.iret (v := nI 0) hx hb hr (fun t99 ht99 hW99 => ⟨⟨nI 0, mu m4 ou (.inl (G.2 0, 1, .inr (.inl (vp_updL fo 0 v8)))), rfl, (⟨fun a e h1 h2 h3 => (mu_n h2).trans (hR.at h1 h3), _, mu_s _ _ _, Or.inl ⟨rfl, hok, pk_uLs.trans (by first | rfl | decide | (subst_vars; decide))⟩⟩), by show mw _ _ _ _ t99.heap; rw [ht99]; exact hP⟩, hS.F ht99⟩) hS.2.2 dL_bounds_16

abbrev rm_L_first : Room := { frames := 8, cells := 5, slots := 30, locals := 165 }
set_option maxHeartbeats 4000000 in
set_option maxRecDepth 100000 in
theorem c_L_first (l : Launch) (hlt : l.stackTraces = false) (G : GG) (B : Nat) (μ : mp) (d aS aL aR aT aO bn nn s9 lo : Nat) (nf : List Value) (sa la bE : Nat → Nat) (F : Nat → Nat → Int64) (g : Nat → Int64) (w9 : Nat → Int32) (fS fL fR fT : Nat → Option Nat) (sp : Nat → Nat) (fO : Nat → Int64) (x9 y9 : Int32) (ou : Nat) (fo : Nat → Int64) (hD : DK G μ d aS aL aR aT aO bn nn s9 lo 0 nf sa la bE F g w9 fS fL fR fT sp fO) (hFS : FS F bE g) (hou : μ ou = some (.inl (G.2 0, 1, .inr (.inl fo)))) (hap : Apt d aO s9 lo sa la sp ou) : vx_Met l yL_first wsL_first rm_L_first (va_Pc [.ref d, .int x9, .int y9, .ref ou] (KX G B μ)) (va_Qi (fun r μ2 => (∀ (a : Nat) (e : va_E), μ a = some e → a ≠ ou → Apt d aO s9 lo sa la sp a → μ2 a = some e) ∧ ∃ fo9 : Nat → Int64, μ2 ou = some (.inl (G.2 0, 1, .inr (.inl fo9))) ∧ ((r = 0 ∧ (okS x9 ∧ okS y9) ∧ fo9 0 = 0) ∨ (r = 1 ∧ ¬ (okS x9 ∧ okS y9)))) (BB G B) (fun q => B ≤ q)) (XX G B μ (fun _ => False)) 5 30 (fun q => B ≤ q) := by
  refine vx_ofWH (cc := cL_first) (maxL := 5) (ret := (some .int)) (by decide) rfl ?_
  intro p e s m args below meth c s₁ B9 hml hv
  obtain ⟨hargs, ⟨hBs, hP, hKK⟩, hDc⟩ := hv
  have hx := B9.exec
  have hb := B9.bytes
  have hr := B9.returns
  have hts := atoms_spec (ws := wsL_first) B9.pre
  have hown : s.vm.findClass RL = some m.cls := findClass_of_methodNamed B9.named
  have htab := vx_table (x := yL_first) B9 (hts (.codeWith yL_first cL_first 5 (some .int) [(0, 9, 12, 13), (0, 9, 16, 45)]) (by decide +kernel))
  have hlocks := B9.notSynchronized
  have hK := hKK.k
  have hS : va_S (fun q => B ≤ q) s.heap s.heap [] := va_S.rf
  obtain ⟨Q, hQ⟩ : ∃ Q, Q = vx_MQ below (va_Qi (fun r μ2 => (∀ (a : Nat) (e : va_E), μ a = some e → a ≠ ou → Apt d aO s9 lo sa la sp a → μ2 a = some e) ∧ ∃ fo9 : Nat → Int64, μ2 ou = some (.inl (G.2 0, 1, .inr (.inl fo9))) ∧ ((r = 0 ∧ (okS x9 ∧ okS y9) ∧ fo9 0 = 0) ∨ (r = 1 ∧ ¬ (okS x9 ∧ okS y9)))) (BB G B) (fun q => B ≤ q)) (XX G B μ (fun _ => False)) args s 5 30 (fun q => B ≤ q) := ⟨_, rfl⟩
  rw [← hQ]
  have hl := lv_entry ([.ref d, .int x9, .int y9, .ref ou]) (n := 5) (Nat.le_of_ble_eq_true rfl)
  have he9 : entryFrame m args 5 = entryFrame m ([.ref d, .int x9, .int y9, .ref ou] : List Value).toArray 5 := by rw [hargs]
  rw [he9, lg_entry_eq]
  generalize (lg_sl ([.ref d, .int x9, .int y9, .ref ou]) ++ List.replicate (5 - (lg_sl ([.ref d, .int x9, .int y9, .ref ou])).length) Slot.unset).toArray = ls at hl ⊢
  have hl : lv_has ls 5 [(0, .ref d), (1, .int x9), (2, .int y9), (3, .ref ou)] := hl
  refine lv_aload_n hx hb dL_first_0 rfl (lv_at hl 3 rfl) ?_
  refine lv_iconst (v := nI 0) hx hb dL_first_1 (by decide) ?_
  refine lv_aload_n hx hb dL_first_2 rfl (lv_at hl 0 rfl) ?_
  refine lv_iload_n hx hb dL_first_3 rfl (lv_at hl 1 rfl) ?_
  refine lv_iload_n hx hb dL_first_4 rfl (lv_at hl 2 rfl) ?_
  refine kx_l (vx_runV (As := [.int x9, .int y9]) (rest := [.int (nI 0), .ref ou]) ⟨hx, hb, hml, hown, hts⟩ (c_X6_first l hlt G B (μ) d aS aL aR aT aO bn nn s9 lo 0 nf sa la bE F g w9 fS fL fR fT sp fO x9 y9 hD hFS) (cwV 2 hts gL_first_X6_first rfl rfl rfl (by decide +kernel) ⟨Nat.le_of_ble_eq_true rfl, Nat.le_of_ble_eq_true rfl⟩) ⟨KX.blind, hP.recv hK rfl (hD.1), fun U9 hU9 hW9 => ⟨rfl, KW.pre hBs hKK hS hP U9 hU9 hW9, hDc.at hW9⟩⟩ rfl rfl hl.1 rfl (lv_room (Nat.le_of_ble_eq_true rfl)) dL_first_5 ⟨(Nat.le_of_ble_eq_true rfl), (Nat.le_of_ble_eq_true rfl)⟩) hS (fun E ce q9 H locs hce hP hS h91 h92 h93 => ?_) (fun r5 m5 H locs hq9 hP hz9 hS => ?_)
  · obtain ⟨eE, hno⟩ := hce
    subst eE
    refine vx_catch (own := RL) (name := exA) hown [] ⟨0, 9, 12, 13⟩ [⟨0, 9, 16, 45⟩] (htab.trans rfl) (fun z9 hz9 => nomatch hz9) (by decide) (by decide) (hts (.classLink RL 13 exA) (by decide +kernel)) (va_Nw.use rfl hKK.2.2.2.2.1.1) h91 h92 h93 ?_
    refine lv_astore (lv' := [(4, .ref q9), (0, .ref d), (1, .int x9), (2, .int y9), (3, .ref ou)]) hx hb dL_first_12 hl (by decide) rfl (fun ls hl => ?_)
    refine lv_iconst (v := nI 1) hx hb dL_first_14 (by decide) ?_
    rw [hQ]
    refine vx_ret ?_
    refine W.widen (k := 5) (n := 30) (by omega) (by omega) ?_
    exact W.iret (v := nI 1) hx hb hr (fun t99 ht99 hW99 => ⟨⟨nI 1, μ, rfl, (⟨fun a e h1 _ _ => h1, _, hou, Or.inr ⟨rfl, hno⟩⟩), by show mw _ _ _ _ t99.heap; rw [ht99]; exact hP⟩, hS.F ht99⟩) hS.2.2 dL_first_15
  obtain ⟨ho1, ho2, hrv, hR⟩ := hq9
  have hok : okS x9 ∧ okS y9 := ⟨ho1, ho2⟩
  have hou1 := hR.at hou hap
  subst hrv
  refine mw_last hx hb hK hP hS 0 (hou1) rfl (by omega) (by omega) dL_first_8 (fun H locs hP hS => ?_)
  have hP : mw G.1 vwCl B (mu m5 ou (.inl (G.2 0, 1, .inr (.inl (vp_updL fo 0 0))))) _ := hP
  refine lv_goto (tgt := 20) hx hb dL_first_9 (by decide) ?_
  refine lv_iconst (v := nI 0) hx hb dL_first_20 (by decide) ?_
  rw [hQ]
  refine vx_ret ?_
  refine W.widen (k := 5) (n := 30) (by omega) (by omega) ?_
  exact W.iret (v := nI 0) hx hb hr (fun t99 ht99 hW99 => ⟨⟨nI 0, mu m5 ou (.inl (G.2 0, 1, .inr (.inl (vp_updL fo 0 0)))), rfl, (⟨fun a e h1 h2 h3 => (mu_n h2).trans (hR.at h1 h3), _, mu_s _ _ _, Or.inl ⟨rfl, hok, pk_uLs.trans (by first | rfl | decide | (subst_vars; decide))⟩⟩), by show mw _ _ _ _ t99.heap; rw [ht99]; exact hP⟩, hS.F ht99⟩) hS.2.2 dL_first_21

abbrev rm_L_places : Room := { frames := 8, cells := 5, slots := 30, locals := 141 }
set_option maxHeartbeats 4000000 in
set_option maxRecDepth 100000 in
theorem c_L_places (l : Launch) (hlt : l.stackTraces = false) (G : GG) (B : Nat) (μ : mp) (d aS aL aR aT aO bn nn s9 lo : Nat) (nf : List Value) (sa la bE : Nat → Nat) (F : Nat → Nat → Int64) (g : Nat → Int64) (w9 : Nat → Int32) (fS fL fR fT : Nat → Option Nat) (sp : Nat → Nat) (fO : Nat → Int64) (x9 : Int32) (ou : Nat) (fo : Nat → Int64) (hD : DK G μ d aS aL aR aT aO bn nn s9 lo 0 nf sa la bE F g w9 fS fL fR fT sp fO) (hFS : FS F bE g) (hou : μ ou = some (.inl (G.2 0, 1, .inr (.inl fo)))) (hap : Apt d aO s9 lo sa la sp ou) : vx_Met l yL_places wsL_places rm_L_places (va_Pc [.ref d, .int x9, .ref ou] (KX G B μ)) (va_Qi (fun r μ2 => (∀ (a : Nat) (e : va_E), μ a = some e → a ≠ ou → Apt d aO s9 lo sa la sp a → μ2 a = some e) ∧ ∃ fo9 : Nat → Int64, μ2 ou = some (.inl (G.2 0, 1, .inr (.inl fo9))) ∧ ((r = 0 ∧ (okS x9) ∧ fo9 0 = -1) ∨ (r = 1 ∧ ¬ (okS x9)))) (BB G B) (fun q => B ≤ q)) (XX G B μ (fun _ => False)) 5 30 (fun q => B ≤ q) := by
  refine vx_ofWH (cc := cL_places) (maxL := 4) (ret := (some .int)) (by decide) rfl ?_
  intro p e s m args below meth c s₁ B9 hml hv
  obtain ⟨hargs, ⟨hBs, hP, hKK⟩, hDc⟩ := hv
  have hx := B9.exec
  have hb := B9.bytes
  have hr := B9.returns
  have hts := atoms_spec (ws := wsL_places) B9.pre
  have hown : s.vm.findClass RL = some m.cls := findClass_of_methodNamed B9.named
  have htab := vx_table (x := yL_places) B9 (hts (.codeWith yL_places cL_places 4 (some .int) [(0, 9, 12, 13)]) (by decide +kernel))
  have hlocks := B9.notSynchronized
  have hK := hKK.k
  have hS : va_S (fun q => B ≤ q) s.heap s.heap [] := va_S.rf
  obtain ⟨Q, hQ⟩ : ∃ Q, Q = vx_MQ below (va_Qi (fun r μ2 => (∀ (a : Nat) (e : va_E), μ a = some e → a ≠ ou → Apt d aO s9 lo sa la sp a → μ2 a = some e) ∧ ∃ fo9 : Nat → Int64, μ2 ou = some (.inl (G.2 0, 1, .inr (.inl fo9))) ∧ ((r = 0 ∧ (okS x9) ∧ fo9 0 = -1) ∨ (r = 1 ∧ ¬ (okS x9)))) (BB G B) (fun q => B ≤ q)) (XX G B μ (fun _ => False)) args s 5 30 (fun q => B ≤ q) := ⟨_, rfl⟩
  rw [← hQ]
  have hl := lv_entry ([.ref d, .int x9, .ref ou]) (n := 4) (Nat.le_of_ble_eq_true rfl)
  have he9 : entryFrame m args 4 = entryFrame m ([.ref d, .int x9, .ref ou] : List Value).toArray 4 := by rw [hargs]
  rw [he9, lg_entry_eq]
  generalize (lg_sl ([.ref d, .int x9, .ref ou]) ++ List.replicate (4 - (lg_sl ([.ref d, .int x9, .ref ou])).length) Slot.unset).toArray = ls at hl ⊢
  have hl : lv_has ls 4 [(0, .ref d), (1, .int x9), (2, .ref ou)] := hl
  refine lv_aload_n hx hb dL_places_0 rfl (lv_at hl 2 rfl) ?_
  refine lv_iconst (v := nI 0) hx hb dL_places_1 (by decide) ?_
  refine lv_aload_n hx hb dL_places_2 rfl (lv_at hl 0 rfl) ?_
  refine lv_iload_n hx hb dL_places_3 rfl (lv_at hl 1 rfl) ?_
  refine kx_i (vx_runV (As := [.int x9]) (rest := [.int (nI 0), .ref ou]) ⟨hx, hb, hml, hown, hts⟩ (c_X6_places l hlt G B (μ) d aS aL aR aT aO bn nn s9 lo 0 nf sa la bE F g w9 fS fL fR fT sp fO x9 hD hFS) (cwV 1 hts gL_places_X6_places rfl rfl rfl (by decide +kernel) ⟨Nat.le_of_ble_eq_true rfl, Nat.le_of_ble_eq_true rfl⟩) ⟨KX.blind, hP.recv hK rfl (hD.1), fun U9 hU9 hW9 => ⟨rfl, KW.pre hBs hKK hS hP U9 hU9 hW9, hDc.at hW9⟩⟩ rfl rfl hl.1 rfl (lv_room (Nat.le_of_ble_eq_true rfl)) dL_places_4 ⟨(Nat.le_of_ble_eq_true rfl), (Nat.le_of_ble_eq_true rfl)⟩) hS (fun E ce q9 H locs hce hP hS h91 h92 h93 => ?_) (fun r4 m4 H locs hq9 hP hz9 hS => ?_)
  · obtain ⟨eE, hno⟩ := hce
    subst eE
    refine vx_catch (own := RL) (name := exA) hown [] ⟨0, 9, 12, 13⟩ [] (htab.trans rfl) (fun z9 hz9 => nomatch hz9) (by decide) (by decide) (hts (.classLink RL 13 exA) (by decide +kernel)) (va_Nw.use rfl hKK.2.2.2.2.1.1) h91 h92 h93 ?_
    refine lv_astore_n (lv' := [(3, .ref q9), (0, .ref d), (1, .int x9), (2, .ref ou)]) hx hb dL_places_12 rfl hl (by decide) rfl (fun ls hl => ?_)
    refine lv_iconst (v := nI 1) hx hb dL_places_13 (by decide) ?_
    rw [hQ]
    refine vx_ret ?_
    refine W.widen (k := 5) (n := 30) (by omega) (by omega) ?_
    exact W.iret (v := nI 1) hx hb hr (fun t99 ht99 hW99 => ⟨⟨nI 1, μ, rfl, (⟨fun a e h1 _ _ => h1, _, hou, Or.inr ⟨rfl, hno⟩⟩), by show mw _ _ _ _ t99.heap; rw [ht99]; exact hP⟩, hS.F ht99⟩) hS.2.2 dL_places_14
  obtain ⟨hok, hrv, hR⟩ := hq9
  have hou1 := hR.at hou hap
  subst hrv
  refine lv_i2l (v := ((-1)).toInt64) hx hb dL_places_7 rfl ?_
  refine lv_topl (fun v8 ev8 => ?_)
  refine mw_last hx hb hK hP hS 0 (hou1) rfl (by omega) (by omega) dL_places_8 (fun H locs hP hS => ?_)
  have hP : mw G.1 vwCl B (mu m4 ou (.inl (G.2 0, 1, .inr (.inl (vp_updL fo 0 v8))))) _ := hP
  refine lv_goto (tgt := 15) hx hb dL_places_9 (by decide) ?_
  refine lv_iconst (v := nI 0) hx hb dL_places_15 (by decide) ?_
  rw [hQ]
  refine vx_ret ?_
  refine W.widen (k := 5) (n := 30) (by omega) (by omega) ?_
  exact W.iret (v := nI 0) hx hb hr (fun t99 ht99 hW99 => ⟨⟨nI 0, mu m4 ou (.inl (G.2 0, 1, .inr (.inl (vp_updL fo 0 v8)))), rfl, (⟨fun a e h1 h2 h3 => (mu_n h2).trans (hR.at h1 h3), _, mu_s _ _ _, Or.inl ⟨rfl, hok, pk_uLs.trans (by first | rfl | decide | (subst_vars; decide))⟩⟩), by show mw _ _ _ _ t99.heap; rw [ht99]; exact hP⟩, hS.F ht99⟩) hS.2.2 dL_places_16

abbrev rm_L_step : Room := { frames := 10, cells := 5, slots := 30, locals := 189 }
set_option maxHeartbeats 4000000 in
set_option maxRecDepth 100000 in
theorem c_L_step (l : Launch) (hlt : l.stackTraces = false) (G : GG) (B : Nat) (μ : mp) (d aS aL aR aT aO bn nn s9 lo : Nat) (nf : List Value) (sa la bE : Nat → Nat) (F : Nat → Nat → Int64) (g : Nat → Int64) (w9 : Nat → Int32) (fS fL fR fT : Nat → Option Nat) (sp : Nat → Nat) (fO : Nat → Int64) (x9 k9 a9 b9 c9 : Int32) (ou : Nat) (fo : Nat → Int64) (hD : DK G μ d aS aL aR aT aO bn nn s9 lo 0 nf sa la bE F g w9 fS fL fR fT sp fO) (hFS : FS F bE g) (hou : μ ou = some (.inl (G.2 0, 1, .inr (.inl fo)))) (hap : Apt d aO s9 lo sa la sp ou) : vx_Met l yL_step wsL_step rm_L_step (va_Pc [.ref d, .int x9, .int k9, .int a9, .int b9, .int c9, .ref ou] (KX G B μ)) (va_Qi (fun r μ2 => (∀ (a : Nat) (e : va_E), μ a = some e → a ≠ ou → Apt d aO s9 lo sa la sp a → μ2 a = some e) ∧ ∃ fo9 : Nat → Int64, μ2 ou = some (.inl (G.2 0, 1, .inr (.inl fo9))) ∧ ((r = 0 ∧ (okW x9 ∧ okA k9 a9 b9 c9) ∧ fo9 0 = 0) ∨ (r = 1 ∧ ¬ (okW x9 ∧ okA k9 a9 b9 c9)))) (BB G B) (fun q => B ≤ q)) (XX G B μ (fun _ => False)) 5 30 (fun q => B ≤ q) := by
  refine vx_ofWH (cc := cL_step) (maxL := 8) (ret := (some .int)) (by decide) rfl ?_
  intro p e s m args below meth c s₁ B9 hml hv
  obtain ⟨hargs, ⟨hBs, hP, hKK⟩, hDc⟩ := hv
  have hx := B9.exec
  have hb := B9.bytes
  have hr := B9.returns
  have hts := atoms_spec (ws := wsL_step) B9.pre
  have hown : s.vm.findClass RL = some m.cls := findClass_of_methodNamed B9.named
  have htab := vx_table (x := yL_step) B9 (hts (.codeWith yL_step cL_step 8 (some .int) [(0, 16, 19, 13), (0, 16, 23, 45)]) (by decide +kernel))
  have hlocks := B9.notSynchronized
  have hK := hKK.k
  have hS : va_S (fun q => B ≤ q) s.heap s.heap [] := va_S.rf
  obtain ⟨Q, hQ⟩ : ∃ Q, Q = vx_MQ below (va_Qi (fun r μ2 => (∀ (a : Nat) (e : va_E), μ a = some e → a ≠ ou → Apt d aO s9 lo sa la sp a → μ2 a = some e) ∧ ∃ fo9 : Nat → Int64, μ2 ou = some (.inl (G.2 0, 1, .inr (.inl fo9))) ∧ ((r = 0 ∧ (okW x9 ∧ okA k9 a9 b9 c9) ∧ fo9 0 = 0) ∨ (r = 1 ∧ ¬ (okW x9 ∧ okA k9 a9 b9 c9)))) (BB G B) (fun q => B ≤ q)) (XX G B μ (fun _ => False)) args s 5 30 (fun q => B ≤ q) := ⟨_, rfl⟩
  rw [← hQ]
  have hl := lv_entry ([.ref d, .int x9, .int k9, .int a9, .int b9, .int c9, .ref ou]) (n := 8) (Nat.le_of_ble_eq_true rfl)
  have he9 : entryFrame m args 8 = entryFrame m ([.ref d, .int x9, .int k9, .int a9, .int b9, .int c9, .ref ou] : List Value).toArray 8 := by rw [hargs]
  rw [he9, lg_entry_eq]
  generalize (lg_sl ([.ref d, .int x9, .int k9, .int a9, .int b9, .int c9, .ref ou]) ++ List.replicate (8 - (lg_sl ([.ref d, .int x9, .int k9, .int a9, .int b9, .int c9, .ref ou])).length) Slot.unset).toArray = ls at hl ⊢
  have hl : lv_has ls 8 [(0, .ref d), (1, .int x9), (2, .int k9), (3, .int a9), (4, .int b9), (5, .int c9), (6, .ref ou)] := hl
  refine lv_aload hx hb dL_step_0 (lv_at hl 6 rfl) ?_
  refine lv_iconst (v := nI 0) hx hb dL_step_2 (by decide) ?_
  refine lv_aload_n hx hb dL_step_3 rfl (lv_at hl 0 rfl) ?_
  refine lv_iload_n hx hb dL_step_4 rfl (lv_at hl 1 rfl) ?_
  refine lv_iload_n hx hb dL_step_5 rfl (lv_at hl 2 rfl) ?_
  refine lv_iload_n hx hb dL_step_6 rfl (lv_at hl 3 rfl) ?_
  refine lv_iload hx hb dL_step_7 (lv_at hl 4 rfl) ?_
  refine lv_iload hx hb dL_step_9 (lv_at hl 5 rfl) ?_
  refine kx_i (vx_runV (As := [.int x9, .int k9, .int a9, .int b9, .int c9]) (rest := [.int (nI 0), .ref ou]) ⟨hx, hb, hml, hown, hts⟩ (c_X6_step l hlt G B (μ) d aS aL aR aT aO bn nn s9 lo nf sa la bE F g w9 fS fL fR fT sp fO x9 k9 a9 b9 c9 hD hFS) (cwV 5 hts gL_step_X6_step rfl rfl rfl (by decide +kernel) ⟨Nat.le_of_ble_eq_true rfl, Nat.le_of_ble_eq_true rfl⟩) ⟨KX.blind, hP.recv hK rfl (hD.1), fun U9 hU9 hW9 => ⟨rfl, KW.pre hBs hKK hS hP U9 hU9 hW9, hDc.at hW9⟩⟩ rfl rfl hl.1 rfl (lv_room (Nat.le_of_ble_eq_true rfl)) dL_step_11 ⟨(Nat.le_of_ble_eq_true rfl), (Nat.le_of_ble_eq_true rfl)⟩) hS (fun E ce q9 H locs hce hP hS h91 h92 h93 => ?_) (fun r11 m11 H locs hq9 hP hz9 hS => ?_)
  · obtain ⟨eE, hno⟩ := hce
    subst eE
    refine vx_catch (own := RL) (name := exA) hown [] ⟨0, 16, 19, 13⟩ [⟨0, 16, 23, 45⟩] (htab.trans rfl) (fun z9 hz9 => nomatch hz9) (by decide) (by decide) (hts (.classLink RL 13 exA) (by decide +kernel)) (va_Nw.use rfl hKK.2.2.2.2.1.1) h91 h92 h93 ?_
    refine lv_astore (lv' := [(7, .ref q9), (0, .ref d), (1, .int x9), (2, .int k9), (3, .int a9), (4, .int b9), (5, .int c9), (6, .ref ou)]) hx hb dL_step_19 hl (by decide) rfl (fun ls hl => ?_)
    refine lv_iconst (v := nI 1) hx hb dL_step_21 (by decide) ?_
    rw [hQ]
    refine vx_ret ?_
    refine W.widen (k := 5) (n := 30) (by omega) (by omega) ?_
    exact W.iret (v := nI 1) hx hb hr (fun t99 ht99 hW99 => ⟨⟨nI 1, μ, rfl, (⟨fun a e h1 _ _ => h1, _, hou, Or.inr ⟨rfl, hno⟩⟩), by show mw _ _ _ _ t99.heap; rw [ht99]; exact hP⟩, hS.F ht99⟩) hS.2.2 dL_step_22
  obtain ⟨ho1, ho2, hrv, hR⟩ := hq9
  have hok : okW x9 ∧ okA k9 a9 b9 c9 := ⟨ho1, ho2⟩
  have hou1 := hR.at hou hap
  obtain rfl : r11 = nI 0 := hrv
  refine lv_i2l (v := (nI 0).toInt64) hx hb dL_step_14 rfl ?_
  refine lv_topl (fun v15 ev15 => ?_)
  refine mw_last hx hb hK hP hS 0 (hou1) rfl (by omega) (by omega) dL_step_15 (fun H locs hP hS => ?_)
  have hP : mw G.1 vwCl B (mu m11 ou (.inl (G.2 0, 1, .inr (.inl (vp_updL fo 0 v15))))) _ := hP
  refine lv_goto (tgt := 27) hx hb dL_step_16 (by decide) ?_
  refine lv_iconst (v := nI 0) hx hb dL_step_27 (by decide) ?_
  rw [hQ]
  refine vx_ret ?_
  refine W.widen (k := 5) (n := 30) (by omega) (by omega) ?_
  exact W.iret (v := nI 0) hx hb hr (fun t99 ht99 hW99 => ⟨⟨nI 0, mu m11 ou (.inl (G.2 0, 1, .inr (.inl (vp_updL fo 0 v15)))), rfl, (⟨fun a e h1 h2 h3 => (mu_n h2).trans (hR.at h1 h3), _, mu_s _ _ _, Or.inl ⟨rfl, hok, pk_uLs.trans (by first | rfl | decide | (subst_vars; decide))⟩⟩), by show mw _ _ _ _ t99.heap; rw [ht99]; exact hP⟩, hS.F ht99⟩) hS.2.2 dL_step_28

abbrev rm_L_run : Room := { frames := 8, cells := 5, slots := 30, locals := 144 }
set_option maxHeartbeats 4000000 in
set_option maxRecDepth 100000 in
theorem c_L_run (l : Launch) (hlt : l.stackTraces = false) (G : GG) (B : Nat) (μ : mp) (d aS aL aR aT aO bn nn s9 lo : Nat) (nf : List Value) (sa la bE : Nat → Nat) (F : Nat → Nat → Int64) (g : Nat → Int64) (w9 : Nat → Int32) (fS fL fR fT : Nat → Option Nat) (sp : Nat → Nat) (fO : Nat → Int64) (x9 : Int32) (ou : Nat) (fo : Nat → Int64) (hD : DK G μ d aS aL aR aT aO bn nn s9 lo 0 nf sa la bE F g w9 fS fL fR fT sp fO) (hFS : FS F bE g) (hou : μ ou = some (.inl (G.2 0, 1, .inr (.inl fo)))) (hap : Apt d aO s9 lo sa la sp ou) : vx_Met l yL_run wsL_run rm_L_run (va_Pc [.ref d, .int x9, .ref ou] (KX G B μ)) (va_Qi (fun r μ2 => (∀ (a : Nat) (e : va_E), μ a = some e → a ≠ ou → Apt d aO s9 lo sa la sp a → μ2 a = some e) ∧ ∃ fo9 : Nat → Int64, μ2 ou = some (.inl (G.2 0, 1, .inr (.inl fo9))) ∧ ((r = 0 ∧ (okS x9) ∧ fo9 0 = 1) ∨ (r = 1 ∧ ¬ (okS x9)))) (BB G B) (fun q => B ≤ q)) (XX G B μ (fun _ => False)) 5 30 (fun q => B ≤ q) := by
  refine vx_ofWH (cc := cL_run) (maxL := 4) (ret := (some .int)) (by decide) rfl ?_
  intro p e s m args below meth c s₁ B9 hml hv
  obtain ⟨hargs, ⟨hBs, hP, hKK⟩, hDc⟩ := hv
  have hx := B9.exec
  have hb := B9.bytes
  have hr := B9.returns
  have hts := atoms_spec (ws := wsL_run) B9.pre
  have hown : s.vm.findClass RL = some m.cls := findClass_of_methodNamed B9.named
  have htab := vx_table (x := yL_run) B9 (hts (.codeWith yL_run cL_run 4 (some .int) [(0, 9, 12, 13)]) (by decide +kernel))
  have hlocks := B9.notSynchronized
  have hK := hKK.k
  have hS : va_S (fun q => B ≤ q) s.heap s.heap [] := va_S.rf
  obtain ⟨Q, hQ⟩ : ∃ Q, Q = vx_MQ below (va_Qi (fun r μ2 => (∀ (a : Nat) (e : va_E), μ a = some e → a ≠ ou → Apt d aO s9 lo sa la sp a → μ2 a = some e) ∧ ∃ fo9 : Nat → Int64, μ2 ou = some (.inl (G.2 0, 1, .inr (.inl fo9))) ∧ ((r = 0 ∧ (okS x9) ∧ fo9 0 = 1) ∨ (r = 1 ∧ ¬ (okS x9)))) (BB G B) (fun q => B ≤ q)) (XX G B μ (fun _ => False)) args s 5 30 (fun q => B ≤ q) := ⟨_, rfl⟩
  rw [← hQ]
  have hl := lv_entry ([.ref d, .int x9, .ref ou]) (n := 4) (Nat.le_of_ble_eq_true rfl)
  have he9 : entryFrame m args 4 = entryFrame m ([.ref d, .int x9, .ref ou] : List Value).toArray 4 := by rw [hargs]
  rw [he9, lg_entry_eq]
  generalize (lg_sl ([.ref d, .int x9, .ref ou]) ++ List.replicate (4 - (lg_sl ([.ref d, .int x9, .ref ou])).length) Slot.unset).toArray = ls at hl ⊢
  have hl : lv_has ls 4 [(0, .ref d), (1, .int x9), (2, .ref ou)] := hl
  refine lv_aload_n hx hb dL_run_0 rfl (lv_at hl 2 rfl) ?_
  refine lv_iconst (v := nI 0) hx hb dL_run_1 (by decide) ?_
  refine lv_aload_n hx hb dL_run_2 rfl (lv_at hl 0 rfl) ?_
  refine lv_iload_n hx hb dL_run_3 rfl (lv_at hl 1 rfl) ?_
  refine kx_i (vx_runV (As := [.int x9]) (rest := [.int (nI 0), .ref ou]) ⟨hx, hb, hml, hown, hts⟩ (c_X6_run l hlt G B (μ) d aS aL aR aT aO bn nn s9 lo nf sa la bE F g w9 fS fL fR fT sp fO x9 hD hFS) (cwV 1 hts gL_run_X6_run rfl rfl rfl (by decide +kernel) ⟨Nat.le_of_ble_eq_true rfl, Nat.le_of_ble_eq_true rfl⟩) ⟨KX.blind, hP.recv hK rfl (hD.1), fun U9 hU9 hW9 => ⟨rfl, KW.pre hBs hKK hS hP U9 hU9 hW9, hDc.at hW9⟩⟩ rfl rfl hl.1 rfl (lv_room (Nat.le_of_ble_eq_true rfl)) dL_run_4 ⟨(Nat.le_of_ble_eq_true rfl), (Nat.le_of_ble_eq_true rfl)⟩) hS (fun E ce q9 H locs hce hP hS h91 h92 h93 => ?_) (fun r4 m4 H locs hq9 hP hz9 hS => ?_)
  · obtain ⟨eE, hno⟩ := hce
    subst eE
    refine vx_catch (own := RL) (name := exA) hown [] ⟨0, 9, 12, 13⟩ [] (htab.trans rfl) (fun z9 hz9 => nomatch hz9) (by decide) (by decide) (hts (.classLink RL 13 exA) (by decide +kernel)) (va_Nw.use rfl hKK.2.2.2.2.1.1) h91 h92 h93 ?_
    refine lv_astore_n (lv' := [(3, .ref q9), (0, .ref d), (1, .int x9), (2, .ref ou)]) hx hb dL_run_12 rfl hl (by decide) rfl (fun ls hl => ?_)
    refine lv_iconst (v := nI 1) hx hb dL_run_13 (by decide) ?_
    rw [hQ]
    refine vx_ret ?_
    refine W.widen (k := 5) (n := 30) (by omega) (by omega) ?_
    exact W.iret (v := nI 1) hx hb hr (fun t99 ht99 hW99 => ⟨⟨nI 1, μ, rfl, (⟨fun a e h1 _ _ => h1, _, hou, Or.inr ⟨rfl, hno⟩⟩), by show mw _ _ _ _ t99.heap; rw [ht99]; exact hP⟩, hS.F ht99⟩) hS.2.2 dL_run_14
  obtain ⟨hok, hrv, hR⟩ := hq9
  have hou1 := hR.at hou hap
  obtain rfl : r4 = nI 1 := hrv
  refine lv_i2l (v := (nI 1).toInt64) hx hb dL_run_7 rfl ?_
  refine lv_topl (fun v8 ev8 => ?_)
  refine mw_last hx hb hK hP hS 0 (hou1) rfl (by omega) (by omega) dL_run_8 (fun H locs hP hS => ?_)
  have hP : mw G.1 vwCl B (mu m4 ou (.inl (G.2 0, 1, .inr (.inl (vp_updL fo 0 v8))))) _ := hP
  refine lv_goto (tgt := 15) hx hb dL_run_9 (by decide) ?_
  refine lv_iconst (v := nI 0) hx hb dL_run_15 (by decide) ?_
  rw [hQ]
  refine vx_ret ?_
  refine W.widen (k := 5) (n := 30) (by omega) (by omega) ?_
  exact W.iret (v := nI 0) hx hb hr (fun t99 ht99 hW99 => ⟨⟨nI 0, mu m4 ou (.inl (G.2 0, 1, .inr (.inl (vp_updL fo 0 v8)))), rfl, (⟨fun a e h1 h2 h3 => (mu_n h2).trans (hR.at h1 h3), _, mu_s _ _ _, Or.inl ⟨rfl, hok, pk_uLs.trans (by first | rfl | decide | (subst_vars; decide))⟩⟩), by show mw _ _ _ _ t99.heap; rw [ht99]; exact hP⟩, hS.F ht99⟩) hS.2.2 dL_run_16

abbrev rm_L_take : Room := { frames := 8, cells := 5, slots := 30, locals := 142 }
set_option maxHeartbeats 4000000 in
set_option maxRecDepth 100000 in
theorem c_L_take (l : Launch) (hlt : l.stackTraces = false) (G : GG) (B : Nat) (μ : mp) (d aS aL aR aT aO bn nn s9 lo : Nat) (nf : List Value) (sa la bE : Nat → Nat) (F : Nat → Nat → Int64) (g : Nat → Int64) (w9 : Nat → Int32) (fS fL fR fT : Nat → Option Nat) (sp : Nat → Nat) (fO : Nat → Int64) (x9 y9 : Int32) (ou : Nat) (fo : Nat → Int64) (hD : DK G μ d aS aL aR aT aO bn nn s9 lo 0 nf sa la bE F g w9 fS fL fR fT sp fO) (hFS : FS F bE g) (hou : μ ou = some (.inl (G.2 0, 1, .inr (.inl fo)))) (hap : Apt d aO s9 lo sa la sp ou) : vx_Met l yL_take wsL_take rm_L_take (va_Pc [.ref d, .int x9, .int y9, .ref ou] (KX G B μ)) (va_Qi (fun r μ2 => (∀ (a : Nat) (e : va_E), μ a = some e → a ≠ ou → Apt d aO s9 lo sa la sp a → μ2 a = some e) ∧ ∃ fo9 : Nat → Int64, μ2 ou = some (.inl (G.2 0, 1, .inr (.inl fo9))) ∧ ((r = 0 ∧ (okS x9 ∧ okJ y9) ∧ fo9 0 = 0) ∨ (r = 1 ∧ ¬ (okS x9 ∧ okJ y9)))) (BB G B) (fun q => B ≤ q)) (XX G B μ (fun _ => False)) 5 30 (fun q => B ≤ q) := by
  refine vx_ofWH (cc := cL_take) (maxL := 5) (ret := (some .int)) (by decide) rfl ?_
  intro p e s m args below meth c s₁ B9 hml hv
  obtain ⟨hargs, ⟨hBs, hP, hKK⟩, hDc⟩ := hv
  have hx := B9.exec
  have hb := B9.bytes
  have hr := B9.returns
  have hts := atoms_spec (ws := wsL_take) B9.pre
  have hown : s.vm.findClass RL = some m.cls := findClass_of_methodNamed B9.named
  have htab := vx_table (x := yL_take) B9 (hts (.codeWith yL_take cL_take 5 (some .int) [(0, 17, 20, 13)]) (by decide +kernel))
  have hlocks := B9.notSynchronized
  have hK := hKK.k
  have hS : va_S (fun q => B ≤ q) s.heap s.heap [] := va_S.rf
  obtain ⟨Q, hQ⟩ : ∃ Q, Q = vx_MQ below (va_Qi (fun r μ2 => (∀ (a : Nat) (e : va_E), μ a = some e → a ≠ ou → Apt d aO s9 lo sa la sp a → μ2 a = some e) ∧ ∃ fo9 : Nat → Int64, μ2 ou = some (.inl (G.2 0, 1, .inr (.inl fo9))) ∧ ((r = 0 ∧ (okS x9 ∧ okJ y9) ∧ fo9 0 = 0) ∨ (r = 1 ∧ ¬ (okS x9 ∧ okJ y9)))) (BB G B) (fun q => B ≤ q)) (XX G B μ (fun _ => False)) args s 5 30 (fun q => B ≤ q) := ⟨_, rfl⟩
  rw [← hQ]
  have hl := lv_entry ([.ref d, .int x9, .int y9, .ref ou]) (n := 5) (Nat.le_of_ble_eq_true rfl)
  have he9 : entryFrame m args 5 = entryFrame m ([.ref d, .int x9, .int y9, .ref ou] : List Value).toArray 5 := by rw [hargs]
  rw [he9, lg_entry_eq]
  generalize (lg_sl ([.ref d, .int x9, .int y9, .ref ou]) ++ List.replicate (5 - (lg_sl ([.ref d, .int x9, .int y9, .ref ou])).length) Slot.unset).toArray = ls at hl ⊢
  have hl : lv_has ls 5 [(0, .ref d), (1, .int x9), (2, .int y9), (3, .ref ou)] := hl
  refine lv_aload_n hx hb dL_take_0 rfl (lv_at hl 3 rfl) ?_
  refine lv_iconst (v := nI 0) hx hb dL_take_1 (by decide) ?_
  refine lv_aload_n hx hb dL_take_2 rfl (lv_at hl 0 rfl) ?_
  refine lv_iload_n hx hb dL_take_3 rfl (lv_at hl 1 rfl) ?_
  refine lv_iload_n hx hb dL_take_4 rfl (lv_at hl 2 rfl) ?_
  refine kx_i (vx_runV (As := [.int x9, .int y9]) (rest := [.int (nI 0), .ref ou]) ⟨hx, hb, hml, hown, hts⟩ (c_X6_take l hlt G B (μ) d aS aL aR aT aO bn nn s9 lo 0 nf sa la bE F g w9 fS fL fR fT sp fO x9 y9 hD hFS) (cwV 2 hts gL_take_X6_take rfl rfl rfl (by decide +kernel) ⟨Nat.le_of_ble_eq_true rfl, Nat.le_of_ble_eq_true rfl⟩) ⟨KX.blind, hP.recv hK rfl (hD.1), fun U9 hU9 hW9 => ⟨rfl, KW.pre hBs hKK hS hP U9 hU9 hW9, hDc.at hW9⟩⟩ rfl rfl hl.1 rfl (lv_room (Nat.le_of_ble_eq_true rfl)) dL_take_5 ⟨(Nat.le_of_ble_eq_true rfl), (Nat.le_of_ble_eq_true rfl)⟩) hS (fun E ce q9 H locs hce hP hS h91 h92 h93 => ?_) (fun r5 m5 H locs hq9 hP hz9 hS => ?_)
  · obtain ⟨eE, hno⟩ := hce
    subst eE
    refine vx_catch (own := RL) (name := exA) hown [] ⟨0, 17, 20, 13⟩ [] (htab.trans rfl) (fun z9 hz9 => nomatch hz9) (by decide) (by decide) (hts (.classLink RL 13 exA) (by decide +kernel)) (va_Nw.use rfl hKK.2.2.2.2.1.1) h91 h92 h93 ?_
    refine lv_astore (lv' := [(4, .ref q9), (0, .ref d), (1, .int x9), (2, .int y9), (3, .ref ou)]) hx hb dL_take_20 hl (by decide) rfl (fun ls hl => ?_)
    refine lv_iconst (v := nI 1) hx hb dL_take_22 (by decide) ?_
    rw [hQ]
    refine vx_ret ?_
    refine W.widen (k := 5) (n := 30) (by omega) (by omega) ?_
    exact W.iret (v := nI 1) hx hb hr (fun t99 ht99 hW99 => ⟨⟨nI 1, μ, rfl, (⟨fun a e h1 _ _ => h1, _, hou, Or.inr ⟨rfl, hno⟩⟩), by show mw _ _ _ _ t99.heap; rw [ht99]; exact hP⟩, hS.F ht99⟩) hS.2.2 dL_take_23
  obtain ⟨ho1, ho2, hrv, hR⟩ := hq9
  have hok : okS x9 ∧ okJ y9 := ⟨ho1, ho2⟩
  have hou1 := hR.at hou hap
  obtain rfl : r5 = nI 0 := hrv
  refine lv_if_eq (tgt := 15) hx hb dL_take_8 (by decide) (fun hc8 => ?_) (fun hc8 => ?_)
  · refine lv_lconst (v := 0) hx hb dL_take_15 (by decide) ?_
    refine mw_last hx hb hK hP hS 0 (hou1) rfl (by omega) (by omega) dL_take_16 (fun H locs hP hS => ?_)
    have hP : mw G.1 vwCl B (mu m5 ou (.inl (G.2 0, 1, .inr (.inl (vp_updL fo 0 0))))) _ := hP
    refine lv_goto (tgt := 24) hx hb dL_take_17 (by decide) ?_
    refine lv_iconst (v := nI 0) hx hb dL_take_24 (by decide) ?_
    rw [hQ]
    refine vx_ret ?_
    refine W.widen (k := 5) (n := 30) (by omega) (by omega) ?_
    exact W.iret (v := nI 0) hx hb hr (fun t99 ht99 hW99 => ⟨⟨nI 0, mu m5 ou (.inl (G.2 0, 1, .inr (.inl (vp_updL fo 0 0)))), rfl, (⟨fun a e h1 h2 h3 => (mu_n h2).trans (hR.at h1 h3), _, mu_s _ _ _, Or.inl ⟨rfl, hok, pk_uLs.trans (by first | rfl | decide | (subst_vars; decide))⟩⟩), by show mw _ _ _ _ t99.heap; rw [ht99]; exact hP⟩, hS.F ht99⟩) hS.2.2 dL_take_25
  · exact absurd rfl hc8
