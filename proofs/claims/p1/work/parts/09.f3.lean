abbrev rm_X5_init : Room := { frames := 1, cells := 0, slots := 0, locals := 12 }
set_option maxHeartbeats 4000000 in
set_option maxRecDepth 100000 in
theorem c_X5_init (l : Launch) (G : GG) (B : Nat) (μ : mp) (h : Nat) (hh : μ h = some (.inr (5, [.int (nI 0), .int (nI 0), .int (nI 0), .int (nI 0), .int (nI 0), .int (nI 0)]))) : Met l yX5_init wsX5_init rm_X5_init (va_Pc [.ref h] (KW G B μ)) (va_Qv (fun μ2 => μ2 = μ) (BB G B) (fun q => B ≤ q)) 0 0 (fun q => B ≤ q) := by
  refine Met.ofW (cc := cX5_init) (maxL := 1) (ret := none) (by decide) rfl ?_
  intro p e s m args below meth c s₁ B9 hml hv
  obtain ⟨hargs, hBs, hP, hKK⟩ := hv
  have hx := B9.exec
  have hb := B9.bytes
  have hr := B9.returns
  have hts := atoms_spec (ws := wsX5_init) B9.pre
  have hown : s.vm.findClass RX5 = some m.cls := findClass_of_methodNamed B9.named
  have hlocks := B9.notSynchronized
  have hin : meth.name = "<init>" := (name_of_methodNamed B9.named B9.method).1
  have hK := hKK.k
  have hS : va_S (fun q => B ≤ q) s.heap s.heap [] := va_S.rf
  obtain ⟨Q, hQ⟩ : ∃ Q, Q = MQ below (va_Qv (fun μ2 => μ2 = μ) (BB G B) (fun q => B ≤ q)) args s 0 0 (fun q => B ≤ q) := ⟨_, rfl⟩
  rw [← hQ]
  have hl := lv_entry ([.ref h]) (n := 1) (Nat.le_of_ble_eq_true rfl)
  have he9 : entryFrame m args 1 = entryFrame m ([.ref h] : List Value).toArray 1 := by rw [hargs]
  rw [he9, lg_entry_eq]
  generalize (lg_sl ([.ref h]) ++ List.replicate (1 - (lg_sl ([.ref h])).length) Slot.unset).toArray = ls at hl ⊢
  have hl : lv_has ls 1 [(0, .ref h)] := hl
  refine lv_aload_n hx hb dX5_init_0 rfl (lv_at hl 0 rfl) ?_
  refine W.objInit hx hb hown (hts (.methodLink RX5 3 objectInit) (by decide +kernel)) (hts (.instanceMethod objectInit) (by decide +kernel)) (hts (.code objectInit ⟨#[0xb1]⟩ 1 none) (by decide +kernel)) rfl (by rw [hml]; exact hl.1) rfl dX5_init_1 (Nat.le_of_ble_eq_true rfl) (Nat.le_of_ble_eq_true rfl) ?_
  rw [hQ]
  exact W.vret hx hb hr (fun t99 ht99 hW99 => ⟨⟨μ, rfl, (rfl), by show mw _ _ _ _ t99.heap; rw [ht99]; exact hP⟩, hS.F ht99⟩) hS.2.2 dX5_init_4

abbrev rm_X5_write : Room := { frames := 0, cells := 0, slots := 0, locals := 0 }
set_option maxHeartbeats 4000000 in
set_option maxRecDepth 100000 in
theorem c_X5_write (l : Launch) (G : GG) (B : Nat) (μ : mp) (h w9 : Nat) (x1 x2 x3 x4 x5 x6 k9 a9 b9 c9 : Int32) (hh : μ h = some (.inr (5, [.int x1, .int x2, .int x3, .int x4, .int x5, .int x6]))) (hw9 : w9 < 64) : Met l yX5_write wsX5_write rm_X5_write (va_Pc [.ref h, .int (nI w9), .int k9, .int a9, .int b9, .int c9] (KW G B μ)) (va_Qv (fun μ2 => μ2 = mu μ h (.inr (5, [.int (nI (w9 / 8)), .int (nI (w9 % 8)), .int k9, .int a9, .int b9, .int c9]))) (BB G B) (fun q => B ≤ q)) 0 0 (fun q => B ≤ q) := by
  refine Met.ofW (cc := cX5_write) (maxL := 6) (ret := none) (by decide) rfl ?_
  intro p e s m args below meth c s₁ B9 hml hv
  obtain ⟨hargs, hBs, hP, hKK⟩ := hv
  have hx := B9.exec
  have hb := B9.bytes
  have hr := B9.returns
  have hts := atoms_spec (ws := wsX5_write) B9.pre
  have hown : s.vm.findClass RX5 = some m.cls := findClass_of_methodNamed B9.named
  have hlocks := B9.notSynchronized
  have hK := hKK.k
  have hS : va_S (fun q => B ≤ q) s.heap s.heap [] := va_S.rf
  obtain ⟨Q, hQ⟩ : ∃ Q, Q = MQ below (va_Qv (fun μ2 => μ2 = mu μ h (.inr (5, [.int (nI (w9 / 8)), .int (nI (w9 % 8)), .int k9, .int a9, .int b9, .int c9]))) (BB G B) (fun q => B ≤ q)) args s 0 0 (fun q => B ≤ q) := ⟨_, rfl⟩
  rw [← hQ]
  have in_X5_write_X5 : ∀ w ∈ wsX50, w ∈ wsX5_write := by decide +kernel
  have hP : mw G.1 vwCl B (mu μ h (.inr (5, [.int x1, .int x2, .int x3, .int x4, .int x5, .int x6]))) s.heap := mw_eq (mu_i hh).symm hP
  have hl := lv_entry ([.ref h, .int (nI w9), .int k9, .int a9, .int b9, .int c9]) (n := 6) (Nat.le_of_ble_eq_true rfl)
  have he9 : entryFrame m args 6 = entryFrame m ([.ref h, .int (nI w9), .int k9, .int a9, .int b9, .int c9] : List Value).toArray 6 := by rw [hargs]
  rw [he9, lg_entry_eq]
  generalize (lg_sl ([.ref h, .int (nI w9), .int k9, .int a9, .int b9, .int c9]) ++ List.replicate (6 - (lg_sl ([.ref h, .int (nI w9), .int k9, .int a9, .int b9, .int c9])).length) Slot.unset).toArray = ls at hl ⊢
  have hl : lv_has ls 6 [(0, .ref h), (1, .int (nI w9)), (2, .int k9), (3, .int a9), (4, .int b9), (5, .int c9)] := hl
  refine lv_aload_n hx hb dX5_write_0 rfl (lv_at hl 0 rfl) ?_
  refine lv_iload_n hx hb dX5_write_1 rfl (lv_at hl 1 rfl) ?_
  refine lv_bipush (v := nI 8) hx hb dX5_write_2 (by decide) ?_
  refine nv_idiv hx hb (by omega) (by decide) (by decide) dX5_write_4 ?_
  refine mw_put (ty := .int) (v := .int (nI (w9 / 8))) (C := RX5) (T := TX5) (N := 6) hx hb hts in_X5_write_X5 tyX5 tyX5_ok nmX5 hown hK hP hS (mu_s _ _ _) rfl 0 (by decide) (hts (.fieldLink RX5 9 "OctagonDesk$Step" "from" "I") (by decide +kernel)) (fun _ h9 => h9) rfl (by decide +kernel) (by first | rfl | decide +kernel) (by first | rfl | decide +kernel) (Nat.le_of_ble_eq_true rfl) dX5_write_5 (fun H locs hP hS => ?_)
  have hP : mw G.1 vwCl B (mu μ h (.inr (5, [.int (nI (w9 / 8)), .int x2, .int x3, .int x4, .int x5, .int x6]))) _ := mw_eq (mu_u _ _ _ _) hP
  refine lv_aload_n hx hb dX5_write_8 rfl (lv_at hl 0 rfl) ?_
  refine lv_iload_n hx hb dX5_write_9 rfl (lv_at hl 1 rfl) ?_
  refine lv_bipush (v := nI 8) hx hb dX5_write_10 (by decide) ?_
  refine nv_irem hx hb (by omega) (by decide) (by decide) dX5_write_12 ?_
  refine mw_put (ty := .int) (v := .int (nI (w9 % 8))) (C := RX5) (T := TX5) (N := 6) hx hb hts in_X5_write_X5 tyX5 tyX5_ok nmX5 hown hK hP hS (mu_s _ _ _) rfl 1 (by decide) (hts (.fieldLink RX5 15 "OctagonDesk$Step" "to" "I") (by decide +kernel)) (fun _ h9 => h9) rfl (by decide +kernel) (by first | rfl | decide +kernel) (by first | rfl | decide +kernel) (Nat.le_of_ble_eq_true rfl) dX5_write_13 (fun H locs hP hS => ?_)
  have hP : mw G.1 vwCl B (mu μ h (.inr (5, [.int (nI (w9 / 8)), .int (nI (w9 % 8)), .int x3, .int x4, .int x5, .int x6]))) _ := mw_eq (mu_u _ _ _ _) hP
  refine lv_aload_n hx hb dX5_write_16 rfl (lv_at hl 0 rfl) ?_
  refine lv_iload_n hx hb dX5_write_17 rfl (lv_at hl 2 rfl) ?_
  refine mw_put (ty := .int) (v := .int k9) (C := RX5) (T := TX5) (N := 6) hx hb hts in_X5_write_X5 tyX5 tyX5_ok nmX5 hown hK hP hS (mu_s _ _ _) rfl 2 (by decide) (hts (.fieldLink RX5 18 "OctagonDesk$Step" "kind" "I") (by decide +kernel)) (fun _ h9 => h9) rfl (by decide +kernel) (by first | rfl | decide +kernel) (by first | rfl | decide +kernel) (Nat.le_of_ble_eq_true rfl) dX5_write_18 (fun H locs hP hS => ?_)
  have hP : mw G.1 vwCl B (mu μ h (.inr (5, [.int (nI (w9 / 8)), .int (nI (w9 % 8)), .int k9, .int x4, .int x5, .int x6]))) _ := mw_eq (mu_u _ _ _ _) hP
  refine lv_aload_n hx hb dX5_write_21 rfl (lv_at hl 0 rfl) ?_
  refine lv_iload_n hx hb dX5_write_22 rfl (lv_at hl 3 rfl) ?_
  refine mw_put (ty := .int) (v := .int a9) (C := RX5) (T := TX5) (N := 6) hx hb hts in_X5_write_X5 tyX5 tyX5_ok nmX5 hown hK hP hS (mu_s _ _ _) rfl 3 (by decide) (hts (.fieldLink RX5 21 "OctagonDesk$Step" "a" "I") (by decide +kernel)) (fun _ h9 => h9) rfl (by decide +kernel) (by first | rfl | decide +kernel) (by first | rfl | decide +kernel) (Nat.le_of_ble_eq_true rfl) dX5_write_23 (fun H locs hP hS => ?_)
  have hP : mw G.1 vwCl B (mu μ h (.inr (5, [.int (nI (w9 / 8)), .int (nI (w9 % 8)), .int k9, .int a9, .int x5, .int x6]))) _ := mw_eq (mu_u _ _ _ _) hP
  refine lv_aload_n hx hb dX5_write_26 rfl (lv_at hl 0 rfl) ?_
  refine lv_iload hx hb dX5_write_27 (lv_at hl 4 rfl) ?_
  refine mw_put (ty := .int) (v := .int b9) (C := RX5) (T := TX5) (N := 6) hx hb hts in_X5_write_X5 tyX5 tyX5_ok nmX5 hown hK hP hS (mu_s _ _ _) rfl 4 (by decide) (hts (.fieldLink RX5 24 "OctagonDesk$Step" "b" "I") (by decide +kernel)) (fun _ h9 => h9) rfl (by decide +kernel) (by first | rfl | decide +kernel) (by first | rfl | decide +kernel) (Nat.le_of_ble_eq_true rfl) dX5_write_29 (fun H locs hP hS => ?_)
  have hP : mw G.1 vwCl B (mu μ h (.inr (5, [.int (nI (w9 / 8)), .int (nI (w9 % 8)), .int k9, .int a9, .int b9, .int x6]))) _ := mw_eq (mu_u _ _ _ _) hP
  refine lv_aload_n hx hb dX5_write_32 rfl (lv_at hl 0 rfl) ?_
  refine lv_iload hx hb dX5_write_33 (lv_at hl 5 rfl) ?_
  refine mw_put (ty := .int) (v := .int c9) (C := RX5) (T := TX5) (N := 6) hx hb hts in_X5_write_X5 tyX5 tyX5_ok nmX5 hown hK hP hS (mu_s _ _ _) rfl 5 (by decide) (hts (.fieldLink RX5 27 "OctagonDesk$Step" "c" "I") (by decide +kernel)) (fun _ h9 => h9) rfl (by decide +kernel) (by first | rfl | decide +kernel) (by first | rfl | decide +kernel) (Nat.le_of_ble_eq_true rfl) dX5_write_35 (fun H locs hP hS => ?_)
  have hP : mw G.1 vwCl B (mu μ h (.inr (5, [.int (nI (w9 / 8)), .int (nI (w9 % 8)), .int k9, .int a9, .int b9, .int c9]))) _ := mw_eq (mu_u _ _ _ _) hP
  rw [hQ]
  exact W.vret hx hb hr (fun t99 ht99 hW99 => ⟨⟨mu μ h (.inr (5, [.int (nI (w9 / 8)), .int (nI (w9 % 8)), .int k9, .int a9, .int b9, .int c9])), rfl, (rfl), by show mw _ _ _ _ t99.heap; rw [ht99]; exact hP⟩, hS.F ht99⟩) hS.2.2 dX5_write_38

abbrev rm_X6_init : Room := { frames := 5, cells := 89, slots := 4138, locals := 113 }
set_option maxHeartbeats 4000000 in
set_option maxRecDepth 100000 in
theorem c_X6_init (l : Launch) (G : GG) (B : Nat) (μ : mp) (d : Nat) (hh : μ d = some (.inr (6, [.null, .null, .null, .null, .int (nI 0), .null, .null]))) : Met l yX6_init wsX6_init rm_X6_init (va_Pc [.ref d] (KW G B μ)) (va_Qv (fun μ2 => ∃ (aS aL aR aT aO bn nn s9 lo : Nat) (nf : List Value) (sa la bE : Nat → Nat) (F : Nat → Nat → Int64) (g : Nat → Int64) (w9 : Nat → Int32) (fS fL fR fT : Nat → Option Nat) (sp : Nat → Nat) (fO : Nat → Int64), DK G μ2 d aS aL aR aT aO bn nn s9 lo 0 nf sa la bE F g w9 fS fL fR fT sp fO ∧ FS F bE g) (BB G B) (fun q => B ≤ q)) 89 4138 (fun q => B ≤ q) := by
  refine Met.ofW (cc := cX6_init) (maxL := 3) (ret := none) (by decide) rfl ?_
  intro p e s m args below meth c s₁ B9 hml hv
  obtain ⟨hargs, hBs, hP, hKK⟩ := hv
  have hx := B9.exec
  have hb := B9.bytes
  have hr := B9.returns
  have hts := atoms_spec (ws := wsX6_init) B9.pre
  have hown : s.vm.findClass RX6 = some m.cls := findClass_of_methodNamed B9.named
  have hlocks := B9.notSynchronized
  have hin : meth.name = "<init>" := (name_of_methodNamed B9.named B9.method).1
  have hK := hKK.k
  have hS : va_S (fun q => B ≤ q) s.heap s.heap [] := va_S.rf
  obtain ⟨Q, hQ⟩ : ∃ Q, Q = MQ below (va_Qv (fun μ2 => ∃ (aS aL aR aT aO bn nn s9 lo : Nat) (nf : List Value) (sa la bE : Nat → Nat) (F : Nat → Nat → Int64) (g : Nat → Int64) (w9 : Nat → Int32) (fS fL fR fT : Nat → Option Nat) (sp : Nat → Nat) (fO : Nat → Int64), DK G μ2 d aS aL aR aT aO bn nn s9 lo 0 nf sa la bE F g w9 fS fL fR fT sp fO ∧ FS F bE g) (BB G B) (fun q => B ≤ q)) args s 89 4138 (fun q => B ≤ q) := ⟨_, rfl⟩
  rw [← hQ]
  have in_X6_init_X0 : ∀ w ∈ wsX00, w ∈ wsX6_init := by decide +kernel
  have in_X6_init_X4 : ∀ w ∈ wsX40, w ∈ wsX6_init := by decide +kernel
  have in_X6_init_X5 : ∀ w ∈ wsX50, w ∈ wsX6_init := by decide +kernel
  have in_X6_init_X6 : ∀ w ∈ wsX60, w ∈ wsX6_init := by decide +kernel
  have L101 : ∀ (N101 : Nat) (i1 : Nat) (μ1 : mp) (aS : Nat) (aL : Nat) (aR : Nat) (aT : Nat) (aO : Nat) (sa : Nat → Nat) (la : Nat → Nat) (bE : Nat → Nat) (F : Nat → Nat → Int64) (fS : Nat → Option Nat) (fL : Nat → Option Nat) (fR : Nat → Option Nat) (fT : Nat → Option Nat) (sp : Nat → Nat) (fO : Nat → Int64) (bn : Nat) (nn : Nat) (s9 : Nat) (lo : Nat) (nf : List Value) (hN101 : 20 - i1 < N101) (hi : i1 ≤ 20) (hD : DI G bn nn μ1 d [.ref aS, .ref (sa 22), .ref aT, .ref aO, .int (nI 0), .ref aL, .ref aR] 23 sa la bE F) (hBF : BF G μ1 bn nn s9 lo nf) (hDA : DA G μ1 aS aL aR aO sa fS fL fR fO) (hT : μ1 aT = some (.inl (G.2 4, 20, .inr (.inr (.inr (.inr fT)))))) (hSt : Stps μ1 fT sp i1) (hFS : FS F bE (fun _ => 0)), ∀ (H : Heap) (locs : List Loc), mw G.1 vwCl B (μ1) H → va_S (fun q => B ≤ q) s.heap H locs → ∀ ls : Array Slot, lv_has ls 3 [(0, .ref d), (2, .int (nI i1))] → W p l e rm_X6_init s m args below meth c H locs (69 + (i1)) (4018 + 6 * (i1)) Q (F0 m 101 ls []) := by
    intro N101
    induction N101 with
    | zero => intro i1 μ1 aS aL aR aT aO sa la bE F fS fL fR fT sp fO bn nn s9 lo nf hN101; exact absurd hN101 (Nat.not_lt_zero _)
    | succ N101 ih101 =>
      intro i1 μ1 aS aL aR aT aO sa la bE F fS fL fR fT sp fO bn nn s9 lo nf hN101 hi hD hBF hDA hT hSt hFS H locs hP hS ls hl
      refine lv_iload_n hx hb dX6_init_101 rfl (lv_at hl 1 rfl) ?_
      refine lv_bipush (v := nI 20) hx hb dX6_init_102 (by decide) ?_
      refine nv_icmp_ge (tgt := 126) hx hb (by omega) (by omega) dX6_init_104 (by decide) (fun hc104 => ?_) (fun hc104 => ?_)
      · rw [hQ]
        refine W.widen (k := 89) (n := 4138) (by omega) (by omega) ?_
        exact W.vret hx hb hr (fun t99 ht99 hW99 => ⟨⟨μ1, rfl, (⟨aS, aL, aR, aT, aO, bn, nn, s9, lo, nf, sa, la, bE, F, _, _, fS, fL, fR, fT, sp, fO, hD.dk hBF hDA hT (by have e9 : i1 = 20 := (by omega); subst e9; exact hSt) hFS, hFS⟩), by show mw _ _ _ _ t99.heap; rw [ht99]; exact hP⟩, hS.F ht99⟩) hS.2.2 dX6_init_126
      · refine lv_aload_n hx hb dX6_init_107 rfl (lv_at hl 0 rfl) ?_
        refine mw_get (C := RX6) (T := TX6) (N := 7) hx hb hts in_X6_init_X6 hown hK hP (hD.1) rfl 2 (by decide) (hts (.fieldLink RX6 48 "OctagonDesk" "steps" "[LOctagonDesk$Step;") (by decide +kernel)) (fun _ h9 => h9) rfl dX6_init_108 ?_
        refine lv_iload_n hx hb dX6_init_111 rfl (lv_at hl 1 rfl) ?_
        refine mw_new (ci := 5) (fs := [.int (nI 0), .int (nI 0), .int (nI 0), .int (nI 0), .int (nI 0), .int (nI 0)]) (C := RX5) (T := TX5) (N := 6) hx hb hts in_X6_init_X5 tyX5 tyX5_ok hown (hts (.classLink RX6 46 RX5) (by decide +kernel)) (hts (.instantiable RX5 6) (by decide +kernel)) (hts (.initialized RX5) (by decide +kernel)) hK hP hS hBs rfl (fun j hj => by rcases (show j = 0 ∨ j = 1 ∨ j = 2 ∨ j = 3 ∨ j = 4 ∨ j = 5 by omega) with rfl | rfl | rfl | rfl | rfl | rfl <;> rfl) (Nat.le_trans (m := 89) (by omega) (Nat.le_refl _)) (Nat.le_trans (m := 4138) (by omega) (Nat.le_refl _)) dX6_init_112 (fun q112 H hsq112 hzq112 hnq112 hP hS => ?_)
        have nqd_q112 : d ≠ q112 := mp_nn (hD.1) hnq112
        have nqaS_q112 : aS ≠ q112 := mp_nn (hDA.1) hnq112
        have nqaL_q112 : aL ≠ q112 := mp_nn (hDA.2.1) hnq112
        have nqaR_q112 : aR ≠ q112 := mp_nn (hDA.2.2.1) hnq112
        have nqaO_q112 : aO ≠ q112 := mp_nn (hDA.2.2.2.1) hnq112
        have nqaT_q112 : aT ≠ q112 := mp_nn (hT) hnq112
        have nqbn_q112 : bn ≠ q112 := mp_nn (hBF.1) hnq112
        have nqnn_q112 : nn ≠ q112 := mp_nn (hBF.2.1) hnq112
        have nqs9_q112 : s9 ≠ q112 := mp_nn (hBF.2.2.1) hnq112
        have nqlo_q112 : lo ≠ q112 := mp_nn (hBF.2.2.2) hnq112
        have hP : mw G.1 vwCl B (mu μ1 q112 (.inr (5, [.int (nI 0), .int (nI 0), .int (nI 0), .int (nI 0), .int (nI 0), .int (nI 0)]))) _ := hP
        refine lv_dup hx hb dX6_init_115 rfl ?_
        refine kc_v (va_runIN (As := []) (rest := [.ref q112, .int (nI i1), .ref aT]) ⟨hx, hb, hml, hown, hts⟩ (c_X5_init l G B (mu μ1 q112 (.inr (5, [.int (nI 0), .int (nI 0), .int (nI 0), .int (nI 0), .int (nI 0), .int (nI 0)]))) q112 (mu_s _ _ _)) ⟨va_cnB 0 hts gX6_init_X5_init_n52 rfl rfl rfl hKK.2.1.2 (hts (.initialized RX5) (by decide +kernel)) (by decide +kernel) ⟨Nat.le_of_ble_eq_true rfl, Nat.le_of_ble_eq_true rfl⟩, rfl, hts (.instanceMethod yX5_init) (by decide +kernel)⟩ ⟨KW.blind, fun U9 hU9 hW9 => ⟨rfl, KW.pre hBs hKK hS hP U9 hU9 hW9⟩⟩ rfl rfl hl.1 rfl (lv_room (Nat.le_of_ble_eq_true rfl)) dX6_init_116 ⟨(Nat.le_trans (m := 89) (by omega) (Nat.le_refl _)), (Nat.le_trans (m := 4138) (by omega) (Nat.le_refl _))⟩) hS (fun m116 H locs hq9 hP hz9 hS => ?_)
        rw [hq9] at hP
        refine mw_astq (r := (RX5, TX5, 6)) hx hb hK hP hS 4 5 ((mu_n nqaT_q112).trans (hT)) rfl (mu_s _ _ _) rfl (by omega) (by omega) dX6_init_119 (fun H locs hP hS => ?_)
        have hP : mw G.1 vwCl B (mu (mu μ1 q112 (.inr (5, [.int (nI 0), .int (nI 0), .int (nI 0), .int (nI 0), .int (nI 0), .int (nI 0)]))) aT (.inl (G.2 4, 20, .inr (.inr (.inr (.inr (va_up fT i1 (some q112)))))))) _ := hP
        refine lv_iinc (v := nI (i1 + 1)) (lv' := [(2, .int (nI (i1 + 1))), (0, .ref d)]) hx hb dX6_init_120 hl (k := 1) rfl (nI_add _ _) (by decide) rfl (fun ls hl => ?_)
        refine lv_goto (tgt := 101) hx hb dX6_init_123 (by decide) ?_
        refine W.widen (k := 69 + (i1 + 1)) (n := 4018 + 6 * (i1 + 1)) (by omega) (by omega) ?_
        exact ih101 (i1 + 1) (mu (mu μ1 q112 (.inr (5, [.int (nI 0), .int (nI 0), .int (nI 0), .int (nI 0), .int (nI 0), .int (nI 0)]))) aT (.inl (G.2 4, 20, .inr (.inr (.inr (.inr (va_up fT i1 (some q112)))))))) aS aL aR aT aO sa la bE F fS fL fR (va_up fT i1 (some q112)) (va_up sp i1 q112) fO bn nn s9 lo nf (by omega) (by omega) ((hD.new hnq112).set (mp_ne hD.1 hT (by simp)) (hD.apT hT)) ((hBF.new hnq112).T ((mu_n (mp_nn hT hnq112)).trans hT)) ((hDA.set nqaS_q112 nqaL_q112 nqaR_q112 nqaO_q112).set ((mp_ne hDA.1 hT (by simp))) ((mp_ne hDA.2.1 hT (by simp))) ((mp_ne hDA.2.2.1 hT (by simp))) ((mp_ne hDA.2.2.2.1 hT (by simp)))) ((mu_s _ _ _)) (hSt.next hnq112 hT) (hFS) _ _ hP hS ls (lv_sub hl [1, 0] rfl)
  have L24 : ∀ (N24 : Nat) (i1 : Nat) (μ1 : mp) (aS : Nat) (fS : Nat → Option Nat) (sa : Nat → Nat) (la : Nat → Nat) (bE : Nat → Nat) (F : Nat → Nat → Int64) (bn : Nat) (nn : Nat) (s9 : Nat) (lo : Nat) (nf : List Value) (hN24 : 6 - i1 < N24) (hi : i1 ≤ 6) (hD : DI G bn nn μ1 d [.ref aS, .null, .null, .null, .int (nI 0), .null, .null] 6 sa la bE F) (hBF : BF G μ1 bn nn s9 lo nf) (hr : μ1 aS = some (.inl (G.2 3, 6, .inr (.inr (.inr (.inr fS)))))) (hA : ∀ j, j < 6 → fS j = some (sa j)) (hf : ∀ j, j < 6 → (j < i1 → Fr F bE j) ∧ (i1 ≤ j → F j = fun _ => 0)), ∀ (H : Heap) (locs : List Loc), mw G.1 vwCl B (μ1) H → va_S (fun q => B ≤ q) s.heap H locs → ∀ ls : Array Slot, lv_has ls 3 [(0, .ref d), (1, .ref bn), (2, .int (nI i1))] → W p l e rm_X6_init s m args below meth c H locs 31 2573 Q (F0 m 24 ls []) := by
    intro N24
    induction N24 with
    | zero => intro i1 μ1 aS fS sa la bE F bn nn s9 lo nf hN24; exact absurd hN24 (Nat.not_lt_zero _)
    | succ N24 ih24 =>
      intro i1 μ1 aS fS sa la bE F bn nn s9 lo nf hN24 hi hD hBF hr hA hf H locs hP hS ls hl
      refine lv_iload_n hx hb dX6_init_24 rfl (lv_at hl 2 rfl) ?_
      refine lv_bipush (v := nI 6) hx hb dX6_init_25 (by decide) ?_
      refine nv_icmp_ge (tgt := 45) hx hb (by omega) (by omega) dX6_init_27 (by decide) (fun hc27 => ?_) (fun hc27 => ?_)
      · refine lv_aload_n hx hb dX6_init_45 rfl (lv_at hl 0 rfl) ?_
        refine lv_aload_n hx hb dX6_init_46 rfl (lv_at hl 1 rfl) ?_
        refine lv_bipush (v := nI 8) hx hb dX6_init_47 (by decide) ?_
        refine kc_r (va_runS (As := [.ref bn, .int (nI 8)]) (rest := [.ref d]) ⟨hx, hb, hml, hown, hts⟩ (c_X6_emptyShapes l G B (μ1) bn nn s9 lo 8 (hBF.1) (by omega)) (va_cwS 2 hts gX6_init_X6_emptyShapes rfl rfl rfl (by decide +kernel) ⟨Nat.le_of_ble_eq_true rfl, Nat.le_of_ble_eq_true rfl⟩) ⟨KW.blind, fun U9 hU9 hW9 => ⟨rfl, KW.pre hBs hKK hS hP U9 hU9 hW9⟩⟩ rfl rfl hl.1 rfl (lv_room (Nat.le_of_ble_eq_true rfl)) dX6_init_49 ⟨(Nat.le_of_ble_eq_true rfl), (Nat.le_of_ble_eq_true rfl)⟩) hS (fun m49 r49 H locs hq9 hP hz9 hS => ?_)
        obtain ⟨hn49, f49, s49, l49, b49, F49, ha49, hA49, hE49⟩ := hq9
        have hx49d := hE49.1 _ _ (hD.1)
        have nr49d : d ≠ r49 := mp_nn (hD.1) hn49
        have hx49aS := hE49.1 _ _ (hr)
        have nr49aS : aS ≠ r49 := mp_nn (hr) hn49
        have hx49bn := hE49.1 _ _ (hBF.1)
        have nr49bn : bn ≠ r49 := mp_nn (hBF.1) hn49
        have hx49nn := hE49.1 _ _ (hBF.2.1)
        have nr49nn : nn ≠ r49 := mp_nn (hBF.2.1) hn49
        have hx49s9 := hE49.1 _ _ (hBF.2.2.1)
        have nr49s9 : s9 ≠ r49 := mp_nn (hBF.2.2.1) hn49
        have hx49lo := hE49.1 _ _ (hBF.2.2.2)
        have nr49lo : lo ≠ r49 := mp_nn (hBF.2.2.2) hn49
        refine mw_put (ty := .array (.object "OctagonDesk$Shape")) (v := .ref r49) (C := RX6) (T := TX6) (N := 7) hx hb hts in_X6_init_X6 tyX6 tyX6_ok nmX6 hown hK hP hS (hx49d) rfl 5 (by decide) (hts (.fieldLink RX6 25 "OctagonDesk" "left" "[LOctagonDesk$Shape;") (by decide +kernel)) (fun _ h9 => h9) rfl (by decide +kernel) (by first | rfl | decide +kernel) (by first | rfl | decide +kernel) (Nat.le_of_ble_eq_true rfl) dX6_init_52 (fun H locs hP hS => ?_)
        have hP : mw G.1 vwCl B (mu m49 d (.inr (6, [.ref aS, .null, .null, .null, .int (nI 0), .ref r49, .null]))) _ := hP
        refine lv_aload_n hx hb dX6_init_55 rfl (lv_at hl 0 rfl) ?_
        refine lv_aload_n hx hb dX6_init_56 rfl (lv_at hl 1 rfl) ?_
        refine lv_bipush (v := nI 8) hx hb dX6_init_57 (by decide) ?_
        refine kc_r (va_runS (As := [.ref bn, .int (nI 8)]) (rest := [.ref d]) ⟨hx, hb, hml, hown, hts⟩ (c_X6_emptyShapes l G B (mu m49 d (.inr (6, [.ref aS, .null, .null, .null, .int (nI 0), .ref r49, .null]))) bn nn s9 lo 8 ((mu_n ((mp_ne hx49bn hx49d (by simp)))).trans (hx49bn)) (by omega)) (va_cwS 2 hts gX6_init_X6_emptyShapes rfl rfl rfl (by decide +kernel) ⟨Nat.le_of_ble_eq_true rfl, Nat.le_of_ble_eq_true rfl⟩) ⟨KW.blind, fun U9 hU9 hW9 => ⟨rfl, KW.pre hBs hKK hS hP U9 hU9 hW9⟩⟩ rfl rfl hl.1 rfl (lv_room (Nat.le_of_ble_eq_true rfl)) dX6_init_59 ⟨(Nat.le_of_ble_eq_true rfl), (Nat.le_of_ble_eq_true rfl)⟩) hS (fun m59 r59 H locs hq9 hP hz9 hS => ?_)
        obtain ⟨hn59, f59, s59, l59, b59, F59, ha59, hA59, hE59⟩ := hq9
        have hx59d := hE59.1 _ _ (mu_s _ _ _)
        have nr59d : d ≠ r59 := mp_nn (mu_s _ _ _) hn59
        have hx59aS := hE59.1 _ _ ((mu_n ((mp_ne hx49aS hx49d (by simp)))).trans (hx49aS))
        have nr59aS : aS ≠ r59 := mp_nn ((mu_n ((mp_ne hx49aS hx49d (by simp)))).trans (hx49aS)) hn59
        have hx59bn := hE59.1 _ _ ((mu_n ((mp_ne hx49bn hx49d (by simp)))).trans (hx49bn))
        have nr59bn : bn ≠ r59 := mp_nn ((mu_n ((mp_ne hx49bn hx49d (by simp)))).trans (hx49bn)) hn59
        have hx59nn := hE59.1 _ _ ((mu_n ((mp_ne hx49nn hx49d (by simp)))).trans (hx49nn))
        have nr59nn : nn ≠ r59 := mp_nn ((mu_n ((mp_ne hx49nn hx49d (by simp)))).trans (hx49nn)) hn59
        have hx59s9 := hE59.1 _ _ ((mu_n ((mp_ne hx49s9 hx49d (by simp)))).trans (hx49s9))
        have nr59s9 : s9 ≠ r59 := mp_nn ((mu_n ((mp_ne hx49s9 hx49d (by simp)))).trans (hx49s9)) hn59
        have hx59lo := hE59.1 _ _ ((mu_n ((mp_ne hx49lo hx49d (by simp)))).trans (hx49lo))
        have nr59lo : lo ≠ r59 := mp_nn ((mu_n ((mp_ne hx49lo hx49d (by simp)))).trans (hx49lo)) hn59
        have hx59r49 := hE59.1 _ _ ((mu_n ((Ne.symm nr49d))).trans (ha49))
        have nr59r49 : r49 ≠ r59 := mp_nn ((mu_n ((Ne.symm nr49d))).trans (ha49)) hn59
        refine mw_put (ty := .array (.object "OctagonDesk$Shape")) (v := .ref r59) (C := RX6) (T := TX6) (N := 7) hx hb hts in_X6_init_X6 tyX6 tyX6_ok nmX6 hown hK hP hS (hx59d) rfl 6 (by decide) (hts (.fieldLink RX6 28 "OctagonDesk" "reached" "[LOctagonDesk$Shape;") (by decide +kernel)) (fun _ h9 => h9) rfl (by decide +kernel) (by first | rfl | decide +kernel) (by first | rfl | decide +kernel) (Nat.le_of_ble_eq_true rfl) dX6_init_62 (fun H locs hP hS => ?_)
        have hP : mw G.1 vwCl B (mu m59 d (.inr (6, [.ref aS, .null, .null, .null, .int (nI 0), .ref r49, .ref r59]))) _ := hP
        refine lv_aload_n hx hb dX6_init_65 rfl (lv_at hl 0 rfl) ?_
        refine mw_new (ci := 4) (fs := [.null, .null, .null, .int (nI 0)]) (C := RX4) (T := TX4) (N := 4) hx hb hts in_X6_init_X4 tyX4 tyX4_ok hown (hts (.classLink RX6 21 RX4) (by decide +kernel)) (hts (.instantiable RX4 4) (by decide +kernel)) (hts (.initialized RX4) (by decide +kernel)) hK hP hS hBs rfl (fun j hj => by rcases (show j = 0 ∨ j = 1 ∨ j = 2 ∨ j = 3 by omega) with rfl | rfl | rfl | rfl <;> rfl) (Nat.le_of_ble_eq_true rfl) (Nat.le_of_ble_eq_true rfl) dX6_init_66 (fun q66 H hsq66 hzq66 hnq66 hP hS => ?_)
        have nqd_q66 : d ≠ q66 := mp_nn (mu_s _ _ _) hnq66
        have nqaS_q66 : aS ≠ q66 := mp_nn ((mu_n ((mp_ne hx59aS hx59d (by simp)))).trans (hx59aS)) hnq66
        have nqbn_q66 : bn ≠ q66 := mp_nn ((mu_n ((mp_ne hx59bn hx59d (by simp)))).trans (hx59bn)) hnq66
        have nqnn_q66 : nn ≠ q66 := mp_nn ((mu_n ((mp_ne hx59nn hx59d (by simp)))).trans (hx59nn)) hnq66
        have nqs9_q66 : s9 ≠ q66 := mp_nn ((mu_n ((mp_ne hx59s9 hx59d (by simp)))).trans (hx59s9)) hnq66
        have nqlo_q66 : lo ≠ q66 := mp_nn ((mu_n ((mp_ne hx59lo hx59d (by simp)))).trans (hx59lo)) hnq66
        have nqr49_q66 : r49 ≠ q66 := mp_nn ((mu_n ((Ne.symm nr49d))).trans (hx59r49)) hnq66
        have nqr59_q66 : r59 ≠ q66 := mp_nn ((mu_n ((Ne.symm nr59d))).trans (ha59)) hnq66
        have hP : mw G.1 vwCl B (mu (mu m59 d (.inr (6, [.ref aS, .null, .null, .null, .int (nI 0), .ref r49, .ref r59]))) q66 (.inr (4, [.null, .null, .null, .int (nI 0)]))) _ := hP
        refine lv_dup hx hb dX6_init_69 rfl ?_
        refine lv_aload_n hx hb dX6_init_70 rfl (lv_at hl 1 rfl) ?_
        refine kc_v (va_runI (As := [.ref bn]) (rest := [.ref q66, .ref d]) ⟨hx, hb, hml, hown, hts⟩ (c_X4_init l G B (mu (mu m59 d (.inr (6, [.ref aS, .null, .null, .null, .int (nI 0), .ref r49, .ref r59]))) q66 (.inr (4, [.null, .null, .null, .int (nI 0)]))) q66 bn nn s9 lo (mu_s _ _ _) ((mu_n nqbn_q66).trans ((mu_n ((mp_ne hx59bn hx59d (by simp)))).trans (hx59bn)))) (cwI 1 hts gX6_init_X4_init rfl rfl rfl (hts (.initialized RX4) (by decide +kernel)) (hts (.methodLink RX6 31 yX4_init) (by decide +kernel)) (hts (.instanceMethod yX4_init) (by decide +kernel)) rfl (by decide +kernel) ⟨Nat.le_of_ble_eq_true rfl, Nat.le_of_ble_eq_true rfl⟩) ⟨KW.blind, fun U9 hU9 hW9 => ⟨rfl, KW.pre hBs hKK hS hP U9 hU9 hW9⟩⟩ rfl rfl hl.1 rfl (lv_room (Nat.le_of_ble_eq_true rfl)) dX6_init_71 ⟨(Nat.le_of_ble_eq_true rfl), (Nat.le_of_ble_eq_true rfl)⟩) hS (fun m71 H locs hq9 hP hz9 hS => ?_)
        obtain ⟨l71, hn71, hl71, rfl⟩ := hq9
        have nqd_l71 : d ≠ l71 := mp_nn ((mu_n nqd_q66).trans (mu_s _ _ _)) hn71
        have nqaS_l71 : aS ≠ l71 := mp_nn ((mu_n nqaS_q66).trans ((mu_n ((mp_ne hx59aS hx59d (by simp)))).trans (hx59aS))) hn71
        have nqbn_l71 : bn ≠ l71 := mp_nn ((mu_n nqbn_q66).trans ((mu_n ((mp_ne hx59bn hx59d (by simp)))).trans (hx59bn))) hn71
        have nqnn_l71 : nn ≠ l71 := mp_nn ((mu_n nqnn_q66).trans ((mu_n ((mp_ne hx59nn hx59d (by simp)))).trans (hx59nn))) hn71
        have nqs9_l71 : s9 ≠ l71 := mp_nn ((mu_n nqs9_q66).trans ((mu_n ((mp_ne hx59s9 hx59d (by simp)))).trans (hx59s9))) hn71
        have nqlo_l71 : lo ≠ l71 := mp_nn ((mu_n nqlo_q66).trans ((mu_n ((mp_ne hx59lo hx59d (by simp)))).trans (hx59lo))) hn71
        have nqr49_l71 : r49 ≠ l71 := mp_nn ((mu_n nqr49_q66).trans ((mu_n ((Ne.symm nr49d))).trans (hx59r49))) hn71
        have nqr59_l71 : r59 ≠ l71 := mp_nn ((mu_n nqr59_q66).trans ((mu_n ((Ne.symm nr59d))).trans (ha59))) hn71
        have nqq66_l71 : q66 ≠ l71 := mp_nn (mu_s _ _ _) hn71
        have hP : mw G.1 vwCl B (mu (mu (mu m59 d (.inr (6, [.ref aS, .null, .null, .null, .int (nI 0), .ref r49, .ref r59]))) q66 (.inr (4, [.ref bn, .ref nn, .ref l71, .int (nI 1)]))) l71 (.inl (G.2 0, 78, .inr (.inl (fun _ => 0))))) _ := mw_eq (congrArg (fun z => mu z l71 (.inl (G.2 0, 78, .inr (.inl (fun _ => 0))))) (mu_u _ _ _ _)) hP
        refine mw_putF (ty := .object "OctagonDesk$Shape") (v := .ref q66) (C := RX6) (T := TX6) (N := 7) hx hb hts in_X6_init_X6 tyX6 tyX6_ok nmX6 hown hK hP hS ((mu_n nqd_l71).trans ((mu_n nqd_q66).trans (mu_s _ _ _))) rfl 1 (by decide) (hts (.fieldLink RX6 34 "OctagonDesk" "made" "LOctagonDesk$Shape;") (by decide +kernel)) (fun _ h9 => h9) rfl hin rfl (by decide +kernel) (by first | rfl | decide +kernel) (by first | rfl | decide +kernel) (Nat.le_of_ble_eq_true rfl) dX6_init_74 (fun H locs hP hS => ?_)
        have hP : mw G.1 vwCl B (mu (mu (mu m59 d (.inr (6, [.ref aS, .ref q66, .null, .null, .int (nI 0), .ref r49, .ref r59]))) q66 (.inr (4, [.ref bn, .ref nn, .ref l71, .int (nI 1)]))) l71 (.inl (G.2 0, 78, .inr (.inl (fun _ => 0))))) _ := mw_eq ((mu_c _ _ ((Ne.symm nqd_l71))).trans (congrArg (fun z => mu z l71 (.inl (G.2 0, 78, .inr (.inl (fun _ => 0))))) ((mu_c _ _ ((Ne.symm nqd_q66))).trans (congrArg (fun z => mu z q66 (.inr (4, [.ref bn, .ref nn, .ref l71, .int (nI 1)]))) (mu_u _ _ _ _))))) hP
        refine lv_aload_n hx hb dX6_init_77 rfl (lv_at hl 0 rfl) ?_
        refine lv_bipush (v := nI 6) hx hb dX6_init_78 (by decide) ?_
        refine mw_newa (n := 6) (a0 := (6, .inr (.inl (fun _ => 0)))) (atype := .long) (ty := .long) hx hb (hts (.arrayClass .long) (by decide +kernel)) rfl hK hP hS hBs 0 rfl (fun cA9 => vp0_J cA9 (6)) (by omega) (by show (6) * _ ≤ _; simp only [componentBytes]; omega) (Nat.le_of_ble_eq_true rfl) (Nat.le_of_ble_eq_true rfl) dX6_init_80 (fun q80 H hsq80 hzq80 hnq80 hP hS => ?_)
        have nqd_q80 : d ≠ q80 := mp_nn ((mu_n nqd_l71).trans ((mu_n nqd_q66).trans (mu_s _ _ _))) hnq80
        have nqaS_q80 : aS ≠ q80 := mp_nn ((mu_n nqaS_l71).trans ((mu_n nqaS_q66).trans ((mu_n ((mp_ne hx59aS hx59d (by simp)))).trans (hx59aS)))) hnq80
        have nqbn_q80 : bn ≠ q80 := mp_nn ((mu_n nqbn_l71).trans ((mu_n nqbn_q66).trans ((mu_n ((mp_ne hx59bn hx59d (by simp)))).trans (hx59bn)))) hnq80
        have nqnn_q80 : nn ≠ q80 := mp_nn ((mu_n nqnn_l71).trans ((mu_n nqnn_q66).trans ((mu_n ((mp_ne hx59nn hx59d (by simp)))).trans (hx59nn)))) hnq80
        have nqs9_q80 : s9 ≠ q80 := mp_nn ((mu_n nqs9_l71).trans ((mu_n nqs9_q66).trans ((mu_n ((mp_ne hx59s9 hx59d (by simp)))).trans (hx59s9)))) hnq80
        have nqlo_q80 : lo ≠ q80 := mp_nn ((mu_n nqlo_l71).trans ((mu_n nqlo_q66).trans ((mu_n ((mp_ne hx59lo hx59d (by simp)))).trans (hx59lo)))) hnq80
        have nqr49_q80 : r49 ≠ q80 := mp_nn ((mu_n nqr49_l71).trans ((mu_n nqr49_q66).trans ((mu_n ((Ne.symm nr49d))).trans (hx59r49)))) hnq80
        have nqr59_q80 : r59 ≠ q80 := mp_nn ((mu_n nqr59_l71).trans ((mu_n nqr59_q66).trans ((mu_n ((Ne.symm nr59d))).trans (ha59)))) hnq80
        have nqq66_q80 : q66 ≠ q80 := mp_nn ((mu_n nqq66_l71).trans (mu_s _ _ _)) hnq80
        have nql71_q80 : l71 ≠ q80 := mp_nn (mu_s _ _ _) hnq80
        have hP : mw G.1 vwCl B (mu (mu (mu (mu m59 d (.inr (6, [.ref aS, .ref q66, .null, .null, .int (nI 0), .ref r49, .ref r59]))) q66 (.inr (4, [.ref bn, .ref nn, .ref l71, .int (nI 1)]))) l71 (.inl (G.2 0, 78, .inr (.inl (fun _ => 0))))) q80 (.inl (G.2 0, 6, .inr (.inl (fun _ => 0))))) _ := hP
        refine mw_putF (ty := .array .long) (v := .ref q80) (C := RX6) (T := TX6) (N := 7) hx hb hts in_X6_init_X6 tyX6 tyX6_ok nmX6 hown hK hP hS ((mu_n nqd_q80).trans ((mu_n nqd_l71).trans ((mu_n nqd_q66).trans (mu_s _ _ _)))) rfl 3 (by decide) (hts (.fieldLink RX6 38 "OctagonDesk" "offsets" "[J") (by decide +kernel)) (fun _ h9 => h9) rfl hin rfl (by decide +kernel) (by first | rfl | decide +kernel) (by first | rfl | decide +kernel) (Nat.le_of_ble_eq_true rfl) dX6_init_82 (fun H locs hP hS => ?_)
        have hP : mw G.1 vwCl B (mu (mu (mu (mu m59 d (.inr (6, [.ref aS, .ref q66, .null, .ref q80, .int (nI 0), .ref r49, .ref r59]))) q66 (.inr (4, [.ref bn, .ref nn, .ref l71, .int (nI 1)]))) l71 (.inl (G.2 0, 78, .inr (.inl (fun _ => 0))))) q80 (.inl (G.2 0, 6, .inr (.inl (fun _ => 0))))) _ := mw_eq ((mu_c _ _ ((Ne.symm nqd_q80))).trans (congrArg (fun z => mu z q80 (.inl (G.2 0, 6, .inr (.inl (fun _ => 0))))) ((mu_c _ _ ((Ne.symm nqd_l71))).trans (congrArg (fun z => mu z l71 (.inl (G.2 0, 78, .inr (.inl (fun _ => 0))))) ((mu_c _ _ ((Ne.symm nqd_q66))).trans (congrArg (fun z => mu z q66 (.inr (4, [.ref bn, .ref nn, .ref l71, .int (nI 1)]))) (mu_u _ _ _ _))))))) hP
        refine lv_aload_n hx hb dX6_init_85 rfl (lv_at hl 0 rfl) ?_
        refine lv_iconst (v := nI 0) hx hb dX6_init_86 (by decide) ?_
        refine mw_put (ty := .int) (v := .int (nI 0)) (C := RX6) (T := TX6) (N := 7) hx hb hts in_X6_init_X6 tyX6 tyX6_ok nmX6 hown hK hP hS ((mu_n nqd_q80).trans ((mu_n nqd_l71).trans ((mu_n nqd_q66).trans (mu_s _ _ _)))) rfl 4 (by decide) (hts (.fieldLink RX6 42 "OctagonDesk" "stepCount" "I") (by decide +kernel)) (fun _ h9 => h9) rfl (by decide +kernel) (by first | rfl | decide +kernel) (by first | rfl | decide +kernel) (Nat.le_of_ble_eq_true rfl) dX6_init_87 (fun H locs hP hS => ?_)
        have hP : mw G.1 vwCl B (mu (mu (mu (mu m59 d (.inr (6, [.ref aS, .ref q66, .null, .ref q80, .int (nI 0), .ref r49, .ref r59]))) q66 (.inr (4, [.ref bn, .ref nn, .ref l71, .int (nI 1)]))) l71 (.inl (G.2 0, 78, .inr (.inl (fun _ => 0))))) q80 (.inl (G.2 0, 6, .inr (.inl (fun _ => 0))))) _ := mw_eq ((mu_c _ _ ((Ne.symm nqd_q80))).trans (congrArg (fun z => mu z q80 (.inl (G.2 0, 6, .inr (.inl (fun _ => 0))))) ((mu_c _ _ ((Ne.symm nqd_l71))).trans (congrArg (fun z => mu z l71 (.inl (G.2 0, 78, .inr (.inl (fun _ => 0))))) ((mu_c _ _ ((Ne.symm nqd_q66))).trans (congrArg (fun z => mu z q66 (.inr (4, [.ref bn, .ref nn, .ref l71, .int (nI 1)]))) (mu_u _ _ _ _))))))) hP
        refine lv_aload_n hx hb dX6_init_90 rfl (lv_at hl 0 rfl) ?_
        refine lv_bipush (v := nI 20) hx hb dX6_init_91 (by decide) ?_
        refine mw_newq hx hb hown (hts (.classLink RX6 46 RX5) (by decide +kernel)) hKK.2.2.1.2.1 hK hP hS hBs 4 rfl (by omega) (Nat.le_of_ble_eq_true rfl) (Nat.le_of_ble_eq_true rfl) dX6_init_93 (fun q93 H hsq93 hzq93 hnq93 hP hS => ?_)
        have nqd_q93 : d ≠ q93 := mp_nn ((mu_n nqd_q80).trans ((mu_n nqd_l71).trans ((mu_n nqd_q66).trans (mu_s _ _ _)))) hnq93
        have nqaS_q93 : aS ≠ q93 := mp_nn ((mu_n nqaS_q80).trans ((mu_n nqaS_l71).trans ((mu_n nqaS_q66).trans ((mu_n ((mp_ne hx59aS hx59d (by simp)))).trans (hx59aS))))) hnq93
        have nqbn_q93 : bn ≠ q93 := mp_nn ((mu_n nqbn_q80).trans ((mu_n nqbn_l71).trans ((mu_n nqbn_q66).trans ((mu_n ((mp_ne hx59bn hx59d (by simp)))).trans (hx59bn))))) hnq93
        have nqnn_q93 : nn ≠ q93 := mp_nn ((mu_n nqnn_q80).trans ((mu_n nqnn_l71).trans ((mu_n nqnn_q66).trans ((mu_n ((mp_ne hx59nn hx59d (by simp)))).trans (hx59nn))))) hnq93
        have nqs9_q93 : s9 ≠ q93 := mp_nn ((mu_n nqs9_q80).trans ((mu_n nqs9_l71).trans ((mu_n nqs9_q66).trans ((mu_n ((mp_ne hx59s9 hx59d (by simp)))).trans (hx59s9))))) hnq93
        have nqlo_q93 : lo ≠ q93 := mp_nn ((mu_n nqlo_q80).trans ((mu_n nqlo_l71).trans ((mu_n nqlo_q66).trans ((mu_n ((mp_ne hx59lo hx59d (by simp)))).trans (hx59lo))))) hnq93
        have nqr49_q93 : r49 ≠ q93 := mp_nn ((mu_n nqr49_q80).trans ((mu_n nqr49_l71).trans ((mu_n nqr49_q66).trans ((mu_n ((Ne.symm nr49d))).trans (hx59r49))))) hnq93
        have nqr59_q93 : r59 ≠ q93 := mp_nn ((mu_n nqr59_q80).trans ((mu_n nqr59_l71).trans ((mu_n nqr59_q66).trans ((mu_n ((Ne.symm nr59d))).trans (ha59))))) hnq93
        have nqq66_q93 : q66 ≠ q93 := mp_nn ((mu_n nqq66_q80).trans ((mu_n nqq66_l71).trans (mu_s _ _ _))) hnq93
        have nql71_q93 : l71 ≠ q93 := mp_nn ((mu_n nql71_q80).trans (mu_s _ _ _)) hnq93
        have nqq80_q93 : q80 ≠ q93 := mp_nn (mu_s _ _ _) hnq93
        have hP : mw G.1 vwCl B (mu (mu (mu (mu (mu m59 d (.inr (6, [.ref aS, .ref q66, .null, .ref q80, .int (nI 0), .ref r49, .ref r59]))) q66 (.inr (4, [.ref bn, .ref nn, .ref l71, .int (nI 1)]))) l71 (.inl (G.2 0, 78, .inr (.inl (fun _ => 0))))) q80 (.inl (G.2 0, 6, .inr (.inl (fun _ => 0))))) q93 (.inl (G.2 4, 20, .inr (.inr (.inr (.inr (fun _ => none))))))) _ := hP
        refine mw_putF (ty := .array (.object "OctagonDesk$Step")) (v := .ref q93) (C := RX6) (T := TX6) (N := 7) hx hb hts in_X6_init_X6 tyX6 tyX6_ok nmX6 hown hK hP hS ((mu_n nqd_q93).trans ((mu_n nqd_q80).trans ((mu_n nqd_l71).trans ((mu_n nqd_q66).trans (mu_s _ _ _))))) rfl 2 (by decide) (hts (.fieldLink RX6 48 "OctagonDesk" "steps" "[LOctagonDesk$Step;") (by decide +kernel)) (fun _ h9 => h9) rfl hin rfl (by decide +kernel) (by first | rfl | decide +kernel) (by first | rfl | decide +kernel) (Nat.le_of_ble_eq_true rfl) dX6_init_96 (fun H locs hP hS => ?_)
        have hP : mw G.1 vwCl B (mu (mu (mu (mu (mu m59 d (.inr (6, [.ref aS, .ref q66, .ref q93, .ref q80, .int (nI 0), .ref r49, .ref r59]))) q66 (.inr (4, [.ref bn, .ref nn, .ref l71, .int (nI 1)]))) l71 (.inl (G.2 0, 78, .inr (.inl (fun _ => 0))))) q80 (.inl (G.2 0, 6, .inr (.inl (fun _ => 0))))) q93 (.inl (G.2 4, 20, .inr (.inr (.inr (.inr (fun _ => none))))))) _ := mw_eq ((mu_c _ _ ((Ne.symm nqd_q93))).trans (congrArg (fun z => mu z q93 (.inl (G.2 4, 20, .inr (.inr (.inr (.inr (fun _ => none))))))) ((mu_c _ _ ((Ne.symm nqd_q80))).trans (congrArg (fun z => mu z q80 (.inl (G.2 0, 6, .inr (.inl (fun _ => 0))))) ((mu_c _ _ ((Ne.symm nqd_l71))).trans (congrArg (fun z => mu z l71 (.inl (G.2 0, 78, .inr (.inl (fun _ => 0))))) ((mu_c _ _ ((Ne.symm nqd_q66))).trans (congrArg (fun z => mu z q66 (.inr (4, [.ref bn, .ref nn, .ref l71, .int (nI 1)]))) (mu_u _ _ _ _))))))))) hP
        refine lv_iconst (v := nI 0) hx hb dX6_init_99 (by decide) ?_
        refine lv_istore_n (lv' := [(2, .int (nI 0)), (0, .ref d), (1, .ref bn)]) hx hb dX6_init_100 rfl hl (by decide) rfl (fun ls hl => ?_)
        refine W.widen (k := 69 + (0)) (n := 4018 + 6 * (0)) (by omega) (by omega) ?_
        exact L101 _ 0 (mu (mu (mu (mu (mu m59 d (.inr (6, [.ref aS, .ref q66, .ref q93, .ref q80, .int (nI 0), .ref r49, .ref r59]))) q66 (.inr (4, [.ref bn, .ref nn, .ref l71, .int (nI 1)]))) l71 (.inl (G.2 0, 78, .inr (.inl (fun _ => 0))))) q80 (.inl (G.2 0, 6, .inr (.inl (fun _ => 0))))) q93 (.inl (G.2 4, 20, .inr (.inr (.inr (.inr (fun _ => none))))))) aS r49 r59 q93 q80 (va_up (ap (6 + 8) (ap 6 sa s49) s59) 22 q66) (va_up (ap (6 + 8) (ap 6 la l49) l59) 22 l71) (va_up (ap (6 + 8) (ap 6 bE b49) b59) 22 1) (va_up (ap (6 + 8) (ap 6 F F49) F59) 22 (fun _ => 0)) fS f49 f59 (fun _ => none) (fun _ => 0) (fun _ => 0) bn nn s9 lo nf (Nat.lt_succ_self _) (by omega) (((((((hD.app hE49).fld).app hE59).fld).one (o := .inr (5, [])) (by have h9 := hnq66; simp only [mu_iff] at h9 ⊢; exact h9) (by have h9 := hn71; simp only [mu_iff] at h9 ⊢; exact h9)).new (by have h9 := hnq80; simp only [mu_iff] at h9 ⊢; exact h9)).new (by have h9 := hnq93; simp only [mu_iff] at h9 ⊢; exact h9)) ((((((((hBF.ext hE49.1).d (hE49.1 _ _ hD.1)).ext hE59.1).d (hE59.1 _ _ (mu_s _ _ _))).new (a := q66) (by have h9 := hnq66; simp only [mu_iff] at h9 ⊢; exact h9)).new (a := l71) (by have h9 := hn71; simp only [mu_iff] at h9 ⊢; exact h9)).new (a := q80) (by have h9 := hnq80; simp only [mu_iff] at h9 ⊢; exact h9)).new (a := q93) (by have h9 := hnq93; simp only [mu_iff] at h9 ⊢; exact h9)) (⟨((mu_n nqaS_q93).trans ((mu_n nqaS_q80).trans ((mu_n nqaS_l71).trans ((mu_n nqaS_q66).trans ((mu_n ((mp_ne hx59aS hx59d (by simp)))).trans (hx59aS)))))), ((mu_n nqr49_q93).trans ((mu_n nqr49_q80).trans ((mu_n nqr49_l71).trans ((mu_n nqr49_q66).trans ((mu_n ((Ne.symm nr49d))).trans (hx59r49)))))), ((mu_n nqr59_q93).trans ((mu_n nqr59_q80).trans ((mu_n nqr59_l71).trans ((mu_n nqr59_q66).trans ((mu_n ((Ne.symm nr59d))).trans (ha59)))))), ((mu_n nqq80_q93).trans (mu_s _ _ _)), fun j hj => by rw [va_up_ne _ _ (by omega), ap_l _ _ (by omega), ap_l _ _ (by omega)]; exact hA j hj, fun j hj => by rw [va_up_ne _ _ (by omega), ap_l _ _ (by omega), ap_r _ _ (by omega), Nat.add_sub_cancel_left]; exact (hA49 j hj).1, fun j hj => ap_A (n := 6 + 8) (by omega) (hA59 j hj).1⟩) ((mu_s _ _ _)) (fun j hj => absurd hj (by omega)) (fs_fin (fun j hj => ⟨fun h9 => (hf j hj).1 (by omega), fun h9 => absurd h9 (by omega)⟩) (fun j hj => (hA49 j hj).2) (fun j hj => (hA59 j hj).2)) _ _ hP hS ls (lv_sub hl [1, 0] rfl)
      · refine lv_aload_n hx hb dX6_init_30 rfl (lv_at hl 0 rfl) ?_
        refine mw_get (C := RX6) (T := TX6) (N := 7) hx hb hts in_X6_init_X6 hown hK hP (hD.1) rfl 0 (by decide) (hts (.fieldLink RX6 16 "OctagonDesk" "slots" "[LOctagonDesk$Shape;") (by decide +kernel)) (fun _ h9 => h9) rfl dX6_init_31 ?_
        refine lv_iload_n hx hb dX6_init_34 rfl (lv_at hl 2 rfl) ?_
        refine mw_aldq hx hb hK hP 3 (hr) rfl (by omega) (by omega) (hA i1 (by omega)) dX6_init_35 ?_
        refine kc_v (va_runV (As := []) (rest := []) ⟨hx, hb, hml, hown, hts⟩ (c_X4_allowAll l G B (μ1) (sa i1) bn nn (la i1) s9 lo (bE i1) nf (F i1) (fun _ => 0) (fun _ => 0)  ((hD.2.1 i1 (by omega)).1) (hBF.1) (hBF.2.1) ((hD.2.1 i1 (by omega)).2) (hBF.2.2.1) (hBF.2.2.2) (ps0 ((hf i1 (by omega)).2 (by omega)))) (cwV 0 hts gX6_init_X4_allowAll rfl rfl rfl (by decide +kernel) ⟨Nat.le_of_ble_eq_true rfl, Nat.le_of_ble_eq_true rfl⟩) ⟨KW.blind, hP.recv hK rfl ((hD.2.1 i1 (by omega)).1), fun U9 hU9 hW9 => ⟨rfl, KW.pre hBs hKK hS hP U9 hU9 hW9⟩⟩ rfl rfl hl.1 rfl (lv_room (Nat.le_of_ble_eq_true rfl)) dX6_init_36 ⟨(Nat.le_of_ble_eq_true rfl), (Nat.le_of_ble_eq_true rfl)⟩) hS (fun m36 H locs hq9 hP hz9 hS => ?_)
        obtain ⟨f36, rfl, hf36⟩ := hq9
        have hP : mw G.1 vwCl B (mu (mu μ1 (sa i1) (.inr (4, [.ref bn, .ref nn, .ref (la i1), .int (nI 0)]))) (la i1) (.inl (G.2 0, 78, .inr (.inl f36)))) _ := mw_eq (congrArg (fun z => mu z (la i1) (.inl (G.2 0, 78, .inr (.inl f36)))) (rfl)) hP
        refine lv_iinc (v := nI (i1 + 1)) (lv' := [(2, .int (nI (i1 + 1))), (0, .ref d), (1, .ref bn)]) hx hb dX6_init_39 hl (k := 2) rfl (nI_add _ _) (by decide) rfl (fun ls hl => ?_)
        refine lv_goto (tgt := 24) hx hb dX6_init_42 (by decide) ?_
        refine W.widen (k := 31) (n := 2573) (by omega) (by omega) ?_
        exact ih24 (i1 + 1) (mu (mu μ1 (sa i1) (.inr (4, [.ref bn, .ref nn, .ref (la i1), .int (nI 0)]))) (la i1) (.inl (G.2 0, 78, .inr (.inl f36)))) aS fS sa la (va_up bE i1 0) (va_up F i1 f36) bn nn s9 lo nf (by omega) (by omega) (hD.sh (by omega)) (hBF.sh (hD.2.1 i1 (by omega))) (((mu_n ((mp_ne hr ((hD.2.1 i1 (by omega)).2) (by simp)))).trans ((mu_n ((mp_ne hr ((hD.2.1 i1 (by omega)).1) (by simp)))).trans (hr)))) (hA) (fr_s hf (by omega) hf36) _ _ hP hS ls (lv_sub hl [1, 2, 0] rfl)
  have hl := lv_entry ([.ref d]) (n := 3) (Nat.le_of_ble_eq_true rfl)
  have he9 : entryFrame m args 3 = entryFrame m ([.ref d] : List Value).toArray 3 := by rw [hargs]
  rw [he9, lg_entry_eq]
  generalize (lg_sl ([.ref d]) ++ List.replicate (3 - (lg_sl ([.ref d])).length) Slot.unset).toArray = ls at hl ⊢
  have hl : lv_has ls 3 [(0, .ref d)] := hl
  refine lv_aload_n hx hb dX6_init_0 rfl (lv_at hl 0 rfl) ?_
  refine W.objInit hx hb hown (hts (.methodLink RX6 3 objectInit) (by decide +kernel)) (hts (.instanceMethod objectInit) (by decide +kernel)) (hts (.code objectInit ⟨#[0xb1]⟩ 1 none) (by decide +kernel)) rfl (by rw [hml]; exact hl.1) rfl dX6_init_1 (Nat.le_of_ble_eq_true rfl) (Nat.le_of_ble_eq_true rfl) ?_
  refine mw_new (ci := 0) (fs := [.null, .null, .null]) (C := RX0) (T := TX0) (N := 3) hx hb hts in_X6_init_X0 tyX0 tyX0_ok hown (hts (.classLink RX6 9 RX0) (by decide +kernel)) (hts (.instantiable RX0 3) (by decide +kernel)) (hts (.initialized RX0) (by decide +kernel)) hK hP hS hBs rfl (fun j hj => by rcases (show j = 0 ∨ j = 1 ∨ j = 2 by omega) with rfl | rfl | rfl <;> rfl) (Nat.le_of_ble_eq_true rfl) (Nat.le_of_ble_eq_true rfl) dX6_init_4 (fun q4 H hsq4 hzq4 hnq4 hP hS => ?_)
  have nqd_q4 : d ≠ q4 := mp_nn (hh) hnq4
  have hP : mw G.1 vwCl B (mu μ q4 (.inr (0, [.null, .null, .null]))) _ := hP
  refine lv_dup hx hb dX6_init_7 rfl ?_
  refine kc_v (va_runI (As := []) (rest := [.ref q4]) ⟨hx, hb, hml, hown, hts⟩ (c_X0_init l G B (mu μ q4 (.inr (0, [.null, .null, .null]))) q4 (mu_s _ _ _)) (cwI 0 hts gX6_init_X0_init rfl rfl rfl (hts (.initialized RX0) (by decide +kernel)) (hts (.methodLink RX6 11 yX0_init) (by decide +kernel)) (hts (.instanceMethod yX0_init) (by decide +kernel)) rfl (by decide +kernel) ⟨Nat.le_of_ble_eq_true rfl, Nat.le_of_ble_eq_true rfl⟩) ⟨KW.blind, fun U9 hU9 hW9 => ⟨rfl, KW.pre hBs hKK hS hP U9 hU9 hW9⟩⟩ rfl rfl hl.1 rfl (lv_room (Nat.le_of_ble_eq_true rfl)) dX6_init_8 ⟨(Nat.le_of_ble_eq_true rfl), (Nat.le_of_ble_eq_true rfl)⟩) hS (fun m8 H locs hq9 hP hz9 hS => ?_)
  obtain ⟨hE8, nn, s9, lo, nf, hBF8⟩ := hq9
  have hx8d := hE8 _ _ ((mu_n nqd_q4).trans (hh)) nqd_q4
  obtain ⟨hbn, hnn, hs9, hlo⟩ := id hBF8
  refine lv_astore_n (lv' := [(1, .ref q4), (0, .ref d)]) hx hb dX6_init_11 rfl hl (by decide) rfl (fun ls hl => ?_)
  refine lv_aload_n hx hb dX6_init_12 rfl (lv_at hl 1 rfl) ?_
  refine lv_aload_n hx hb dX6_init_13 rfl (lv_at hl 0 rfl) ?_
  refine lv_bipush (v := nI 6) hx hb dX6_init_14 (by decide) ?_
  refine kc_r (va_runS (As := [.ref q4, .int (nI 6)]) (rest := [.ref d]) ⟨hx, hb, hml, hown, hts⟩ (c_X6_emptyShapes l G B (m8) q4 nn s9 lo 6 (hbn) (by omega)) (va_cwS 2 hts gX6_init_X6_emptyShapes rfl rfl rfl (by decide +kernel) ⟨Nat.le_of_ble_eq_true rfl, Nat.le_of_ble_eq_true rfl⟩) ⟨KW.blind, fun U9 hU9 hW9 => ⟨rfl, KW.pre hBs hKK hS hP U9 hU9 hW9⟩⟩ rfl rfl hl.1 rfl (lv_room (Nat.le_of_ble_eq_true rfl)) dX6_init_16 ⟨(Nat.le_of_ble_eq_true rfl), (Nat.le_of_ble_eq_true rfl)⟩) hS (fun m16 r16 H locs hq9 hP hz9 hS => ?_)
  obtain ⟨hn16, f16, s16, l16, b16, F16, ha16, hA16, hE16⟩ := hq9
  have hx16d := hE16.1 _ _ (hx8d)
  have nr16d : d ≠ r16 := mp_nn (hx8d) hn16
  have hx16q4 := hE16.1 _ _ (hbn)
  have nr16q4 : q4 ≠ r16 := mp_nn (hbn) hn16
  have hx16nn := hE16.1 _ _ (hnn)
  have nr16nn : nn ≠ r16 := mp_nn (hnn) hn16
  have hx16s9 := hE16.1 _ _ (hs9)
  have nr16s9 : s9 ≠ r16 := mp_nn (hs9) hn16
  have hx16lo := hE16.1 _ _ (hlo)
  have nr16lo : lo ≠ r16 := mp_nn (hlo) hn16
  refine mw_putF (ty := .array (.object "OctagonDesk$Shape")) (v := .ref r16) (C := RX6) (T := TX6) (N := 7) hx hb hts in_X6_init_X6 tyX6 tyX6_ok nmX6 hown hK hP hS (hx16d) rfl 0 (by decide) (hts (.fieldLink RX6 16 "OctagonDesk" "slots" "[LOctagonDesk$Shape;") (by decide +kernel)) (fun _ h9 => h9) rfl hin rfl (by decide +kernel) (by first | rfl | decide +kernel) (by first | rfl | decide +kernel) (Nat.le_of_ble_eq_true rfl) dX6_init_19 (fun H locs hP hS => ?_)
  have hP : mw G.1 vwCl B (mu m16 d (.inr (6, [.ref r16, .null, .null, .null, .int (nI 0), .null, .null]))) _ := hP
  refine lv_iconst (v := nI 0) hx hb dX6_init_22 (by decide) ?_
  refine lv_istore_n (lv' := [(2, .int (nI 0)), (1, .ref q4), (0, .ref d)]) hx hb dX6_init_23 rfl hl (by decide) rfl (fun ls hl => ?_)
  refine W.widen (k := 31) (n := 2573) (by omega) (by omega) ?_
  exact L24 _ 0 (mu m16 d (.inr (6, [.ref r16, .null, .null, .null, .int (nI 0), .null, .null]))) r16 f16 s16 l16 b16 F16 q4 nn s9 lo nf (Nat.lt_succ_self _) (by omega) ((DI.first hx8d hE16).fld) ((hBF8.ext hE16.1).d (hE16.1 _ _ hx8d)) (((mu_n ((Ne.symm nr16d))).trans (ha16))) (fun j hj => (hA16 j hj).1) (fun j hj => ⟨fun h9 => absurd h9 (by omega), fun _ => (hA16 j hj).2.2⟩) _ _ hP hS ls (lv_sub hl [2, 1, 0] rfl)
