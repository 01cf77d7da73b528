def SN (sp : Nat → Nat) (n : Nat) : Prop := ∀ i j, i < n → j < n → i ≠ j → sp i ≠ sp j
theorem SN.next {μ1 : mp} {fT : Nat → Option Nat} {sp : Nat → Nat} {n q : Nat} (h : SN sp n) (hs : Stps μ1 fT sp n) (hq : μ1 q = none) : SN (va_up sp n q) (n + 1) := by
  intro i j hi hj hne
  have hx : ∀ m, m < n → sp m ≠ q := fun m hm => by
    obtain ⟨-, x1, x2, x3, x4, x5, x6, h9⟩ := hs m hm
    exact mp_nn h9 hq
  by_cases e1 : i = n
  · subst e1
    rw [va_up_self, va_up_ne _ _ (by omega)]
    exact Ne.symm (hx j (by omega))
  · rw [va_up_ne _ _ e1]
    by_cases e2 : j = n
    · subst e2; rw [va_up_self]; exact hx i (by omega)
    · rw [va_up_ne _ _ e2]; exact h i j (by omega) (by omega) hne
abbrev rg_X3_init : Room := { frames := 4, cells := 94, slots := 3940, locals := 75 }
set_option maxHeartbeats 4000000 in
set_option maxRecDepth 100000 in
theorem g_X3_init (l : Launch) (G : GG) (B : Nat) (μ : mp) (d : Nat) (hh : μ d = some (.inr (3, [.null, .null, .null, .null, .int (nI 0), .null, .null]))) : Met l yX3_init wsX3_init rg_X3_init (va_Pc [.ref d] (KW G B μ)) (va_Qv (fun μ2 => (∀ (a : Nat) (e : va_E), μ a = some e → a ≠ d → μ2 a = some e) ∧ ∃ (aS aL aR aT aO : Nat) (sa na la bE : Nat → Nat) (F : Nat → Nat → Int64) (fS fL fR fT : Nat → Option Nat) (sp : Nat → Nat) (fO : Nat → Int64), DK G μ2 d aS aL aR aT aO 0 0 sa na la bE F fS fL fR fT sp fO ∧ FS F bE ∧ (∀ j, j < 23 → μ (sa j) = none ∧ μ (na j) = none ∧ μ (la j) = none) ∧ SJ sp) (BB G B) (fun q => B ≤ q)) 94 3940 (fun q => B ≤ q) := by
  refine Met.ofW (cc := cX3_init) (maxL := 2) (ret := none) (by decide) rfl ?_
  intro p e s m args below meth c s₁ B9 hml hv
  obtain ⟨hargs, hBs, hP, hKK⟩ := hv
  have hx := B9.exec
  have hb := B9.bytes
  have hr := B9.returns
  have hts := atoms_spec (ws := wsX3_init) B9.pre
  have hown : s.vm.findClass RX3 = some m.cls := findClass_of_methodNamed B9.named
  have hlocks := B9.notSynchronized
  have hin : meth.name = "<init>" := (name_of_methodNamed B9.named B9.method).1
  have hK := hKK.k
  have hS : va_S (fun q => B ≤ q) s.heap s.heap [] := va_S.rf
  obtain ⟨Q, hQ⟩ : ∃ Q, Q = MQ below (va_Qv (fun μ2 => (∀ (a : Nat) (e : va_E), μ a = some e → a ≠ d → μ2 a = some e) ∧ ∃ (aS aL aR aT aO : Nat) (sa na la bE : Nat → Nat) (F : Nat → Nat → Int64) (fS fL fR fT : Nat → Option Nat) (sp : Nat → Nat) (fO : Nat → Int64), DK G μ2 d aS aL aR aT aO 0 0 sa na la bE F fS fL fR fT sp fO ∧ FS F bE ∧ (∀ j, j < 23 → μ (sa j) = none ∧ μ (na j) = none ∧ μ (la j) = none) ∧ SJ sp) (BB G B) (fun q => B ≤ q)) args s 94 3940 (fun q => B ≤ q) := ⟨_, rfl⟩
  rw [← hQ]
  have in_X3_init_X1 : ∀ w ∈ wsX10, w ∈ wsX3_init := by decide +kernel
  have in_X3_init_X2 : ∀ w ∈ wsX20, w ∈ wsX3_init := by decide +kernel
  have in_X3_init_X3 : ∀ w ∈ wsX30, w ∈ wsX3_init := by decide +kernel
  have L89 : ∀ (N89 : Nat) (i1 : Nat) (μ1 : mp) (aS : Nat) (aL : Nat) (aR : Nat) (aT : Nat) (aO : Nat) (sa : Nat → Nat) (na : Nat → Nat) (la : Nat → Nat) (bE : Nat → Nat) (F : Nat → Nat → Int64) (fS : Nat → Option Nat) (fL : Nat → Option Nat) (fR : Nat → Option Nat) (fT : Nat → Option Nat) (sp : Nat → Nat) (fO : Nat → Int64) (hN89 : 20 - i1 < N89) (hi : i1 ≤ 20) (hD : DI G μ μ1 d [.ref aS, .ref (sa 22), .ref aT, .ref aO, .int (nI 0), .ref aL, .ref aR] 23 sa na la bE F) (hDA : DA G μ1 aS aL aR aO sa fS fL fR fO) (hT : μ1 aT = some (.inl (G.2 4, 20, .inr (.inr (.inr (.inr fT)))))) (h0T : μ aT = none) (hSt : Stps μ1 fT sp i1) (hFS : FS F bE) (hSN : SN sp i1), ∀ (H : Heap) (locs : List Loc), mw G.1 vwCl B (μ1) H → va_S (fun q => B ≤ q) s.heap H locs → ∀ ls : Array Slot, lv_has ls 2 [(0, .ref d), (1, .int (nI i1))] → W p l e rg_X3_init s m args below meth c H locs (74 + (i1)) (3820 + 6 * (i1)) Q (F0 m 89 ls []) := by
    intro N89
    induction N89 with
    | zero => intro i1 μ1 aS aL aR aT aO sa na la bE F fS fL fR fT sp fO hN89; exact absurd hN89 (Nat.not_lt_zero _)
    | succ N89 ih89 =>
      intro i1 μ1 aS aL aR aT aO sa na la bE F fS fL fR fT sp fO hN89 hi hD hDA hT h0T hSt hFS hSN H locs hP hS ls hl
      refine lv_iload_n hx hb dX3_init_89 rfl (lv_at hl 1 rfl) ?_
      refine lv_bipush (v := nI 20) hx hb dX3_init_90 (by decide) ?_
      refine nv_icmp_ge (tgt := 114) hx hb (by omega) (by omega) dX3_init_92 (by decide) (fun hc92 => ?_) (fun hc92 => ?_)
      · rw [hQ]
        refine W.widen (k := 94) (n := 3940) (by omega) (by omega) ?_
        exact W.vret hx hb hr (fun t99 ht99 hW99 => ⟨⟨μ1, rfl, (⟨hD.1, aS, aL, aR, aT, aO, sa, na, la, bE, F, fS, fL, fR, fT, sp, fO, hD.dk hDA hT (by have e9 : i1 = 20 := (by omega); subst e9; exact hSt) hFS, hFS, fun j hj => (hD.2.2.1 j hj).2, by have e9 : i1 = 20 := (by omega); subst e9; exact hSN⟩), by show mw _ _ _ _ t99.heap; rw [ht99]; exact hP⟩, hS.F ht99⟩) hS.2.2 dX3_init_114
      · refine lv_aload_n hx hb dX3_init_95 rfl (lv_at hl 0 rfl) ?_
        refine mw_get (C := RX3) (T := TX3) (N := 7) hx hb hts in_X3_init_X3 hown hK hP (hD.2.1) rfl 2 (by decide) (hts (.fieldLink RX3 43 "OctagonDesk" "steps" "[LOctagonDesk$Step;") (by decide +kernel)) (fun _ h9 => h9) rfl dX3_init_96 ?_
        refine lv_iload_n hx hb dX3_init_99 rfl (lv_at hl 1 rfl) ?_
        refine mw_new (ci := 2) (fs := [.int (nI 0), .int (nI 0), .int (nI 0), .int (nI 0), .int (nI 0), .int (nI 0)]) (C := RX2) (T := TX2) (N := 6) hx hb hts in_X3_init_X2 tyX2 tyX2_ok hown (hts (.classLink RX3 41 RX2) (by decide +kernel)) (hts (.instantiable RX2 6) (by decide +kernel)) (hts (.initialized RX2) (by decide +kernel)) hK hP hS hBs rfl (fun j hj => by rcases (show j = 0 ∨ j = 1 ∨ j = 2 ∨ j = 3 ∨ j = 4 ∨ j = 5 by omega) with rfl | rfl | rfl | rfl | rfl | rfl <;> rfl) (Nat.le_trans (m := 94) (by omega) (Nat.le_refl _)) (Nat.le_trans (m := 3940) (by omega) (Nat.le_refl _)) dX3_init_100 (fun q100 H hsq100 hzq100 hnq100 hP hS => ?_)
        have nqd_q100 : d ≠ q100 := mp_nn (hD.2.1) hnq100
        have nqaS_q100 : aS ≠ q100 := mp_nn (hDA.1) hnq100
        have nqaL_q100 : aL ≠ q100 := mp_nn (hDA.2.1) hnq100
        have nqaR_q100 : aR ≠ q100 := mp_nn (hDA.2.2.1) hnq100
        have nqaO_q100 : aO ≠ q100 := mp_nn (hDA.2.2.2.1) hnq100
        have nqaT_q100 : aT ≠ q100 := mp_nn (hT) hnq100
        have hP : mw G.1 vwCl B (mu μ1 q100 (.inr (2, [.int (nI 0), .int (nI 0), .int (nI 0), .int (nI 0), .int (nI 0), .int (nI 0)]))) _ := hP
        refine lv_dup hx hb dX3_init_103 rfl ?_
        refine kc_v (va_runIN (As := []) (rest := [.ref q100, .int (nI i1), .ref aT]) ⟨hx, hb, hml, hown, hts⟩ (c_X2_init l G B (mu μ1 q100 (.inr (2, [.int (nI 0), .int (nI 0), .int (nI 0), .int (nI 0), .int (nI 0), .int (nI 0)]))) q100 (mu_s _ _ _)) ⟨va_cnB 0 hts gX3_init_X2_init_n47 rfl rfl rfl hKK.2.1.2 (hts (.initialized RX2) (by decide +kernel)) (by decide +kernel) ⟨Nat.le_of_ble_eq_true rfl, Nat.le_of_ble_eq_true rfl⟩, rfl, hts (.instanceMethod yX2_init) (by decide +kernel)⟩ ⟨KW.blind, fun U9 hU9 hW9 => ⟨rfl, KW.pre hBs hKK hS hP U9 hU9 hW9⟩⟩ rfl rfl hl.1 rfl (lv_room (Nat.le_of_ble_eq_true rfl)) dX3_init_104 ⟨(Nat.le_trans (m := 94) (by omega) (Nat.le_refl _)), (Nat.le_trans (m := 3940) (by omega) (Nat.le_refl _))⟩) hS (fun m104 H locs hq9 hP hz9 hS => ?_)
        rw [hq9] at hP
        refine mw_astq (r := (RX2, TX2, 6)) hx hb hK hP hS 4 2 ((mu_n nqaT_q100).trans (hT)) rfl (mu_s _ _ _) rfl (by omega) (by omega) dX3_init_107 (fun H locs hP hS => ?_)
        have hP : mw G.1 vwCl B (mu (mu μ1 q100 (.inr (2, [.int (nI 0), .int (nI 0), .int (nI 0), .int (nI 0), .int (nI 0), .int (nI 0)]))) aT (.inl (G.2 4, 20, .inr (.inr (.inr (.inr (va_up fT i1 (some q100)))))))) _ := hP
        refine lv_iinc (v := nI (i1 + 1)) (lv' := [(1, .int (nI (i1 + 1))), (0, .ref d)]) hx hb dX3_init_108 hl (k := 1) rfl (nI_add _ _) (by decide) rfl (fun ls hl => ?_)
        refine lv_goto (tgt := 89) hx hb dX3_init_111 (by decide) ?_
        refine W.widen (k := 74 + (i1 + 1)) (n := 3820 + 6 * (i1 + 1)) (by omega) (by omega) ?_
        exact ih89 (i1 + 1) (mu (mu μ1 q100 (.inr (2, [.int (nI 0), .int (nI 0), .int (nI 0), .int (nI 0), .int (nI 0), .int (nI 0)]))) aT (.inl (G.2 4, 20, .inr (.inr (.inr (.inr (va_up fT i1 (some q100)))))))) aS aL aR aT aO sa na la bE F fS fL fR (va_up fT i1 (some q100)) (va_up sp i1 q100) fO (by omega) (by omega) ((hD.new hnq100).set h0T (mp_ne hD.2.1 hT (by simp)) (hD.apT hT)) ((hDA.set nqaS_q100 nqaL_q100 nqaR_q100 nqaO_q100).set ((mp_ne hDA.1 hT (by simp))) ((mp_ne hDA.2.1 hT (by simp))) ((mp_ne hDA.2.2.1 hT (by simp))) ((mp_ne hDA.2.2.2.1 hT (by simp)))) ((mu_s _ _ _)) (h0T) (hSt.next hnq100 hT) (hFS) (hSN.next hSt hnq100) _ _ hP hS ls (lv_sub hl [1, 0] rfl)
  have L15 : ∀ (N15 : Nat) (i1 : Nat) (μ1 : mp) (aS : Nat) (fS : Nat → Option Nat) (sa : Nat → Nat) (na : Nat → Nat) (la : Nat → Nat) (bE : Nat → Nat) (F : Nat → Nat → Int64) (hN15 : 6 - i1 < N15) (hi : i1 ≤ 6) (hD : DI G μ μ1 d [.ref aS, .null, .null, .null, .int (nI 0), .null, .null] 6 sa na la bE F) (hr : μ1 aS = some (.inl (G.2 3, 6, .inr (.inr (.inr (.inr fS)))))) (h0S : μ aS = none) (hA : ∀ j, j < 6 → fS j = some (sa j)) (hf : ∀ j, j < 6 → (j < i1 → Fr F bE j) ∧ (i1 ≤ j → F j = fun _ => 0)), ∀ (H : Heap) (locs : List Loc), mw G.1 vwCl B (μ1) H → va_S (fun q => B ≤ q) s.heap H locs → ∀ ls : Array Slot, lv_has ls 2 [(0, .ref d), (1, .int (nI i1))] → W p l e rg_X3_init s m args below meth c H locs 19 990 Q (F0 m 15 ls []) := by
    intro N15
    induction N15 with
    | zero => intro i1 μ1 aS fS sa na la bE F hN15; exact absurd hN15 (Nat.not_lt_zero _)
    | succ N15 ih15 =>
      intro i1 μ1 aS fS sa na la bE F hN15 hi hD hr h0S hA hf H locs hP hS ls hl
      refine lv_iload_n hx hb dX3_init_15 rfl (lv_at hl 1 rfl) ?_
      refine lv_bipush (v := nI 6) hx hb dX3_init_16 (by decide) ?_
      refine nv_icmp_ge (tgt := 36) hx hb (by omega) (by omega) dX3_init_18 (by decide) (fun hc18 => ?_) (fun hc18 => ?_)
      · refine lv_aload_n hx hb dX3_init_36 rfl (lv_at hl 0 rfl) ?_
        refine lv_bipush (v := nI 8) hx hb dX3_init_37 (by decide) ?_
        refine kc_r (va_runS (As := [.int (nI 8)]) (rest := [.ref d]) ⟨hx, hb, hml, hown, hts⟩ (c_X3_emptyShapes l G B (μ1) 8 (by omega)) (va_cwS 1 hts gX3_init_X3_emptyShapes rfl rfl rfl (by decide +kernel) ⟨Nat.le_of_ble_eq_true rfl, Nat.le_of_ble_eq_true rfl⟩) ⟨KW.blind, fun U9 hU9 hW9 => ⟨rfl, KW.pre hBs hKK hS hP U9 hU9 hW9⟩⟩ rfl rfl hl.1 rfl (lv_room (Nat.le_of_ble_eq_true rfl)) dX3_init_39 ⟨(Nat.le_of_ble_eq_true rfl), (Nat.le_of_ble_eq_true rfl)⟩) hS (fun m39 r39 H locs hq9 hP hz9 hS => ?_)
        obtain ⟨hn39, f39, s39, n39, l39, b39, F39, ha39, hA39, hE39⟩ := hq9
        have hx39d := hE39.1 _ _ (hD.2.1)
        have nr39d : d ≠ r39 := mp_nn (hD.2.1) hn39
        have hx39aS := hE39.1 _ _ (hr)
        have nr39aS : aS ≠ r39 := mp_nn (hr) hn39
        refine mw_put (ty := .array (.object "OctagonDesk$Shape")) (v := .ref r39) (C := RX3) (T := TX3) (N := 7) hx hb hts in_X3_init_X3 tyX3 tyX3_ok nmX3 hown hK hP hS (hx39d) rfl 5 (by decide) (hts (.fieldLink RX3 22 "OctagonDesk" "left" "[LOctagonDesk$Shape;") (by decide +kernel)) (fun _ h9 => h9) rfl (by decide +kernel) (by first | rfl | decide +kernel) (by first | rfl | decide +kernel) (Nat.le_of_ble_eq_true rfl) dX3_init_42 (fun H locs hP hS => ?_)
        have hP : mw G.1 vwCl B (mu m39 d (.inr (3, [.ref aS, .null, .null, .null, .int (nI 0), .ref r39, .null]))) _ := hP
        refine lv_aload_n hx hb dX3_init_45 rfl (lv_at hl 0 rfl) ?_
        refine lv_bipush (v := nI 8) hx hb dX3_init_46 (by decide) ?_
        refine kc_r (va_runS (As := [.int (nI 8)]) (rest := [.ref d]) ⟨hx, hb, hml, hown, hts⟩ (c_X3_emptyShapes l G B (mu m39 d (.inr (3, [.ref aS, .null, .null, .null, .int (nI 0), .ref r39, .null]))) 8 (by omega)) (va_cwS 1 hts gX3_init_X3_emptyShapes rfl rfl rfl (by decide +kernel) ⟨Nat.le_of_ble_eq_true rfl, Nat.le_of_ble_eq_true rfl⟩) ⟨KW.blind, fun U9 hU9 hW9 => ⟨rfl, KW.pre hBs hKK hS hP U9 hU9 hW9⟩⟩ rfl rfl hl.1 rfl (lv_room (Nat.le_of_ble_eq_true rfl)) dX3_init_48 ⟨(Nat.le_of_ble_eq_true rfl), (Nat.le_of_ble_eq_true rfl)⟩) hS (fun m48 r48 H locs hq9 hP hz9 hS => ?_)
        obtain ⟨hn48, f48, s48, n48, l48, b48, F48, ha48, hA48, hE48⟩ := hq9
        have hx48d := hE48.1 _ _ (mu_s _ _ _)
        have nr48d : d ≠ r48 := mp_nn (mu_s _ _ _) hn48
        have hx48aS := hE48.1 _ _ ((mu_n ((mp_ne hx39aS hx39d (by simp)))).trans (hx39aS))
        have nr48aS : aS ≠ r48 := mp_nn ((mu_n ((mp_ne hx39aS hx39d (by simp)))).trans (hx39aS)) hn48
        have hx48r39 := hE48.1 _ _ ((mu_n ((Ne.symm nr39d))).trans (ha39))
        have nr48r39 : r39 ≠ r48 := mp_nn ((mu_n ((Ne.symm nr39d))).trans (ha39)) hn48
        refine mw_put (ty := .array (.object "OctagonDesk$Shape")) (v := .ref r48) (C := RX3) (T := TX3) (N := 7) hx hb hts in_X3_init_X3 tyX3 tyX3_ok nmX3 hown hK hP hS (hx48d) rfl 6 (by decide) (hts (.fieldLink RX3 25 "OctagonDesk" "reached" "[LOctagonDesk$Shape;") (by decide +kernel)) (fun _ h9 => h9) rfl (by decide +kernel) (by first | rfl | decide +kernel) (by first | rfl | decide +kernel) (Nat.le_of_ble_eq_true rfl) dX3_init_51 (fun H locs hP hS => ?_)
        have hP : mw G.1 vwCl B (mu m48 d (.inr (3, [.ref aS, .null, .null, .null, .int (nI 0), .ref r39, .ref r48]))) _ := hP
        refine lv_aload_n hx hb dX3_init_54 rfl (lv_at hl 0 rfl) ?_
        refine mw_new (ci := 1) (fs := [.null, .int (nI 0)]) (C := RX1) (T := TX1) (N := 2) hx hb hts in_X3_init_X1 tyX1 tyX1_ok hown (hts (.classLink RX3 18 RX1) (by decide +kernel)) (hts (.instantiable RX1 2) (by decide +kernel)) (hts (.initialized RX1) (by decide +kernel)) hK hP hS hBs rfl (fun j hj => by rcases (show j = 0 ∨ j = 1 by omega) with rfl | rfl <;> rfl) (Nat.le_of_ble_eq_true rfl) (Nat.le_of_ble_eq_true rfl) dX3_init_55 (fun q55 H hsq55 hzq55 hnq55 hP hS => ?_)
        have nqd_q55 : d ≠ q55 := mp_nn (mu_s _ _ _) hnq55
        have nqaS_q55 : aS ≠ q55 := mp_nn ((mu_n ((mp_ne hx48aS hx48d (by simp)))).trans (hx48aS)) hnq55
        have nqr39_q55 : r39 ≠ q55 := mp_nn ((mu_n ((Ne.symm nr39d))).trans (hx48r39)) hnq55
        have nqr48_q55 : r48 ≠ q55 := mp_nn ((mu_n ((Ne.symm nr48d))).trans (ha48)) hnq55
        have hP : mw G.1 vwCl B (mu (mu m48 d (.inr (3, [.ref aS, .null, .null, .null, .int (nI 0), .ref r39, .ref r48]))) q55 (.inr (1, [.null, .int (nI 0)]))) _ := hP
        refine lv_dup hx hb dX3_init_58 rfl ?_
        refine kc_v (va_runI (As := []) (rest := [.ref q55, .ref d]) ⟨hx, hb, hml, hown, hts⟩ (c_X1_init l G B (mu (mu m48 d (.inr (3, [.ref aS, .null, .null, .null, .int (nI 0), .ref r39, .ref r48]))) q55 (.inr (1, [.null, .int (nI 0)]))) q55 (mu_s _ _ _)) (cwI 0 hts gX3_init_X1_init rfl rfl rfl (hts (.initialized RX1) (by decide +kernel)) (hts (.methodLink RX3 28 yX1_init) (by decide +kernel)) (hts (.instanceMethod yX1_init) (by decide +kernel)) rfl (by decide +kernel) ⟨Nat.le_of_ble_eq_true rfl, Nat.le_of_ble_eq_true rfl⟩) ⟨KW.blind, fun U9 hU9 hW9 => ⟨rfl, KW.pre hBs hKK hS hP U9 hU9 hW9⟩⟩ rfl rfl hl.1 rfl (lv_room (Nat.le_of_ble_eq_true rfl)) dX3_init_59 ⟨(Nat.le_of_ble_eq_true rfl), (Nat.le_of_ble_eq_true rfl)⟩) hS (fun m59 H locs hq9 hP hz9 hS => ?_)
        obtain ⟨hn59, la59, he59, hf59, hg59, -, -, rfl⟩ := hq9
        have nqd_hn59 : d ≠ hn59 := mp_nn ((mu_n nqd_q55).trans (mu_s _ _ _)) he59
        have nqaS_hn59 : aS ≠ hn59 := mp_nn ((mu_n nqaS_q55).trans ((mu_n ((mp_ne hx48aS hx48d (by simp)))).trans (hx48aS))) he59
        have nqr39_hn59 : r39 ≠ hn59 := mp_nn ((mu_n nqr39_q55).trans ((mu_n ((Ne.symm nr39d))).trans (hx48r39))) he59
        have nqr48_hn59 : r48 ≠ hn59 := mp_nn ((mu_n nqr48_q55).trans ((mu_n ((Ne.symm nr48d))).trans (ha48))) he59
        have nqq55_hn59 : q55 ≠ hn59 := mp_nn (mu_s _ _ _) he59
        have nqd_la59 : d ≠ la59 := mp_nn ((mu_n nqd_q55).trans (mu_s _ _ _)) hf59
        have nqaS_la59 : aS ≠ la59 := mp_nn ((mu_n nqaS_q55).trans ((mu_n ((mp_ne hx48aS hx48d (by simp)))).trans (hx48aS))) hf59
        have nqr39_la59 : r39 ≠ la59 := mp_nn ((mu_n nqr39_q55).trans ((mu_n ((Ne.symm nr39d))).trans (hx48r39))) hf59
        have nqr48_la59 : r48 ≠ la59 := mp_nn ((mu_n nqr48_q55).trans ((mu_n ((Ne.symm nr48d))).trans (ha48))) hf59
        have nqq55_la59 : q55 ≠ la59 := mp_nn (mu_s _ _ _) hf59
        have hP : mw G.1 vwCl B (mu (mu (mu (mu m48 d (.inr (3, [.ref aS, .null, .null, .null, .int (nI 0), .ref r39, .ref r48]))) q55 (.inr (1, [.ref hn59, .int (nI 1)]))) hn59 (.inr (0, [.int (nI 158), .int (nI 157), .ref la59, .int (nI (158 * 0))]))) la59 (.inl (G.2 0, 158 * 0 + 158, .inr (.inl (fun _ => 0))))) _ := mw_eq (congrArg (fun z => mu z la59 (.inl (G.2 0, 158 * 0 + 158, .inr (.inl (fun _ => 0))))) (congrArg (fun z => mu z hn59 (.inr (0, [.int (nI 158), .int (nI 157), .ref la59, .int (nI (158 * 0))]))) (mu_u _ _ _ _))) hP
        refine mw_putF (ty := .object "OctagonDesk$Shape") (v := .ref q55) (C := RX3) (T := TX3) (N := 7) hx hb hts in_X3_init_X3 tyX3 tyX3_ok nmX3 hown hK hP hS ((mu_n nqd_la59).trans ((mu_n nqd_hn59).trans ((mu_n nqd_q55).trans (mu_s _ _ _)))) rfl 1 (by decide) (hts (.fieldLink RX3 29 "OctagonDesk" "made" "LOctagonDesk$Shape;") (by decide +kernel)) (fun _ h9 => h9) rfl hin rfl (by decide +kernel) (by first | rfl | decide +kernel) (by first | rfl | decide +kernel) (Nat.le_of_ble_eq_true rfl) dX3_init_62 (fun H locs hP hS => ?_)
        have hP : mw G.1 vwCl B (mu (mu (mu (mu m48 d (.inr (3, [.ref aS, .ref q55, .null, .null, .int (nI 0), .ref r39, .ref r48]))) q55 (.inr (1, [.ref hn59, .int (nI 1)]))) hn59 (.inr (0, [.int (nI 158), .int (nI 157), .ref la59, .int (nI (158 * 0))]))) la59 (.inl (G.2 0, 158 * 0 + 158, .inr (.inl (fun _ => 0))))) _ := mw_eq ((mu_c _ _ ((Ne.symm nqd_la59))).trans (congrArg (fun z => mu z la59 (.inl (G.2 0, 158 * 0 + 158, .inr (.inl (fun _ => 0))))) ((mu_c _ _ ((Ne.symm nqd_hn59))).trans (congrArg (fun z => mu z hn59 (.inr (0, [.int (nI 158), .int (nI 157), .ref la59, .int (nI (158 * 0))]))) ((mu_c _ _ ((Ne.symm nqd_q55))).trans (congrArg (fun z => mu z q55 (.inr (1, [.ref hn59, .int (nI 1)]))) (mu_u _ _ _ _))))))) hP
        refine lv_aload_n hx hb dX3_init_65 rfl (lv_at hl 0 rfl) ?_
        refine lv_bipush (v := nI 6) hx hb dX3_init_66 (by decide) ?_
        refine mw_newa (n := 6) (a0 := (6, .inr (.inl (fun _ => 0)))) (atype := .long) (ty := .long) hx hb (hts (.arrayClass .long) (by decide +kernel)) rfl hK hP hS hBs 0 rfl (fun cA9 => vp0_J cA9 (6)) (by omega) (by show (6) * _ ≤ _; simp only [componentBytes]; omega) (Nat.le_of_ble_eq_true rfl) (Nat.le_of_ble_eq_true rfl) dX3_init_68 (fun q68 H hsq68 hzq68 hnq68 hP hS => ?_)
        have nqd_q68 : d ≠ q68 := mp_nn ((mu_n nqd_la59).trans ((mu_n nqd_hn59).trans ((mu_n nqd_q55).trans (mu_s _ _ _)))) hnq68
        have nqaS_q68 : aS ≠ q68 := mp_nn ((mu_n nqaS_la59).trans ((mu_n nqaS_hn59).trans ((mu_n nqaS_q55).trans ((mu_n ((mp_ne hx48aS hx48d (by simp)))).trans (hx48aS))))) hnq68
        have nqr39_q68 : r39 ≠ q68 := mp_nn ((mu_n nqr39_la59).trans ((mu_n nqr39_hn59).trans ((mu_n nqr39_q55).trans ((mu_n ((Ne.symm nr39d))).trans (hx48r39))))) hnq68
        have nqr48_q68 : r48 ≠ q68 := mp_nn ((mu_n nqr48_la59).trans ((mu_n nqr48_hn59).trans ((mu_n nqr48_q55).trans ((mu_n ((Ne.symm nr48d))).trans (ha48))))) hnq68
        have nqq55_q68 : q55 ≠ q68 := mp_nn ((mu_n nqq55_la59).trans ((mu_n nqq55_hn59).trans (mu_s _ _ _))) hnq68
        have nqhn59_q68 : hn59 ≠ q68 := mp_nn ((mu_n hg59).trans (mu_s _ _ _)) hnq68
        have nqla59_q68 : la59 ≠ q68 := mp_nn (mu_s _ _ _) hnq68
        have hP : mw G.1 vwCl B (mu (mu (mu (mu (mu m48 d (.inr (3, [.ref aS, .ref q55, .null, .null, .int (nI 0), .ref r39, .ref r48]))) q55 (.inr (1, [.ref hn59, .int (nI 1)]))) hn59 (.inr (0, [.int (nI 158), .int (nI 157), .ref la59, .int (nI (158 * 0))]))) la59 (.inl (G.2 0, 158 * 0 + 158, .inr (.inl (fun _ => 0))))) q68 (.inl (G.2 0, 6, .inr (.inl (fun _ => 0))))) _ := hP
        refine mw_putF (ty := .array .long) (v := .ref q68) (C := RX3) (T := TX3) (N := 7) hx hb hts in_X3_init_X3 tyX3 tyX3_ok nmX3 hown hK hP hS ((mu_n nqd_q68).trans ((mu_n nqd_la59).trans ((mu_n nqd_hn59).trans ((mu_n nqd_q55).trans (mu_s _ _ _))))) rfl 3 (by decide) (hts (.fieldLink RX3 33 "OctagonDesk" "offsets" "[J") (by decide +kernel)) (fun _ h9 => h9) rfl hin rfl (by decide +kernel) (by first | rfl | decide +kernel) (by first | rfl | decide +kernel) (Nat.le_of_ble_eq_true rfl) dX3_init_70 (fun H locs hP hS => ?_)
        have hP : mw G.1 vwCl B (mu (mu (mu (mu (mu m48 d (.inr (3, [.ref aS, .ref q55, .null, .ref q68, .int (nI 0), .ref r39, .ref r48]))) q55 (.inr (1, [.ref hn59, .int (nI 1)]))) hn59 (.inr (0, [.int (nI 158), .int (nI 157), .ref la59, .int (nI (158 * 0))]))) la59 (.inl (G.2 0, 158 * 0 + 158, .inr (.inl (fun _ => 0))))) q68 (.inl (G.2 0, 6, .inr (.inl (fun _ => 0))))) _ := mw_eq ((mu_c _ _ ((Ne.symm nqd_q68))).trans (congrArg (fun z => mu z q68 (.inl (G.2 0, 6, .inr (.inl (fun _ => 0))))) ((mu_c _ _ ((Ne.symm nqd_la59))).trans (congrArg (fun z => mu z la59 (.inl (G.2 0, 158 * 0 + 158, .inr (.inl (fun _ => 0))))) ((mu_c _ _ ((Ne.symm nqd_hn59))).trans (congrArg (fun z => mu z hn59 (.inr (0, [.int (nI 158), .int (nI 157), .ref la59, .int (nI (158 * 0))]))) ((mu_c _ _ ((Ne.symm nqd_q55))).trans (congrArg (fun z => mu z q55 (.inr (1, [.ref hn59, .int (nI 1)]))) (mu_u _ _ _ _))))))))) hP
        refine lv_aload_n hx hb dX3_init_73 rfl (lv_at hl 0 rfl) ?_
        refine lv_iconst (v := nI 0) hx hb dX3_init_74 (by decide) ?_
        refine mw_put (ty := .int) (v := .int (nI 0)) (C := RX3) (T := TX3) (N := 7) hx hb hts in_X3_init_X3 tyX3 tyX3_ok nmX3 hown hK hP hS ((mu_n nqd_q68).trans ((mu_n nqd_la59).trans ((mu_n nqd_hn59).trans ((mu_n nqd_q55).trans (mu_s _ _ _))))) rfl 4 (by decide) (hts (.fieldLink RX3 37 "OctagonDesk" "stepCount" "I") (by decide +kernel)) (fun _ h9 => h9) rfl (by decide +kernel) (by first | rfl | decide +kernel) (by first | rfl | decide +kernel) (Nat.le_of_ble_eq_true rfl) dX3_init_75 (fun H locs hP hS => ?_)
        have hP : mw G.1 vwCl B (mu (mu (mu (mu (mu m48 d (.inr (3, [.ref aS, .ref q55, .null, .ref q68, .int (nI 0), .ref r39, .ref r48]))) q55 (.inr (1, [.ref hn59, .int (nI 1)]))) hn59 (.inr (0, [.int (nI 158), .int (nI 157), .ref la59, .int (nI (158 * 0))]))) la59 (.inl (G.2 0, 158 * 0 + 158, .inr (.inl (fun _ => 0))))) q68 (.inl (G.2 0, 6, .inr (.inl (fun _ => 0))))) _ := mw_eq ((mu_c _ _ ((Ne.symm nqd_q68))).trans (congrArg (fun z => mu z q68 (.inl (G.2 0, 6, .inr (.inl (fun _ => 0))))) ((mu_c _ _ ((Ne.symm nqd_la59))).trans (congrArg (fun z => mu z la59 (.inl (G.2 0, 158 * 0 + 158, .inr (.inl (fun _ => 0))))) ((mu_c _ _ ((Ne.symm nqd_hn59))).trans (congrArg (fun z => mu z hn59 (.inr (0, [.int (nI 158), .int (nI 157), .ref la59, .int (nI (158 * 0))]))) ((mu_c _ _ ((Ne.symm nqd_q55))).trans (congrArg (fun z => mu z q55 (.inr (1, [.ref hn59, .int (nI 1)]))) (mu_u _ _ _ _))))))))) hP
        refine lv_aload_n hx hb dX3_init_78 rfl (lv_at hl 0 rfl) ?_
        refine lv_bipush (v := nI 20) hx hb dX3_init_79 (by decide) ?_
        refine mw_newq hx hb hown (hts (.classLink RX3 41 RX2) (by decide +kernel)) hKK.2.2.1.2 hK hP hS hBs 4 rfl (by omega) (Nat.le_of_ble_eq_true rfl) (Nat.le_of_ble_eq_true rfl) dX3_init_81 (fun q81 H hsq81 hzq81 hnq81 hP hS => ?_)
        have nqd_q81 : d ≠ q81 := mp_nn ((mu_n nqd_q68).trans ((mu_n nqd_la59).trans ((mu_n nqd_hn59).trans ((mu_n nqd_q55).trans (mu_s _ _ _))))) hnq81
        have nqaS_q81 : aS ≠ q81 := mp_nn ((mu_n nqaS_q68).trans ((mu_n nqaS_la59).trans ((mu_n nqaS_hn59).trans ((mu_n nqaS_q55).trans ((mu_n ((mp_ne hx48aS hx48d (by simp)))).trans (hx48aS)))))) hnq81
        have nqr39_q81 : r39 ≠ q81 := mp_nn ((mu_n nqr39_q68).trans ((mu_n nqr39_la59).trans ((mu_n nqr39_hn59).trans ((mu_n nqr39_q55).trans ((mu_n ((Ne.symm nr39d))).trans (hx48r39)))))) hnq81
        have nqr48_q81 : r48 ≠ q81 := mp_nn ((mu_n nqr48_q68).trans ((mu_n nqr48_la59).trans ((mu_n nqr48_hn59).trans ((mu_n nqr48_q55).trans ((mu_n ((Ne.symm nr48d))).trans (ha48)))))) hnq81
        have nqq55_q81 : q55 ≠ q81 := mp_nn ((mu_n nqq55_q68).trans ((mu_n nqq55_la59).trans ((mu_n nqq55_hn59).trans (mu_s _ _ _)))) hnq81
        have nqhn59_q81 : hn59 ≠ q81 := mp_nn ((mu_n nqhn59_q68).trans ((mu_n hg59).trans (mu_s _ _ _))) hnq81
        have nqla59_q81 : la59 ≠ q81 := mp_nn ((mu_n nqla59_q68).trans (mu_s _ _ _)) hnq81
        have nqq68_q81 : q68 ≠ q81 := mp_nn (mu_s _ _ _) hnq81
        have hP : mw G.1 vwCl B (mu (mu (mu (mu (mu (mu m48 d (.inr (3, [.ref aS, .ref q55, .null, .ref q68, .int (nI 0), .ref r39, .ref r48]))) q55 (.inr (1, [.ref hn59, .int (nI 1)]))) hn59 (.inr (0, [.int (nI 158), .int (nI 157), .ref la59, .int (nI (158 * 0))]))) la59 (.inl (G.2 0, 158 * 0 + 158, .inr (.inl (fun _ => 0))))) q68 (.inl (G.2 0, 6, .inr (.inl (fun _ => 0))))) q81 (.inl (G.2 4, 20, .inr (.inr (.inr (.inr (fun _ => none))))))) _ := hP
        refine mw_putF (ty := .array (.object "OctagonDesk$Step")) (v := .ref q81) (C := RX3) (T := TX3) (N := 7) hx hb hts in_X3_init_X3 tyX3 tyX3_ok nmX3 hown hK hP hS ((mu_n nqd_q81).trans ((mu_n nqd_q68).trans ((mu_n nqd_la59).trans ((mu_n nqd_hn59).trans ((mu_n nqd_q55).trans (mu_s _ _ _)))))) rfl 2 (by decide) (hts (.fieldLink RX3 43 "OctagonDesk" "steps" "[LOctagonDesk$Step;") (by decide +kernel)) (fun _ h9 => h9) rfl hin rfl (by decide +kernel) (by first | rfl | decide +kernel) (by first | rfl | decide +kernel) (Nat.le_of_ble_eq_true rfl) dX3_init_84 (fun H locs hP hS => ?_)
        have hP : mw G.1 vwCl B (mu (mu (mu (mu (mu (mu m48 d (.inr (3, [.ref aS, .ref q55, .ref q81, .ref q68, .int (nI 0), .ref r39, .ref r48]))) q55 (.inr (1, [.ref hn59, .int (nI 1)]))) hn59 (.inr (0, [.int (nI 158), .int (nI 157), .ref la59, .int (nI (158 * 0))]))) la59 (.inl (G.2 0, 158 * 0 + 158, .inr (.inl (fun _ => 0))))) q68 (.inl (G.2 0, 6, .inr (.inl (fun _ => 0))))) q81 (.inl (G.2 4, 20, .inr (.inr (.inr (.inr (fun _ => none))))))) _ := mw_eq ((mu_c _ _ ((Ne.symm nqd_q81))).trans (congrArg (fun z => mu z q81 (.inl (G.2 4, 20, .inr (.inr (.inr (.inr (fun _ => none))))))) ((mu_c _ _ ((Ne.symm nqd_q68))).trans (congrArg (fun z => mu z q68 (.inl (G.2 0, 6, .inr (.inl (fun _ => 0))))) ((mu_c _ _ ((Ne.symm nqd_la59))).trans (congrArg (fun z => mu z la59 (.inl (G.2 0, 158 * 0 + 158, .inr (.inl (fun _ => 0))))) ((mu_c _ _ ((Ne.symm nqd_hn59))).trans (congrArg (fun z => mu z hn59 (.inr (0, [.int (nI 158), .int (nI 157), .ref la59, .int (nI (158 * 0))]))) ((mu_c _ _ ((Ne.symm nqd_q55))).trans (congrArg (fun z => mu z q55 (.inr (1, [.ref hn59, .int (nI 1)]))) (mu_u _ _ _ _))))))))))) hP
        refine lv_iconst (v := nI 0) hx hb dX3_init_87 (by decide) ?_
        refine lv_istore_n (lv' := [(1, .int (nI 0)), (0, .ref d)]) hx hb dX3_init_88 rfl hl (by decide) rfl (fun ls hl => ?_)
        refine W.widen (k := 74 + (0)) (n := 3820 + 6 * (0)) (by omega) (by omega) ?_
        exact L89 _ 0 (mu (mu (mu (mu (mu (mu m48 d (.inr (3, [.ref aS, .ref q55, .ref q81, .ref q68, .int (nI 0), .ref r39, .ref r48]))) q55 (.inr (1, [.ref hn59, .int (nI 1)]))) hn59 (.inr (0, [.int (nI 158), .int (nI 157), .ref la59, .int (nI (158 * 0))]))) la59 (.inl (G.2 0, 158 * 0 + 158, .inr (.inl (fun _ => 0))))) q68 (.inl (G.2 0, 6, .inr (.inl (fun _ => 0))))) q81 (.inl (G.2 4, 20, .inr (.inr (.inr (.inr (fun _ => none))))))) aS r39 r48 q81 q68 (va_up (ap (6 + 8) (ap 6 sa s39) s48) 22 q55) (va_up (ap (6 + 8) (ap 6 na n39) n48) 22 hn59) (va_up (ap (6 + 8) (ap 6 la l39) l48) 22 la59) (va_up (ap (6 + 8) (ap 6 bE b39) b48) 22 1) (va_up (ap (6 + 8) (ap 6 F F39) F48) 22 (fun _ => 0)) fS f39 f48 (fun _ => none) (fun _ => 0) (fun _ => 0) (Nat.lt_succ_self _) (by omega) (((((((hD.app hE39).fld).app hE48).fld).one (o := .inr (2, [])) (by have h9 := hnq55; simp only [mu_iff] at h9 ⊢; exact h9) (by have h9 := he59; simp only [mu_iff] at h9 ⊢; exact h9) (by have h9 := hf59; simp only [mu_iff] at h9 ⊢; exact h9) hg59).new (by have h9 := hnq68; simp only [mu_iff] at h9 ⊢; exact h9)).new (by have h9 := hnq81; simp only [mu_iff] at h9 ⊢; exact h9)) (⟨((mu_n nqaS_q81).trans ((mu_n nqaS_q68).trans ((mu_n nqaS_la59).trans ((mu_n nqaS_hn59).trans ((mu_n nqaS_q55).trans ((mu_n ((mp_ne hx48aS hx48d (by simp)))).trans (hx48aS))))))), ((mu_n nqr39_q81).trans ((mu_n nqr39_q68).trans ((mu_n nqr39_la59).trans ((mu_n nqr39_hn59).trans ((mu_n nqr39_q55).trans ((mu_n ((Ne.symm nr39d))).trans (hx48r39))))))), ((mu_n nqr48_q81).trans ((mu_n nqr48_q68).trans ((mu_n nqr48_la59).trans ((mu_n nqr48_hn59).trans ((mu_n nqr48_q55).trans ((mu_n ((Ne.symm nr48d))).trans (ha48))))))), ((mu_n nqq68_q81).trans (mu_s _ _ _)), fun j hj => by rw [va_up_ne _ _ (by omega), ap_l _ _ (by omega), ap_l _ _ (by omega)]; exact hA j hj, fun j hj => by rw [va_up_ne _ _ (by omega), ap_l _ _ (by omega), ap_r _ _ (by omega), Nat.add_sub_cancel_left]; exact (hA39 j hj).1, fun j hj => ap_A (n := 6 + 8) (by omega) (hA48 j hj).1⟩) ((mu_s _ _ _)) (hD.no (by have h9 := hnq81; simp only [mu_iff] at h9; exact hE39.1.no (mu_none (hE48.1.no h9.2.2.2.2.2)).2)) (fun j hj => absurd hj (by omega)) (fs_fin (fun j hj => ⟨fun h9 => (hf j hj).1 (by omega), fun h9 => absurd h9 (by omega)⟩) (fun j hj => (hA39 j hj).2.1) (fun j hj => (hA48 j hj).2.1)) (fun i j h9 => absurd h9 (by omega)) _ _ hP hS ls (lv_sub hl [1, 0] rfl)
      · refine lv_aload_n hx hb dX3_init_21 rfl (lv_at hl 0 rfl) ?_
        refine mw_get (C := RX3) (T := TX3) (N := 7) hx hb hts in_X3_init_X3 hown hK hP (hD.2.1) rfl 0 (by decide) (hts (.fieldLink RX3 13 "OctagonDesk" "slots" "[LOctagonDesk$Shape;") (by decide +kernel)) (fun _ h9 => h9) rfl dX3_init_22 ?_
        refine lv_iload_n hx hb dX3_init_25 rfl (lv_at hl 1 rfl) ?_
        refine mw_aldq hx hb hK hP 3 (hr) rfl (by omega) (by omega) (hA i1 (by omega)) dX3_init_26 ?_
        refine kc_v (va_runV (As := []) (rest := []) ⟨hx, hb, hml, hown, hts⟩ (c_X1_allowAll l G B (μ1) (sa i1) (na i1) (la i1) 0 (bE i1) (F i1)  ((hD.2.2.1 i1 (by omega)).1.1) ((hD.2.2.1 i1 (by omega)).1.2.1) ((hD.2.2.1 i1 (by omega)).1.2.2) (by omega)) (cwV 0 hts gX3_init_X1_allowAll rfl rfl rfl (by decide +kernel) ⟨Nat.le_of_ble_eq_true rfl, Nat.le_of_ble_eq_true rfl⟩) ⟨KW.blind, hP.recv hK rfl ((hD.2.2.1 i1 (by omega)).1.1), fun U9 hU9 hW9 => ⟨rfl, KW.pre hBs hKK hS hP U9 hU9 hW9⟩⟩ rfl rfl hl.1 rfl (lv_room (Nat.le_of_ble_eq_true rfl)) dX3_init_27 ⟨(Nat.le_of_ble_eq_true rfl), (Nat.le_of_ble_eq_true rfl)⟩) hS (fun m27 H locs hq9 hP hz9 hS => ?_)
        obtain ⟨g27, rfl, hg27⟩ := hq9
        have hP : mw G.1 vwCl B (mu (mu μ1 (sa i1) (.inr (1, [.ref (na i1), .int (nI 0)]))) (la i1) (.inl (G.2 0, 158 * 0 + 158, .inr (.inl g27)))) _ := mw_eq (congrArg (fun z => mu z (la i1) (.inl (G.2 0, 158 * 0 + 158, .inr (.inl g27)))) (rfl)) hP
        refine lv_iinc (v := nI (i1 + 1)) (lv' := [(1, .int (nI (i1 + 1))), (0, .ref d)]) hx hb dX3_init_30 hl (k := 1) rfl (nI_add _ _) (by decide) rfl (fun ls hl => ?_)
        refine lv_goto (tgt := 15) hx hb dX3_init_33 (by decide) ?_
        refine W.widen (k := 19) (n := 990) (by omega) (by omega) ?_
        exact ih15 (i1 + 1) (mu (mu μ1 (sa i1) (.inr (1, [.ref (na i1), .int (nI 0)]))) (la i1) (.inl (G.2 0, 158 * 0 + 158, .inr (.inl g27)))) aS fS sa na la (va_up bE i1 0) (va_up F i1 g27) (by omega) (by omega) (hD.sh (by omega)) (((mu_n ((mp_ne hr ((hD.2.2.1 i1 (by omega)).1.2.2) (by simp)))).trans ((mu_n ((mp_ne hr ((hD.2.2.1 i1 (by omega)).1.1) (by simp)))).trans (hr)))) (h0S) (hA) (fr_s hf (by omega) (hg27 rfl)) _ _ hP hS ls (lv_sub hl [1, 0] rfl)
  have hl := lv_entry ([.ref d]) (n := 2) (Nat.le_of_ble_eq_true rfl)
  have he9 : entryFrame m args 2 = entryFrame m ([.ref d] : List Value).toArray 2 := by rw [hargs]
  rw [he9, lg_entry_eq]
  generalize (lg_sl ([.ref d]) ++ List.replicate (2 - (lg_sl ([.ref d])).length) Slot.unset).toArray = ls at hl ⊢
  have hl : lv_has ls 2 [(0, .ref d)] := hl
  refine lv_aload_n hx hb dX3_init_0 rfl (lv_at hl 0 rfl) ?_
  refine W.objInit hx hb hown (hts (.methodLink RX3 1 objectInit) (by decide +kernel)) (hts (.instanceMethod objectInit) (by decide +kernel)) (hts (.code objectInit ⟨#[0xb1]⟩ 1 none) (by decide +kernel)) rfl (by rw [hml]; exact hl.1) rfl dX3_init_1 (Nat.le_of_ble_eq_true rfl) (Nat.le_of_ble_eq_true rfl) ?_
  refine lv_aload_n hx hb dX3_init_4 rfl (lv_at hl 0 rfl) ?_
  refine lv_bipush (v := nI 6) hx hb dX3_init_5 (by decide) ?_
  refine kc_r (va_runS (As := [.int (nI 6)]) (rest := [.ref d]) ⟨hx, hb, hml, hown, hts⟩ (c_X3_emptyShapes l G B (μ) 6 (by omega)) (va_cwS 1 hts gX3_init_X3_emptyShapes rfl rfl rfl (by decide +kernel) ⟨Nat.le_of_ble_eq_true rfl, Nat.le_of_ble_eq_true rfl⟩) ⟨KW.blind, fun U9 hU9 hW9 => ⟨rfl, KW.pre hBs hKK hS hP U9 hU9 hW9⟩⟩ rfl rfl hl.1 rfl (lv_room (Nat.le_of_ble_eq_true rfl)) dX3_init_7 ⟨(Nat.le_of_ble_eq_true rfl), (Nat.le_of_ble_eq_true rfl)⟩) hS (fun m7 r7 H locs hq9 hP hz9 hS => ?_)
  obtain ⟨hn7, f7, s7, n7, l7, b7, F7, ha7, hA7, hE7⟩ := hq9
  have hx7d := hE7.1 _ _ (hh)
  have nr7d : d ≠ r7 := mp_nn (hh) hn7
  refine mw_putF (ty := .array (.object "OctagonDesk$Shape")) (v := .ref r7) (C := RX3) (T := TX3) (N := 7) hx hb hts in_X3_init_X3 tyX3 tyX3_ok nmX3 hown hK hP hS (hx7d) rfl 0 (by decide) (hts (.fieldLink RX3 13 "OctagonDesk" "slots" "[LOctagonDesk$Shape;") (by decide +kernel)) (fun _ h9 => h9) rfl hin rfl (by decide +kernel) (by first | rfl | decide +kernel) (by first | rfl | decide +kernel) (Nat.le_of_ble_eq_true rfl) dX3_init_10 (fun H locs hP hS => ?_)
  have hP : mw G.1 vwCl B (mu m7 d (.inr (3, [.ref r7, .null, .null, .null, .int (nI 0), .null, .null]))) _ := hP
  refine lv_iconst (v := nI 0) hx hb dX3_init_13 (by decide) ?_
  refine lv_istore_n (lv' := [(1, .int (nI 0)), (0, .ref d)]) hx hb dX3_init_14 rfl hl (by decide) rfl (fun ls hl => ?_)
  refine W.widen (k := 19) (n := 990) (by omega) (by omega) ?_
  exact L15 _ 0 (mu m7 d (.inr (3, [.ref r7, .null, .null, .null, .int (nI 0), .null, .null]))) r7 f7 s7 n7 l7 b7 F7 (Nat.lt_succ_self _) (by omega) ((DI.first hh hE7).fld) (((mu_n ((Ne.symm nr7d))).trans (ha7))) (hn7) (fun j hj => (hA7 j hj).1) (fun j hj => ⟨fun h9 => absurd h9 (by omega), fun _ => (hA7 j hj).2.2⟩) _ _ hP hS ls (lv_sub hl [1, 0] rfl)
