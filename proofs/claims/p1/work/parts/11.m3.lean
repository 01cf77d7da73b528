abbrev rm_X7_shift : Room := { frames := 1, cells := 0, slots := 0, locals := 25 }
set_option maxHeartbeats 4000000 in
set_option maxRecDepth 100000 in
theorem c_X7_shift (l : Launch) (G : GG) (B : Nat) (μ : mp) (md ab av c1 c2 c3 c4 c5 c6 c7 c8 c9 fl st : Nat) (f : Nat → Int64) (v : Nat → Int32) (s9 a9 b9 : Nat) (x9 : Int64) (hm : μ md = some (.inr (7, [.int (nI fl), .ref ab, .ref av, .int (nI st), .ref c1, .ref c2, .ref c3, .ref c4, .ref c5, .ref c6, .ref c7, .ref c8, .ref c9]))) (hab : μ ab = some (.inl (G.2 0, 3744, .inr (.inl f)))) (hav : μ av = some (.inl (G.2 2, 26, .inl v))) (hs9 : s9 < 24) (ha9 : a9 < 6) (hb9 : b9 < 12) (hAI : AI f s9) (hv0 : v s9 = 0) : Met l yX7_shift wsX7_shift rm_X7_shift (va_Pc [.ref md, .int (nI s9), .int (nI a9), .int (nI b9), .long x9] (KW G B μ)) (va_Qv (fun μ2 => ∃ (g9 : Nat → Int64) (w9 : Nat → Int32), μ2 = mu (mu μ ab (.inl (G.2 0, 3744, .inr (.inl g9)))) av (.inl (G.2 2, 26, .inl w9)) ∧ (AI g9 s9 ∧ w9 s9 = 0)) (BB G B) (fun q => B ≤ q)) 0 0 (fun q => B ≤ q) := by
  refine Met.ofW (cc := cX7_shift) (maxL := 10) (ret := none) (by decide) rfl ?_
  intro p e s m args below meth c s₁ B9 hml hv
  obtain ⟨hargs, hBs, hP, hKK⟩ := hv
  have hx := B9.exec
  have hb := B9.bytes
  have hr := B9.returns
  have hts := atoms_spec (ws := wsX7_shift) B9.pre
  have hown : s.vm.findClass RX7 = some m.cls := findClass_of_methodNamed B9.named
  have hlocks := B9.notSynchronized
  have hK := hKK.k
  have hS : va_S (fun q => B ≤ q) s.heap s.heap [] := va_S.rf
  obtain ⟨Q, hQ⟩ : ∃ Q, Q = MQ below (va_Qv (fun μ2 => ∃ (g9 : Nat → Int64) (w9 : Nat → Int32), μ2 = mu (mu μ ab (.inl (G.2 0, 3744, .inr (.inl g9)))) av (.inl (G.2 2, 26, .inl w9)) ∧ (AI g9 s9 ∧ w9 s9 = 0)) (BB G B) (fun q => B ≤ q)) args s 0 0 (fun q => B ≤ q) := ⟨_, rfl⟩
  rw [← hQ]
  have ne0_1 : md ≠ ab := mp_ne hm hab (by simp)
  have ne0_2 : md ≠ av := mp_ne hm hav (by simp)
  have hP : mw G.1 vwCl B (mu (mu μ ab (.inl (G.2 0, 3744, .inr (.inl f)))) av (.inl (G.2 2, 26, .inl v))) s.heap := mw_eq ((congrArg (fun z => mu z av (.inl (G.2 2, 26, .inl v))) (mu_i hab)).trans (mu_i hav)).symm hP
  have L37 : ∀ (N37 : Nat) (q1 : Nat) (w1 : Nat) (g1 : Nat → Int64) (hN37 : 12 - q1 < N37) (hq1 : q1 ≤ 12) (hw1 : w1 < 12) (hA : AI g1 s9) (hB : AI g1 24), ∀ (H : Heap) (locs : List Loc), mw G.1 vwCl B (mu (mu μ ab (.inl (G.2 0, 3744, .inr (.inl g1)))) av (.inl (G.2 2, 26, .inl (upd v 24 (v s9))))) H → va_S (fun q => B ≤ q) s.heap H locs → ∀ ls : Array Slot, lv_has ls 10 [(0, .ref md), (1, .int (nI s9)), (4, .long x9), (6, .int (nI (2 * a9))), (7, .int (nI (2 * a9 + 1))), (8, .int (nI w1)), (9, .int (nI q1))] → W p l e rm_X7_shift s m args below meth c H locs 0 0 Q (F0 m 37 ls []) := by
    intro N37
    induction N37 with
    | zero => intro q1 w1 g1 hN37; exact absurd hN37 (Nat.not_lt_zero _)
    | succ N37 ih37 =>
      intro q1 w1 g1 hN37 hq1 hw1 hA hB H locs hP hS ls hl
      refine lv_iload hx hb dX7_shift_37 (lv_at hl 6 rfl) ?_
      refine lv_bipush (v := nI 12) hx hb dX7_shift_39 (by decide) ?_
      refine nv_icmp_ge (tgt := 116) hx hb (by omega) (by omega) dX7_shift_41 (by decide) (fun hc41 => ?_) (fun hc41 => ?_)
      · refine lv_aload_n hx hb dX7_shift_116 rfl (lv_at hl 0 rfl) ?_
        refine lv_iload_n hx hb dX7_shift_117 rfl (lv_at hl 1 rfl) ?_
        refine lv_iload hx hb dX7_shift_118 (lv_at hl 3 rfl) ?_
        refine lv_iload hx hb dX7_shift_120 (lv_at hl 3 rfl) ?_
        refine lv_aload_n hx hb dX7_shift_122 rfl (lv_at hl 0 rfl) ?_
        refine lv_bipush (v := nI 24) hx hb dX7_shift_123 (by decide) ?_
        refine lv_iload hx hb dX7_shift_125 (lv_at hl 5 rfl) ?_
        refine lv_iload hx hb dX7_shift_127 (lv_at hl 5 rfl) ?_
        refine kc_l (va_runV (As := [.int (nI 24), .int (nI w1), .int (nI w1)]) (rest := [.int (nI (2 * a9)), .int (nI (2 * a9)), .int (nI s9), .ref md]) ⟨hx, hb, hml, hown, hts⟩ (c_X7_get l G B (mu (mu μ ab (.inl (G.2 0, 3744, .inr (.inl g1)))) av (.inl (G.2 2, 26, .inl (upd v 24 (v s9))))) md ab av c1 c2 c3 c4 c5 c6 c7 c8 c9 fl st g1 (upd v 24 (v s9)) 24 w1 w1 ((mu_n ne0_2).trans ((mu_n ne0_1).trans (hm))) ((mu_n ((mp_ne hab hav (by simp)))).trans (mu_s _ _ _)) (mu_s _ _ _) (by omega) (by omega) (by omega)) (cwV 3 hts gX7_shift_X7_get rfl rfl rfl (by decide +kernel) ⟨Nat.le_of_ble_eq_true rfl, Nat.le_of_ble_eq_true rfl⟩) ⟨KW.blind, hP.recv hK rfl ((mu_n ne0_2).trans ((mu_n ne0_1).trans (hm))), fun U9 hU9 hW9 => ⟨rfl, KW.pre hBs hKK hS hP U9 hU9 hW9⟩⟩ rfl rfl hl.1 rfl (lv_room (Nat.le_of_ble_eq_true rfl)) dX7_shift_129 ⟨(Nat.le_of_ble_eq_true rfl), (Nat.le_of_ble_eq_true rfl)⟩) hS (fun r129 m129 H locs hq9 hP hz9 hS => ?_)
        obtain ⟨he9, hr129⟩ := hq9
        rw [he9] at hP
        refine lv_lload hx hb dX7_shift_132 (lv_at hl 2 rfl) ?_
        refine kc_l (va_runS (As := [.long r129, .long x9]) (rest := [.int (nI (2 * a9)), .int (nI (2 * a9)), .int (nI s9), .ref md]) ⟨hx, hb, hml, hown, hts⟩ (c_X7_sum l G B (mu (mu μ ab (.inl (G.2 0, 3744, .inr (.inl g1)))) av (.inl (G.2 2, 26, .inl (upd v 24 (v s9))))) r129 x9) (va_cwS 2 hts gX7_shift_X7_sum rfl rfl rfl (by decide +kernel) ⟨Nat.le_of_ble_eq_true rfl, Nat.le_of_ble_eq_true rfl⟩) ⟨KW.blind, fun U9 hU9 hW9 => ⟨rfl, KW.pre hBs hKK hS hP U9 hU9 hW9⟩⟩ rfl rfl hl.1 rfl (lv_room (Nat.le_of_ble_eq_true rfl)) dX7_shift_134 ⟨(Nat.le_of_ble_eq_true rfl), (Nat.le_of_ble_eq_true rfl)⟩) hS (fun r134 m134 H locs hq9 hP hz9 hS => ?_)
        obtain ⟨he9, hr134⟩ := hq9
        rw [he9] at hP
        refine kc_v (va_runV (As := [.int (nI s9), .int (nI (2 * a9)), .int (nI (2 * a9)), .long r134]) (rest := []) ⟨hx, hb, hml, hown, hts⟩ (c_X7_set l G B (mu (mu μ ab (.inl (G.2 0, 3744, .inr (.inl g1)))) av (.inl (G.2 2, 26, .inl (upd v 24 (v s9))))) md ab av c1 c2 c3 c4 c5 c6 c7 c8 c9 fl st g1 (upd v 24 (v s9)) s9 (2 * a9) (2 * a9) r134 ((mu_n ne0_2).trans ((mu_n ne0_1).trans (hm))) ((mu_n ((mp_ne hab hav (by simp)))).trans (mu_s _ _ _)) (mu_s _ _ _) (by omega) (by omega) (by omega)) (cwV 4 hts gX7_shift_X7_set rfl rfl rfl (by decide +kernel) ⟨Nat.le_of_ble_eq_true rfl, Nat.le_of_ble_eq_true rfl⟩) ⟨KW.blind, hP.recv hK rfl ((mu_n ne0_2).trans ((mu_n ne0_1).trans (hm))), fun U9 hU9 hW9 => ⟨rfl, KW.pre hBs hKK hS hP U9 hU9 hW9⟩⟩ rfl rfl hl.1 rfl (lv_room (Nat.le_of_ble_eq_true rfl)) dX7_shift_137 ⟨(Nat.le_of_ble_eq_true rfl), (Nat.le_of_ble_eq_true rfl)⟩) hS (fun m137 H locs hq9 hP hz9 hS => ?_)
        rw [hq9] at hP
        have hP : mw G.1 vwCl B (mu (mu μ ab (.inl (G.2 0, 3744, .inr (.inl (stf g1 s9 (2 * a9) (2 * a9) r134))))) av (.inl (G.2 2, 26, .inl (upd v 24 (v s9))))) _ := mw_eq ((mu_c _ _ ((mp_ne hav hab (by simp)))).trans (congrArg (fun z => mu z av (.inl (G.2 2, 26, .inl (upd v 24 (v s9))))) (mu_u _ _ _ _))) hP
        refine lv_aload_n hx hb dX7_shift_140 rfl (lv_at hl 0 rfl) ?_
        refine lv_iload_n hx hb dX7_shift_141 rfl (lv_at hl 1 rfl) ?_
        refine lv_iload hx hb dX7_shift_142 (lv_at hl 4 rfl) ?_
        refine lv_iload hx hb dX7_shift_144 (lv_at hl 4 rfl) ?_
        refine lv_aload_n hx hb dX7_shift_146 rfl (lv_at hl 0 rfl) ?_
        refine lv_bipush (v := nI 24) hx hb dX7_shift_147 (by decide) ?_
        refine lv_iload hx hb dX7_shift_149 (lv_at hl 5 rfl) ?_
        refine kc_i (va_runS (As := [.int (nI w1)]) (rest := [.int (nI 24), .ref md, .int (nI (2 * a9 + 1)), .int (nI (2 * a9 + 1)), .int (nI s9), .ref md]) ⟨hx, hb, hml, hown, hts⟩ (c_X7_minus l G B (mu (mu μ ab (.inl (G.2 0, 3744, .inr (.inl (stf g1 s9 (2 * a9) (2 * a9) r134))))) av (.inl (G.2 2, 26, .inl (upd v 24 (v s9))))) w1 (by omega)) (va_cwS 1 hts gX7_shift_X7_minus rfl rfl rfl (by decide +kernel) ⟨Nat.le_of_ble_eq_true rfl, Nat.le_of_ble_eq_true rfl⟩) ⟨KW.blind, fun U9 hU9 hW9 => ⟨rfl, KW.pre hBs hKK hS hP U9 hU9 hW9⟩⟩ rfl rfl hl.1 rfl (lv_room (Nat.le_of_ble_eq_true rfl)) dX7_shift_151 ⟨(Nat.le_of_ble_eq_true rfl), (Nat.le_of_ble_eq_true rfl)⟩) hS (fun r151 m151 H locs hq9 hP hz9 hS => ?_)
        obtain ⟨he9, rfl⟩ := hq9
        rw [he9] at hP
        have hne151 := ne_lt (p := w1) (by omega)
        refine lv_iload hx hb dX7_shift_154 (lv_at hl 5 rfl) ?_
        refine kc_i (va_runS (As := [.int (nI w1)]) (rest := [.int (nI (ne w1)), .int (nI 24), .ref md, .int (nI (2 * a9 + 1)), .int (nI (2 * a9 + 1)), .int (nI s9), .ref md]) ⟨hx, hb, hml, hown, hts⟩ (c_X7_minus l G B (mu (mu μ ab (.inl (G.2 0, 3744, .inr (.inl (stf g1 s9 (2 * a9) (2 * a9) r134))))) av (.inl (G.2 2, 26, .inl (upd v 24 (v s9))))) w1 (by omega)) (va_cwS 1 hts gX7_shift_X7_minus rfl rfl rfl (by decide +kernel) ⟨Nat.le_of_ble_eq_true rfl, Nat.le_of_ble_eq_true rfl⟩) ⟨KW.blind, fun U9 hU9 hW9 => ⟨rfl, KW.pre hBs hKK hS hP U9 hU9 hW9⟩⟩ rfl rfl hl.1 rfl (lv_room (Nat.le_of_ble_eq_true rfl)) dX7_shift_156 ⟨(Nat.le_of_ble_eq_true rfl), (Nat.le_of_ble_eq_true rfl)⟩) hS (fun r156 m156 H locs hq9 hP hz9 hS => ?_)
        obtain ⟨he9, rfl⟩ := hq9
        rw [he9] at hP
        have hne156 := ne_lt (p := w1) (by omega)
        refine kc_l (va_runV (As := [.int (nI 24), .int (nI (ne w1)), .int (nI (ne w1))]) (rest := [.int (nI (2 * a9 + 1)), .int (nI (2 * a9 + 1)), .int (nI s9), .ref md]) ⟨hx, hb, hml, hown, hts⟩ (c_X7_get l G B (mu (mu μ ab (.inl (G.2 0, 3744, .inr (.inl (stf g1 s9 (2 * a9) (2 * a9) r134))))) av (.inl (G.2 2, 26, .inl (upd v 24 (v s9))))) md ab av c1 c2 c3 c4 c5 c6 c7 c8 c9 fl st (stf g1 s9 (2 * a9) (2 * a9) r134) (upd v 24 (v s9)) 24 (ne w1) (ne w1) ((mu_n ne0_2).trans ((mu_n ne0_1).trans (hm))) ((mu_n ((mp_ne hab hav (by simp)))).trans (mu_s _ _ _)) (mu_s _ _ _) (by omega) (by omega) (by omega)) (cwV 3 hts gX7_shift_X7_get rfl rfl rfl (by decide +kernel) ⟨Nat.le_of_ble_eq_true rfl, Nat.le_of_ble_eq_true rfl⟩) ⟨KW.blind, hP.recv hK rfl ((mu_n ne0_2).trans ((mu_n ne0_1).trans (hm))), fun U9 hU9 hW9 => ⟨rfl, KW.pre hBs hKK hS hP U9 hU9 hW9⟩⟩ rfl rfl hl.1 rfl (lv_room (Nat.le_of_ble_eq_true rfl)) dX7_shift_159 ⟨(Nat.le_of_ble_eq_true rfl), (Nat.le_of_ble_eq_true rfl)⟩) hS (fun r159 m159 H locs hq9 hP hz9 hS => ?_)
        obtain ⟨he9, hr159⟩ := hq9
        rw [he9] at hP
        refine lv_lload hx hb dX7_shift_162 (lv_at hl 2 rfl) ?_
        refine lv_lneg hx hb dX7_shift_164 ?_
        refine kc_l (va_runS (As := [.long r159, .long (-x9)]) (rest := [.int (nI (2 * a9 + 1)), .int (nI (2 * a9 + 1)), .int (nI s9), .ref md]) ⟨hx, hb, hml, hown, hts⟩ (c_X7_sum l G B (mu (mu μ ab (.inl (G.2 0, 3744, .inr (.inl (stf g1 s9 (2 * a9) (2 * a9) r134))))) av (.inl (G.2 2, 26, .inl (upd v 24 (v s9))))) r159 (-x9)) (va_cwS 2 hts gX7_shift_X7_sum rfl rfl rfl (by decide +kernel) ⟨Nat.le_of_ble_eq_true rfl, Nat.le_of_ble_eq_true rfl⟩) ⟨KW.blind, fun U9 hU9 hW9 => ⟨rfl, KW.pre hBs hKK hS hP U9 hU9 hW9⟩⟩ rfl rfl hl.1 rfl (lv_room (Nat.le_of_ble_eq_true rfl)) dX7_shift_165 ⟨(Nat.le_of_ble_eq_true rfl), (Nat.le_of_ble_eq_true rfl)⟩) hS (fun r165 m165 H locs hq9 hP hz9 hS => ?_)
        obtain ⟨he9, hr165⟩ := hq9
        rw [he9] at hP
        refine kc_v (va_runV (As := [.int (nI s9), .int (nI (2 * a9 + 1)), .int (nI (2 * a9 + 1)), .long r165]) (rest := []) ⟨hx, hb, hml, hown, hts⟩ (c_X7_set l G B (mu (mu μ ab (.inl (G.2 0, 3744, .inr (.inl (stf g1 s9 (2 * a9) (2 * a9) r134))))) av (.inl (G.2 2, 26, .inl (upd v 24 (v s9))))) md ab av c1 c2 c3 c4 c5 c6 c7 c8 c9 fl st (stf g1 s9 (2 * a9) (2 * a9) r134) (upd v 24 (v s9)) s9 (2 * a9 + 1) (2 * a9 + 1) r165 ((mu_n ne0_2).trans ((mu_n ne0_1).trans (hm))) ((mu_n ((mp_ne hab hav (by simp)))).trans (mu_s _ _ _)) (mu_s _ _ _) (by omega) (by omega) (by omega)) (cwV 4 hts gX7_shift_X7_set rfl rfl rfl (by decide +kernel) ⟨Nat.le_of_ble_eq_true rfl, Nat.le_of_ble_eq_true rfl⟩) ⟨KW.blind, hP.recv hK rfl ((mu_n ne0_2).trans ((mu_n ne0_1).trans (hm))), fun U9 hU9 hW9 => ⟨rfl, KW.pre hBs hKK hS hP U9 hU9 hW9⟩⟩ rfl rfl hl.1 rfl (lv_room (Nat.le_of_ble_eq_true rfl)) dX7_shift_168 ⟨(Nat.le_of_ble_eq_true rfl), (Nat.le_of_ble_eq_true rfl)⟩) hS (fun m168 H locs hq9 hP hz9 hS => ?_)
        rw [hq9] at hP
        have hP : mw G.1 vwCl B (mu (mu μ ab (.inl (G.2 0, 3744, .inr (.inl (stf (stf g1 s9 (2 * a9) (2 * a9) r134) s9 (2 * a9 + 1) (2 * a9 + 1) r165))))) av (.inl (G.2 2, 26, .inl (upd v 24 (v s9))))) _ := mw_eq ((mu_c _ _ ((mp_ne hav hab (by simp)))).trans (congrArg (fun z => mu z av (.inl (G.2 2, 26, .inl (upd v 24 (v s9))))) (mu_u _ _ _ _))) hP
        rw [hQ]
        exact W.vret hx hb hr (fun t99 ht99 hW99 => ⟨⟨mu (mu μ ab (.inl (G.2 0, 3744, .inr (.inl (stf (stf g1 s9 (2 * a9) (2 * a9) r134) s9 (2 * a9 + 1) (2 * a9 + 1) r165))))) av (.inl (G.2 2, 26, .inl (upd v 24 (v s9)))), rfl, (⟨_, _, rfl, (hA.st2 (by rw [hr134]; exact smI (hr129.trans (hB.g (by omega) (by omega))))).st2 (by rw [hr165]; exact smI (hr159.trans ((hB.oth (by omega) (by omega) (by omega)).g (by omega) (by omega)))), by rw [upd_n (by omega)]; exact hv0⟩), by show mw _ _ _ _ t99.heap; rw [ht99]; exact hP⟩, hS.F ht99⟩) hS.2.2 dX7_shift_171
      · refine lv_iload hx hb dX7_shift_44 (lv_at hl 6 rfl) ?_
        refine lv_iload hx hb dX7_shift_46 (lv_at hl 3 rfl) ?_
        refine nv_icmp_eq (tgt := 110) hx hb (by omega) (by omega) dX7_shift_48 (by decide) (fun hc48 => ?_) (fun hc48 => ?_)
        · refine lv_iinc (v := nI (q1 + 1)) (lv' := [(9, .int (nI (q1 + 1))), (0, .ref md), (1, .int (nI s9)), (4, .long x9), (6, .int (nI (2 * a9))), (7, .int (nI (2 * a9 + 1))), (8, .int (nI w1))]) hx hb dX7_shift_110 hl (k := 6) rfl (nI_add _ _) (by decide) rfl (fun ls hl => ?_)
          refine lv_goto (tgt := 37) hx hb dX7_shift_113 (by decide) ?_
          exact ih37 (q1 + 1) w1 g1 (by omega) (by omega) (by omega) (hA) (hB) _ _ hP hS ls (lv_sub hl [1, 2, 3, 4, 5, 6, 0] rfl)
        · refine lv_iload hx hb dX7_shift_51 (lv_at hl 6 rfl) ?_
          refine lv_iload hx hb dX7_shift_53 (lv_at hl 4 rfl) ?_
          refine nv_icmp_eq (tgt := 110) hx hb (by omega) (by omega) dX7_shift_55 (by decide) (fun hc55 => ?_) (fun hc55 => ?_)
          · refine lv_iinc (v := nI (q1 + 1)) (lv' := [(9, .int (nI (q1 + 1))), (0, .ref md), (1, .int (nI s9)), (4, .long x9), (6, .int (nI (2 * a9))), (7, .int (nI (2 * a9 + 1))), (8, .int (nI w1))]) hx hb dX7_shift_110 hl (k := 6) rfl (nI_add _ _) (by decide) rfl (fun ls hl => ?_)
            refine lv_goto (tgt := 37) hx hb dX7_shift_113 (by decide) ?_
            exact ih37 (q1 + 1) w1 g1 (by omega) (by omega) (by omega) (hA) (hB) _ _ hP hS ls (lv_sub hl [1, 2, 3, 4, 5, 6, 0] rfl)
          · refine lv_aload_n hx hb dX7_shift_58 rfl (lv_at hl 0 rfl) ?_
            refine lv_iload_n hx hb dX7_shift_59 rfl (lv_at hl 1 rfl) ?_
            refine lv_iload hx hb dX7_shift_60 (lv_at hl 3 rfl) ?_
            refine lv_iload hx hb dX7_shift_62 (lv_at hl 6 rfl) ?_
            refine lv_aload_n hx hb dX7_shift_64 rfl (lv_at hl 0 rfl) ?_
            refine lv_bipush (v := nI 24) hx hb dX7_shift_65 (by decide) ?_
            refine lv_iload hx hb dX7_shift_67 (lv_at hl 5 rfl) ?_
            refine lv_iload hx hb dX7_shift_69 (lv_at hl 6 rfl) ?_
            refine kc_l (va_runV (As := [.int (nI 24), .int (nI w1), .int (nI q1)]) (rest := [.int (nI q1), .int (nI (2 * a9)), .int (nI s9), .ref md]) ⟨hx, hb, hml, hown, hts⟩ (c_X7_get l G B (mu (mu μ ab (.inl (G.2 0, 3744, .inr (.inl g1)))) av (.inl (G.2 2, 26, .inl (upd v 24 (v s9))))) md ab av c1 c2 c3 c4 c5 c6 c7 c8 c9 fl st g1 (upd v 24 (v s9)) 24 w1 q1 ((mu_n ne0_2).trans ((mu_n ne0_1).trans (hm))) ((mu_n ((mp_ne hab hav (by simp)))).trans (mu_s _ _ _)) (mu_s _ _ _) (by omega) (by omega) (by omega)) (cwV 3 hts gX7_shift_X7_get rfl rfl rfl (by decide +kernel) ⟨Nat.le_of_ble_eq_true rfl, Nat.le_of_ble_eq_true rfl⟩) ⟨KW.blind, hP.recv hK rfl ((mu_n ne0_2).trans ((mu_n ne0_1).trans (hm))), fun U9 hU9 hW9 => ⟨rfl, KW.pre hBs hKK hS hP U9 hU9 hW9⟩⟩ rfl rfl hl.1 rfl (lv_room (Nat.le_of_ble_eq_true rfl)) dX7_shift_71 ⟨(Nat.le_of_ble_eq_true rfl), (Nat.le_of_ble_eq_true rfl)⟩) hS (fun r71 m71 H locs hq9 hP hz9 hS => ?_)
            obtain ⟨he9, hr71⟩ := hq9
            rw [he9] at hP
            refine lv_lload hx hb dX7_shift_74 (lv_at hl 2 rfl) ?_
            refine kc_l (va_runS (As := [.long r71, .long x9]) (rest := [.int (nI q1), .int (nI (2 * a9)), .int (nI s9), .ref md]) ⟨hx, hb, hml, hown, hts⟩ (c_X7_sum l G B (mu (mu μ ab (.inl (G.2 0, 3744, .inr (.inl g1)))) av (.inl (G.2 2, 26, .inl (upd v 24 (v s9))))) r71 x9) (va_cwS 2 hts gX7_shift_X7_sum rfl rfl rfl (by decide +kernel) ⟨Nat.le_of_ble_eq_true rfl, Nat.le_of_ble_eq_true rfl⟩) ⟨KW.blind, fun U9 hU9 hW9 => ⟨rfl, KW.pre hBs hKK hS hP U9 hU9 hW9⟩⟩ rfl rfl hl.1 rfl (lv_room (Nat.le_of_ble_eq_true rfl)) dX7_shift_76 ⟨(Nat.le_of_ble_eq_true rfl), (Nat.le_of_ble_eq_true rfl)⟩) hS (fun r76 m76 H locs hq9 hP hz9 hS => ?_)
            obtain ⟨he9, hr76⟩ := hq9
            rw [he9] at hP
            refine kc_v (va_runV (As := [.int (nI s9), .int (nI (2 * a9)), .int (nI q1), .long r76]) (rest := []) ⟨hx, hb, hml, hown, hts⟩ (c_X7_set l G B (mu (mu μ ab (.inl (G.2 0, 3744, .inr (.inl g1)))) av (.inl (G.2 2, 26, .inl (upd v 24 (v s9))))) md ab av c1 c2 c3 c4 c5 c6 c7 c8 c9 fl st g1 (upd v 24 (v s9)) s9 (2 * a9) q1 r76 ((mu_n ne0_2).trans ((mu_n ne0_1).trans (hm))) ((mu_n ((mp_ne hab hav (by simp)))).trans (mu_s _ _ _)) (mu_s _ _ _) (by omega) (by omega) (by omega)) (cwV 4 hts gX7_shift_X7_set rfl rfl rfl (by decide +kernel) ⟨Nat.le_of_ble_eq_true rfl, Nat.le_of_ble_eq_true rfl⟩) ⟨KW.blind, hP.recv hK rfl ((mu_n ne0_2).trans ((mu_n ne0_1).trans (hm))), fun U9 hU9 hW9 => ⟨rfl, KW.pre hBs hKK hS hP U9 hU9 hW9⟩⟩ rfl rfl hl.1 rfl (lv_room (Nat.le_of_ble_eq_true rfl)) dX7_shift_79 ⟨(Nat.le_of_ble_eq_true rfl), (Nat.le_of_ble_eq_true rfl)⟩) hS (fun m79 H locs hq9 hP hz9 hS => ?_)
            rw [hq9] at hP
            have hP : mw G.1 vwCl B (mu (mu μ ab (.inl (G.2 0, 3744, .inr (.inl (stf g1 s9 (2 * a9) q1 r76))))) av (.inl (G.2 2, 26, .inl (upd v 24 (v s9))))) _ := mw_eq ((mu_c _ _ ((mp_ne hav hab (by simp)))).trans (congrArg (fun z => mu z av (.inl (G.2 2, 26, .inl (upd v 24 (v s9))))) (mu_u _ _ _ _))) hP
            refine lv_aload_n hx hb dX7_shift_82 rfl (lv_at hl 0 rfl) ?_
            refine lv_iload_n hx hb dX7_shift_83 rfl (lv_at hl 1 rfl) ?_
            refine lv_iload hx hb dX7_shift_84 (lv_at hl 4 rfl) ?_
            refine lv_iload hx hb dX7_shift_86 (lv_at hl 6 rfl) ?_
            refine lv_aload_n hx hb dX7_shift_88 rfl (lv_at hl 0 rfl) ?_
            refine lv_bipush (v := nI 24) hx hb dX7_shift_89 (by decide) ?_
            refine lv_iload hx hb dX7_shift_91 (lv_at hl 5 rfl) ?_
            refine kc_i (va_runS (As := [.int (nI w1)]) (rest := [.int (nI 24), .ref md, .int (nI q1), .int (nI (2 * a9 + 1)), .int (nI s9), .ref md]) ⟨hx, hb, hml, hown, hts⟩ (c_X7_minus l G B (mu (mu μ ab (.inl (G.2 0, 3744, .inr (.inl (stf g1 s9 (2 * a9) q1 r76))))) av (.inl (G.2 2, 26, .inl (upd v 24 (v s9))))) w1 (by omega)) (va_cwS 1 hts gX7_shift_X7_minus rfl rfl rfl (by decide +kernel) ⟨Nat.le_of_ble_eq_true rfl, Nat.le_of_ble_eq_true rfl⟩) ⟨KW.blind, fun U9 hU9 hW9 => ⟨rfl, KW.pre hBs hKK hS hP U9 hU9 hW9⟩⟩ rfl rfl hl.1 rfl (lv_room (Nat.le_of_ble_eq_true rfl)) dX7_shift_93 ⟨(Nat.le_of_ble_eq_true rfl), (Nat.le_of_ble_eq_true rfl)⟩) hS (fun r93 m93 H locs hq9 hP hz9 hS => ?_)
            obtain ⟨he9, rfl⟩ := hq9
            rw [he9] at hP
            have hne93 := ne_lt (p := w1) (by omega)
            refine lv_iload hx hb dX7_shift_96 (lv_at hl 6 rfl) ?_
            refine kc_l (va_runV (As := [.int (nI 24), .int (nI (ne w1)), .int (nI q1)]) (rest := [.int (nI q1), .int (nI (2 * a9 + 1)), .int (nI s9), .ref md]) ⟨hx, hb, hml, hown, hts⟩ (c_X7_get l G B (mu (mu μ ab (.inl (G.2 0, 3744, .inr (.inl (stf g1 s9 (2 * a9) q1 r76))))) av (.inl (G.2 2, 26, .inl (upd v 24 (v s9))))) md ab av c1 c2 c3 c4 c5 c6 c7 c8 c9 fl st (stf g1 s9 (2 * a9) q1 r76) (upd v 24 (v s9)) 24 (ne w1) q1 ((mu_n ne0_2).trans ((mu_n ne0_1).trans (hm))) ((mu_n ((mp_ne hab hav (by simp)))).trans (mu_s _ _ _)) (mu_s _ _ _) (by omega) (by omega) (by omega)) (cwV 3 hts gX7_shift_X7_get rfl rfl rfl (by decide +kernel) ⟨Nat.le_of_ble_eq_true rfl, Nat.le_of_ble_eq_true rfl⟩) ⟨KW.blind, hP.recv hK rfl ((mu_n ne0_2).trans ((mu_n ne0_1).trans (hm))), fun U9 hU9 hW9 => ⟨rfl, KW.pre hBs hKK hS hP U9 hU9 hW9⟩⟩ rfl rfl hl.1 rfl (lv_room (Nat.le_of_ble_eq_true rfl)) dX7_shift_98 ⟨(Nat.le_of_ble_eq_true rfl), (Nat.le_of_ble_eq_true rfl)⟩) hS (fun r98 m98 H locs hq9 hP hz9 hS => ?_)
            obtain ⟨he9, hr98⟩ := hq9
            rw [he9] at hP
            refine lv_lload hx hb dX7_shift_101 (lv_at hl 2 rfl) ?_
            refine lv_lneg hx hb dX7_shift_103 ?_
            refine kc_l (va_runS (As := [.long r98, .long (-x9)]) (rest := [.int (nI q1), .int (nI (2 * a9 + 1)), .int (nI s9), .ref md]) ⟨hx, hb, hml, hown, hts⟩ (c_X7_sum l G B (mu (mu μ ab (.inl (G.2 0, 3744, .inr (.inl (stf g1 s9 (2 * a9) q1 r76))))) av (.inl (G.2 2, 26, .inl (upd v 24 (v s9))))) r98 (-x9)) (va_cwS 2 hts gX7_shift_X7_sum rfl rfl rfl (by decide +kernel) ⟨Nat.le_of_ble_eq_true rfl, Nat.le_of_ble_eq_true rfl⟩) ⟨KW.blind, fun U9 hU9 hW9 => ⟨rfl, KW.pre hBs hKK hS hP U9 hU9 hW9⟩⟩ rfl rfl hl.1 rfl (lv_room (Nat.le_of_ble_eq_true rfl)) dX7_shift_104 ⟨(Nat.le_of_ble_eq_true rfl), (Nat.le_of_ble_eq_true rfl)⟩) hS (fun r104 m104 H locs hq9 hP hz9 hS => ?_)
            obtain ⟨he9, hr104⟩ := hq9
            rw [he9] at hP
            refine kc_v (va_runV (As := [.int (nI s9), .int (nI (2 * a9 + 1)), .int (nI q1), .long r104]) (rest := []) ⟨hx, hb, hml, hown, hts⟩ (c_X7_set l G B (mu (mu μ ab (.inl (G.2 0, 3744, .inr (.inl (stf g1 s9 (2 * a9) q1 r76))))) av (.inl (G.2 2, 26, .inl (upd v 24 (v s9))))) md ab av c1 c2 c3 c4 c5 c6 c7 c8 c9 fl st (stf g1 s9 (2 * a9) q1 r76) (upd v 24 (v s9)) s9 (2 * a9 + 1) q1 r104 ((mu_n ne0_2).trans ((mu_n ne0_1).trans (hm))) ((mu_n ((mp_ne hab hav (by simp)))).trans (mu_s _ _ _)) (mu_s _ _ _) (by omega) (by omega) (by omega)) (cwV 4 hts gX7_shift_X7_set rfl rfl rfl (by decide +kernel) ⟨Nat.le_of_ble_eq_true rfl, Nat.le_of_ble_eq_true rfl⟩) ⟨KW.blind, hP.recv hK rfl ((mu_n ne0_2).trans ((mu_n ne0_1).trans (hm))), fun U9 hU9 hW9 => ⟨rfl, KW.pre hBs hKK hS hP U9 hU9 hW9⟩⟩ rfl rfl hl.1 rfl (lv_room (Nat.le_of_ble_eq_true rfl)) dX7_shift_107 ⟨(Nat.le_of_ble_eq_true rfl), (Nat.le_of_ble_eq_true rfl)⟩) hS (fun m107 H locs hq9 hP hz9 hS => ?_)
            rw [hq9] at hP
            have hP : mw G.1 vwCl B (mu (mu μ ab (.inl (G.2 0, 3744, .inr (.inl (stf (stf g1 s9 (2 * a9) q1 r76) s9 (2 * a9 + 1) q1 r104))))) av (.inl (G.2 2, 26, .inl (upd v 24 (v s9))))) _ := mw_eq ((mu_c _ _ ((mp_ne hav hab (by simp)))).trans (congrArg (fun z => mu z av (.inl (G.2 2, 26, .inl (upd v 24 (v s9))))) (mu_u _ _ _ _))) hP
            refine lv_iinc (v := nI (q1 + 1)) (lv' := [(9, .int (nI (q1 + 1))), (0, .ref md), (1, .int (nI s9)), (4, .long x9), (6, .int (nI (2 * a9))), (7, .int (nI (2 * a9 + 1))), (8, .int (nI w1))]) hx hb dX7_shift_110 hl (k := 6) rfl (nI_add _ _) (by decide) rfl (fun ls hl => ?_)
            refine lv_goto (tgt := 37) hx hb dX7_shift_113 (by decide) ?_
            exact ih37 (q1 + 1) w1 (stf (stf g1 s9 (2 * a9) q1 r76) s9 (2 * a9 + 1) q1 r104) (by omega) (by omega) (by omega) ((hA.st2 (by rw [hr76]; exact smI (hr71.trans (hB.g (by omega) (by omega))))).st2 (by rw [hr104]; exact smI (hr98.trans ((hB.oth (by omega) (by omega) (by omega)).g (by omega) (by omega))))) ((hB.oth (by omega) (by omega) (by omega)).oth (by omega) (by omega) (by omega)) _ _ hP hS ls (lv_sub hl [1, 2, 3, 4, 5, 6, 0] rfl)
  have hl := lv_entry ([.ref md, .int (nI s9), .int (nI a9), .int (nI b9), .long x9]) (n := 10) (Nat.le_of_ble_eq_true rfl)
  have he9 : entryFrame m args 10 = entryFrame m ([.ref md, .int (nI s9), .int (nI a9), .int (nI b9), .long x9] : List Value).toArray 10 := by rw [hargs]
  rw [he9, lg_entry_eq]
  generalize (lg_sl ([.ref md, .int (nI s9), .int (nI a9), .int (nI b9), .long x9]) ++ List.replicate (10 - (lg_sl ([.ref md, .int (nI s9), .int (nI a9), .int (nI b9), .long x9])).length) Slot.unset).toArray = ls at hl ⊢
  have hl : lv_has ls 10 [(0, .ref md), (1, .int (nI s9)), (2, .int (nI a9)), (3, .int (nI b9)), (4, .long x9)] := hl
  refine lv_aload_n hx hb dX7_shift_0 rfl (lv_at hl 0 rfl) ?_
  refine lv_bipush (v := nI 24) hx hb dX7_shift_1 (by decide) ?_
  refine lv_iload_n hx hb dX7_shift_3 rfl (lv_at hl 1 rfl) ?_
  refine kc_v (va_runV (As := [.int (nI 24), .int (nI s9)]) (rest := []) ⟨hx, hb, hml, hown, hts⟩ (c_X7_load l G B (mu (mu μ ab (.inl (G.2 0, 3744, .inr (.inl f)))) av (.inl (G.2 2, 26, .inl v))) md ab av c1 c2 c3 c4 c5 c6 c7 c8 c9 fl st f v 24 s9 ((mu_n ne0_2).trans ((mu_n ne0_1).trans (hm))) ((mu_n ((mp_ne hab hav (by simp)))).trans (mu_s _ _ _)) (mu_s _ _ _) (by omega) (by omega) (Or.inl hv0)) (cwV 2 hts gX7_shift_X7_load rfl rfl rfl (by decide +kernel) ⟨Nat.le_of_ble_eq_true rfl, Nat.le_of_ble_eq_true rfl⟩) ⟨KW.blind, hP.recv hK rfl ((mu_n ne0_2).trans ((mu_n ne0_1).trans (hm))), fun U9 hU9 hW9 => ⟨rfl, KW.pre hBs hKK hS hP U9 hU9 hW9⟩⟩ rfl rfl hl.1 rfl (lv_room (Nat.le_of_ble_eq_true rfl)) dX7_shift_4 ⟨(Nat.le_of_ble_eq_true rfl), (Nat.le_of_ble_eq_true rfl)⟩) hS (fun m4 H locs hq9 hP hz9 hS => ?_)
  obtain ⟨g4, rfl, hL4⟩ := hq9
  have hP : mw G.1 vwCl B (mu (mu μ ab (.inl (G.2 0, 3744, .inr (.inl g4)))) av (.inl (G.2 2, 26, .inl (upd v 24 (v s9))))) _ := mw_eq ((congrArg (fun z => mu z av (.inl (G.2 2, 26, .inl (upd v 24 (v s9))))) ((mu_c _ _ ((mp_ne hav hab (by simp)))).trans (congrArg (fun z => mu z av (.inl (G.2 2, 26, .inl v))) (mu_u _ _ _ _)))).trans (mu_u _ _ _ _)) hP
  refine lv_iconst (v := nI 2) hx hb dX7_shift_7 (by decide) ?_
  refine lv_iload_n hx hb dX7_shift_8 rfl (lv_at hl 2 rfl) ?_
  refine nv_imul hx hb dX7_shift_9 ?_
  refine lv_istore (lv' := [(6, .int (nI (2 * a9))), (0, .ref md), (1, .int (nI s9)), (2, .int (nI a9)), (3, .int (nI b9)), (4, .long x9)]) hx hb dX7_shift_10 hl (by decide) rfl (fun ls hl => ?_)
  refine lv_iconst (v := nI 2) hx hb dX7_shift_12 (by decide) ?_
  refine lv_iload_n hx hb dX7_shift_13 rfl (lv_at hl 3 rfl) ?_
  refine nv_imul hx hb dX7_shift_14 ?_
  refine lv_iconst (v := nI 1) hx hb dX7_shift_15 (by decide) ?_
  refine nv_iadd hx hb dX7_shift_16 ?_
  refine lv_istore (lv' := [(7, .int (nI ((2 * a9) + 1))), (6, .int (nI (2 * a9))), (0, .ref md), (1, .int (nI s9)), (2, .int (nI a9)), (3, .int (nI b9)), (4, .long x9)]) hx hb dX7_shift_17 hl (by decide) rfl (fun ls hl => ?_)
  refine lv_iload_n hx hb dX7_shift_19 rfl (lv_at hl 5 rfl) ?_
  refine lv_iload hx hb dX7_shift_20 (lv_at hl 1 rfl) ?_
  refine nv_icmp_ne (tgt := 30) hx hb (by omega) (by omega) dX7_shift_22 (by decide) (fun hc22 => ?_) (fun hc22 => ?_)
  · refine lv_iload hx hb dX7_shift_30 (lv_at hl 0 rfl) ?_
    refine lv_istore (lv' := [(8, .int (nI ((2 * a9) + 1))), (7, .int (nI ((2 * a9) + 1))), (6, .int (nI (2 * a9))), (0, .ref md), (1, .int (nI s9)), (2, .int (nI a9)), (3, .int (nI b9)), (4, .long x9)]) hx hb dX7_shift_32 hl (by decide) rfl (fun ls hl => ?_)
    refine lv_iconst (v := nI 0) hx hb dX7_shift_34 (by decide) ?_
    refine lv_istore (lv' := [(9, .int (nI 0)), (8, .int (nI ((2 * a9) + 1))), (7, .int (nI ((2 * a9) + 1))), (6, .int (nI (2 * a9))), (0, .ref md), (1, .int (nI s9)), (2, .int (nI a9)), (3, .int (nI b9)), (4, .long x9)]) hx hb dX7_shift_35 hl (by decide) rfl (fun ls hl => ?_)
    exact L37 _ 0 ((2 * a9) + 1) g4 (Nat.lt_succ_self _) (by omega) (by omega) (AI.ldo hL4 (by omega) hAI) (AI.ld hL4 hAI) _ _ hP hS ls (lv_sub hl [4, 5, 8, 3, 2, 1, 0] rfl)
  · refine lv_iload hx hb dX7_shift_25 (lv_at hl 1 rfl) ?_
    refine lv_goto (tgt := 32) hx hb dX7_shift_27 (by decide) ?_
    refine lv_istore (lv' := [(8, .int (nI (2 * a9))), (7, .int (nI ((2 * a9) + 1))), (6, .int (nI (2 * a9))), (0, .ref md), (1, .int (nI s9)), (2, .int (nI a9)), (3, .int (nI b9)), (4, .long x9)]) hx hb dX7_shift_32 hl (by decide) rfl (fun ls hl => ?_)
    refine lv_iconst (v := nI 0) hx hb dX7_shift_34 (by decide) ?_
    refine lv_istore (lv' := [(9, .int (nI 0)), (8, .int (nI (2 * a9))), (7, .int (nI ((2 * a9) + 1))), (6, .int (nI (2 * a9))), (0, .ref md), (1, .int (nI s9)), (2, .int (nI a9)), (3, .int (nI b9)), (4, .long x9)]) hx hb dX7_shift_35 hl (by decide) rfl (fun ls hl => ?_)
    exact L37 _ 0 (2 * a9) g4 (Nat.lt_succ_self _) (by omega) (by omega) (AI.ldo hL4 (by omega) hAI) (AI.ld hL4 hAI) _ _ hP hS ls (lv_sub hl [4, 5, 8, 3, 2, 1, 0] rfl)

abbrev rm_X7_make : Room := { frames := 3, cells := 0, slots := 0, locals := 79 }
set_option maxHeartbeats 4000000 in
set_option maxRecDepth 100000 in
theorem c_X7_make_0 (l : Launch) (G : GG) (B : Nat) (μ : mp) (md ab av c1 c2 c3 c4 c5 c6 c7 c8 c9 fl st : Nat) (f : Nat → Int64) (v : Nat → Int32) (s9 a9 b9 : Nat) (y9 : Int32) (hm : μ md = some (.inr (7, [.int (nI fl), .ref ab, .ref av, .int (nI st), .ref c1, .ref c2, .ref c3, .ref c4, .ref c5, .ref c6, .ref c7, .ref c8, .ref c9]))) (hab : μ ab = some (.inl (G.2 0, 3744, .inr (.inl f)))) (hav : μ av = some (.inl (G.2 2, 26, .inl v))) (hs9 : s9 < 24) (hAI : AI f s9) (hv0 : v s9 = 0) (hcN : okN y9) (ha9 : a9 < 12) (hb9 : b9 < 12) (habn : a9 ≠ ne b9) : Met l yX7_make wsX7_make rm_X7_make (va_Pc [.ref md, .int (nI s9), .int (nI 0), .int (nI a9), .int (nI b9), .int y9] (KW G B μ)) (va_Qv (fun μ2 => ∃ (g9 : Nat → Int64) (w9 : Nat → Int32), μ2 = mu (mu μ ab (.inl (G.2 0, 3744, .inr (.inl g9)))) av (.inl (G.2 2, 26, .inl w9)) ∧ (w9 s9 = 0)) (BB G B) (fun q => B ≤ q)) 0 0 (fun q => B ≤ q) := by
  refine Met.ofW (cc := cX7_make) (maxL := 6) (ret := none) (by decide) rfl ?_
  intro p e s m args below meth c s₁ B9 hml hv
  obtain ⟨hargs, hBs, hP, hKK⟩ := hv
  have hx := B9.exec
  have hb := B9.bytes
  have hr := B9.returns
  have hts := atoms_spec (ws := wsX7_make) B9.pre
  have hown : s.vm.findClass RX7 = some m.cls := findClass_of_methodNamed B9.named
  have hlocks := B9.notSynchronized
  have hK := hKK.k
  have hS : va_S (fun q => B ≤ q) s.heap s.heap [] := va_S.rf
  obtain ⟨Q, hQ⟩ : ∃ Q, Q = MQ below (va_Qv (fun μ2 => ∃ (g9 : Nat → Int64) (w9 : Nat → Int32), μ2 = mu (mu μ ab (.inl (G.2 0, 3744, .inr (.inl g9)))) av (.inl (G.2 2, 26, .inl w9)) ∧ (w9 s9 = 0)) (BB G B) (fun q => B ≤ q)) args s 0 0 (fun q => B ≤ q) := ⟨_, rfl⟩
  rw [← hQ]
  have ne0_1 : md ≠ ab := mp_ne hm hab (by simp)
  have ne0_2 : md ≠ av := mp_ne hm hav (by simp)
  have in_X7_make_X7 : ∀ w ∈ wsX70, w ∈ wsX7_make := by decide +kernel
  have hP : mw G.1 vwCl B (mu (mu μ ab (.inl (G.2 0, 3744, .inr (.inl f)))) av (.inl (G.2 2, 26, .inl v))) s.heap := mw_eq ((congrArg (fun z => mu z av (.inl (G.2 2, 26, .inl v))) (mu_i hab)).trans (mu_i hav)).symm hP
  have hl := lv_entry ([.ref md, .int (nI s9), .int (nI 0), .int (nI a9), .int (nI b9), .int y9]) (n := 6) (Nat.le_of_ble_eq_true rfl)
  have he9 : entryFrame m args 6 = entryFrame m ([.ref md, .int (nI s9), .int (nI 0), .int (nI a9), .int (nI b9), .int y9] : List Value).toArray 6 := by rw [hargs]
  rw [he9, lg_entry_eq]
  generalize (lg_sl ([.ref md, .int (nI s9), .int (nI 0), .int (nI a9), .int (nI b9), .int y9]) ++ List.replicate (6 - (lg_sl ([.ref md, .int (nI s9), .int (nI 0), .int (nI a9), .int (nI b9), .int y9])).length) Slot.unset).toArray = ls at hl ⊢
  have hl : lv_has ls 6 [(0, .ref md), (1, .int (nI s9)), (2, .int (nI 0)), (3, .int (nI a9)), (4, .int (nI b9)), (5, .int y9)] := hl
  refine lv_aload_n hx hb dX7_make_0 rfl (lv_at hl 0 rfl) ?_
  refine mw_get (C := RX7) (T := TX7) (N := 13) hx hb hts in_X7_make_X7 hown hK hP ((mu_n ne0_2).trans ((mu_n ne0_1).trans (hm))) rfl 2 (by decide) (hts (.fieldLink RX7 13 "OctagonDeskModel" "isVoid" "[Z") (by decide +kernel)) (fun _ h9 => h9) rfl dX7_make_1 ?_
  refine lv_iload_n hx hb dX7_make_4 rfl (lv_at hl 1 rfl) ?_
  refine mw_zald hx hb hK hP 2 (mu_s _ _ _) rfl (by omega) (by omega) dX7_make_5 ?_
  refine lv_if_eq (tgt := 10) hx hb dX7_make_6 (by decide) (fun hc6 => ?_) (fun hc6 => ?_)
  · refine lv_iload_n hx hb dX7_make_10 rfl (lv_at hl 2 rfl) ?_
    refine lv_if_ne (tgt := 43) hx hb dX7_make_11 (by decide) (fun hc11 => ?_) (fun hc11 => ?_)
    · exact absurd rfl hc11
    · refine lv_iload hx hb dX7_make_14 (lv_at hl 5 rfl) ?_
      refine lv_i2l (v := y9.toInt64) hx hb dX7_make_16 rfl ?_
      refine lv_aload_n hx hb dX7_make_17 rfl (lv_at hl 0 rfl) ?_
      refine lv_iload_n hx hb dX7_make_18 rfl (lv_at hl 1 rfl) ?_
      refine lv_iload_n hx hb dX7_make_19 rfl (lv_at hl 3 rfl) ?_
      refine lv_iload hx hb dX7_make_20 (lv_at hl 4 rfl) ?_
      refine kc_l (va_runV (As := [.int (nI s9), .int (nI a9), .int (nI b9)]) (rest := [.long y9.toInt64]) ⟨hx, hb, hml, hown, hts⟩ (c_X7_get l G B (mu (mu μ ab (.inl (G.2 0, 3744, .inr (.inl f)))) av (.inl (G.2 2, 26, .inl v))) md ab av c1 c2 c3 c4 c5 c6 c7 c8 c9 fl st f v s9 a9 b9 ((mu_n ne0_2).trans ((mu_n ne0_1).trans (hm))) ((mu_n ((mp_ne hab hav (by simp)))).trans (mu_s _ _ _)) (mu_s _ _ _) (by omega) (by omega) (by omega)) (cwV 3 hts gX7_make_X7_get rfl rfl rfl (by decide +kernel) ⟨Nat.le_of_ble_eq_true rfl, Nat.le_of_ble_eq_true rfl⟩) ⟨KW.blind, hP.recv hK rfl ((mu_n ne0_2).trans ((mu_n ne0_1).trans (hm))), fun U9 hU9 hW9 => ⟨rfl, KW.pre hBs hKK hS hP U9 hU9 hW9⟩⟩ rfl rfl hl.1 rfl (lv_room (Nat.le_of_ble_eq_true rfl)) dX7_make_22 ⟨(Nat.le_of_ble_eq_true rfl), (Nat.le_of_ble_eq_true rfl)⟩) hS (fun r22 m22 H locs hq9 hP hz9 hS => ?_)
      obtain ⟨he9, hr22⟩ := hq9
      rw [he9] at hP
      refine nl_if_ge (tgt := 155) hx hb dX7_make_25 dX7_make_26 (by decide) (fun hc25 => ?_) (fun hc25 => ?_)
      · exact absurd (by rw [hr22, hAI.g ha9 hb9] at hc25; exact hc25) (Int64.not_le.mpr hcN.inf)
      · refine lv_aload_n hx hb dX7_make_29 rfl (lv_at hl 0 rfl) ?_
        refine lv_iload_n hx hb dX7_make_30 rfl (lv_at hl 1 rfl) ?_
        refine lv_iload_n hx hb dX7_make_31 rfl (lv_at hl 3 rfl) ?_
        refine lv_iload hx hb dX7_make_32 (lv_at hl 4 rfl) ?_
        refine lv_iload hx hb dX7_make_34 (lv_at hl 5 rfl) ?_
        refine lv_i2l (v := y9.toInt64) hx hb dX7_make_36 rfl ?_
        refine kc_v (va_runV (As := [.int (nI s9), .int (nI a9), .int (nI b9), .long y9.toInt64]) (rest := []) ⟨hx, hb, hml, hown, hts⟩ (c_X7_set l G B (mu (mu μ ab (.inl (G.2 0, 3744, .inr (.inl f)))) av (.inl (G.2 2, 26, .inl v))) md ab av c1 c2 c3 c4 c5 c6 c7 c8 c9 fl st f v s9 a9 b9 y9.toInt64 ((mu_n ne0_2).trans ((mu_n ne0_1).trans (hm))) ((mu_n ((mp_ne hab hav (by simp)))).trans (mu_s _ _ _)) (mu_s _ _ _) (by omega) (by omega) (by omega)) (cwV 4 hts gX7_make_X7_set rfl rfl rfl (by decide +kernel) ⟨Nat.le_of_ble_eq_true rfl, Nat.le_of_ble_eq_true rfl⟩) ⟨KW.blind, hP.recv hK rfl ((mu_n ne0_2).trans ((mu_n ne0_1).trans (hm))), fun U9 hU9 hW9 => ⟨rfl, KW.pre hBs hKK hS hP U9 hU9 hW9⟩⟩ rfl rfl hl.1 rfl (lv_room (Nat.le_of_ble_eq_true rfl)) dX7_make_37 ⟨(Nat.le_of_ble_eq_true rfl), (Nat.le_of_ble_eq_true rfl)⟩) hS (fun m37 H locs hq9 hP hz9 hS => ?_)
        rw [hq9] at hP
        have hP : mw G.1 vwCl B (mu (mu μ ab (.inl (G.2 0, 3744, .inr (.inl (stf f s9 a9 b9 y9.toInt64))))) av (.inl (G.2 2, 26, .inl v))) _ := mw_eq ((mu_c _ _ ((mp_ne hav hab (by simp)))).trans (congrArg (fun z => mu z av (.inl (G.2 2, 26, .inl v))) (mu_u _ _ _ _))) hP
        refine lv_goto (tgt := 155) hx hb dX7_make_40 (by decide) ?_
        refine lv_aload_n hx hb dX7_make_155 rfl (lv_at hl 0 rfl) ?_
        refine lv_iload_n hx hb dX7_make_156 rfl (lv_at hl 1 rfl) ?_
        refine kc_v (va_runV (As := [.int (nI s9)]) (rest := []) ⟨hx, hb, hml, hown, hts⟩ (c_X7_close_n l G B (mu (mu μ ab (.inl (G.2 0, 3744, .inr (.inl (stf f s9 a9 b9 y9.toInt64))))) av (.inl (G.2 2, 26, .inl v))) md ab av c1 c2 c3 c4 c5 c6 c7 c8 c9 fl st (stf f s9 a9 b9 y9.toInt64) v s9 ((mu_n ne0_2).trans ((mu_n ne0_1).trans (hm))) ((mu_n ((mp_ne hab hav (by simp)))).trans (mu_s _ _ _)) (mu_s _ _ _) (by omega) (hv0) (cc_0 hAI ha9 hb9 habn hcN)) (cwV 1 hts gX7_make_X7_close rfl rfl rfl (by decide +kernel) ⟨Nat.le_of_ble_eq_true rfl, Nat.le_of_ble_eq_true rfl⟩) ⟨KW.blind, hP.recv hK rfl ((mu_n ne0_2).trans ((mu_n ne0_1).trans (hm))), fun U9 hU9 hW9 => ⟨rfl, KW.pre hBs hKK hS hP U9 hU9 hW9⟩⟩ rfl rfl hl.1 rfl (lv_room (Nat.le_of_ble_eq_true rfl)) dX7_make_157 ⟨(Nat.le_of_ble_eq_true rfl), (Nat.le_of_ble_eq_true rfl)⟩) hS (fun m157 H locs hq9 hP hz9 hS => ?_)
        rw [hq9] at hP
        rw [hQ]
        exact W.vret hx hb hr (fun t99 ht99 hW99 => ⟨⟨mu (mu μ ab (.inl (G.2 0, 3744, .inr (.inl (stf f s9 a9 b9 y9.toInt64))))) av (.inl (G.2 2, 26, .inl v)), rfl, (⟨_, _, rfl, hv0⟩), by show mw _ _ _ _ t99.heap; rw [ht99]; exact hP⟩, hS.F ht99⟩) hS.2.2 dX7_make_160
  · exact absurd hv0 hc6

set_option maxHeartbeats 4000000 in
set_option maxRecDepth 100000 in
theorem c_X7_make_1 (l : Launch) (G : GG) (B : Nat) (μ : mp) (md ab av c1 c2 c3 c4 c5 c6 c7 c8 c9 fl st : Nat) (f : Nat → Int64) (v : Nat → Int32) (s9 a9 b9 : Nat) (y9 : Int32) (hm : μ md = some (.inr (7, [.int (nI fl), .ref ab, .ref av, .int (nI st), .ref c1, .ref c2, .ref c3, .ref c4, .ref c5, .ref c6, .ref c7, .ref c8, .ref c9]))) (hab : μ ab = some (.inl (G.2 0, 3744, .inr (.inl f)))) (hav : μ av = some (.inl (G.2 2, 26, .inl v))) (hs9 : s9 < 24) (hAI : AI f s9) (hv0 : v s9 = 0) (hcN : okN y9) (ha9 : a9 < 6) (hb9 : b9 < 12) : Met l yX7_make wsX7_make rm_X7_make (va_Pc [.ref md, .int (nI s9), .int (nI 1), .int (nI a9), .int (nI b9), .int y9] (KW G B μ)) (va_Qv (fun μ2 => ∃ (g9 : Nat → Int64) (w9 : Nat → Int32), μ2 = mu (mu μ ab (.inl (G.2 0, 3744, .inr (.inl g9)))) av (.inl (G.2 2, 26, .inl w9)) ∧ (w9 s9 = 0)) (BB G B) (fun q => B ≤ q)) 0 0 (fun q => B ≤ q) := by
  refine Met.ofW (cc := cX7_make) (maxL := 6) (ret := none) (by decide) rfl ?_
  intro p e s m args below meth c s₁ B9 hml hv
  obtain ⟨hargs, hBs, hP, hKK⟩ := hv
  have hx := B9.exec
  have hb := B9.bytes
  have hr := B9.returns
  have hts := atoms_spec (ws := wsX7_make) B9.pre
  have hown : s.vm.findClass RX7 = some m.cls := findClass_of_methodNamed B9.named
  have hlocks := B9.notSynchronized
  have hK := hKK.k
  have hS : va_S (fun q => B ≤ q) s.heap s.heap [] := va_S.rf
  obtain ⟨Q, hQ⟩ : ∃ Q, Q = MQ below (va_Qv (fun μ2 => ∃ (g9 : Nat → Int64) (w9 : Nat → Int32), μ2 = mu (mu μ ab (.inl (G.2 0, 3744, .inr (.inl g9)))) av (.inl (G.2 2, 26, .inl w9)) ∧ (w9 s9 = 0)) (BB G B) (fun q => B ≤ q)) args s 0 0 (fun q => B ≤ q) := ⟨_, rfl⟩
  rw [← hQ]
  have ne0_1 : md ≠ ab := mp_ne hm hab (by simp)
  have ne0_2 : md ≠ av := mp_ne hm hav (by simp)
  have in_X7_make_X7 : ∀ w ∈ wsX70, w ∈ wsX7_make := by decide +kernel
  have hP : mw G.1 vwCl B (mu (mu μ ab (.inl (G.2 0, 3744, .inr (.inl f)))) av (.inl (G.2 2, 26, .inl v))) s.heap := mw_eq ((congrArg (fun z => mu z av (.inl (G.2 2, 26, .inl v))) (mu_i hab)).trans (mu_i hav)).symm hP
  have hl := lv_entry ([.ref md, .int (nI s9), .int (nI 1), .int (nI a9), .int (nI b9), .int y9]) (n := 6) (Nat.le_of_ble_eq_true rfl)
  have he9 : entryFrame m args 6 = entryFrame m ([.ref md, .int (nI s9), .int (nI 1), .int (nI a9), .int (nI b9), .int y9] : List Value).toArray 6 := by rw [hargs]
  rw [he9, lg_entry_eq]
  generalize (lg_sl ([.ref md, .int (nI s9), .int (nI 1), .int (nI a9), .int (nI b9), .int y9]) ++ List.replicate (6 - (lg_sl ([.ref md, .int (nI s9), .int (nI 1), .int (nI a9), .int (nI b9), .int y9])).length) Slot.unset).toArray = ls at hl ⊢
  have hl : lv_has ls 6 [(0, .ref md), (1, .int (nI s9)), (2, .int (nI 1)), (3, .int (nI a9)), (4, .int (nI b9)), (5, .int y9)] := hl
  refine lv_aload_n hx hb dX7_make_0 rfl (lv_at hl 0 rfl) ?_
  refine mw_get (C := RX7) (T := TX7) (N := 13) hx hb hts in_X7_make_X7 hown hK hP ((mu_n ne0_2).trans ((mu_n ne0_1).trans (hm))) rfl 2 (by decide) (hts (.fieldLink RX7 13 "OctagonDeskModel" "isVoid" "[Z") (by decide +kernel)) (fun _ h9 => h9) rfl dX7_make_1 ?_
  refine lv_iload_n hx hb dX7_make_4 rfl (lv_at hl 1 rfl) ?_
  refine mw_zald hx hb hK hP 2 (mu_s _ _ _) rfl (by omega) (by omega) dX7_make_5 ?_
  refine lv_if_eq (tgt := 10) hx hb dX7_make_6 (by decide) (fun hc6 => ?_) (fun hc6 => ?_)
  · refine lv_iload_n hx hb dX7_make_10 rfl (lv_at hl 2 rfl) ?_
    refine lv_if_ne (tgt := 43) hx hb dX7_make_11 (by decide) (fun hc11 => ?_) (fun hc11 => ?_)
    · refine lv_iload_n hx hb dX7_make_43 rfl (lv_at hl 2 rfl) ?_
      refine lv_iconst (v := nI 1) hx hb dX7_make_44 (by decide) ?_
      refine nv_icmp_ne (tgt := 70) hx hb (by omega) (by omega) dX7_make_45 (by decide) (fun hc45 => ?_) (fun hc45 => ?_)
      · exact absurd rfl hc45
      · refine lv_iload hx hb dX7_make_48 (lv_at hl 4 rfl) ?_
        refine lv_iconst (v := nI 2) hx hb dX7_make_50 (by decide) ?_
        refine nv_idiv hx hb (by omega) (by decide) (by decide) dX7_make_51 ?_
        refine lv_iload_n hx hb dX7_make_52 rfl (lv_at hl 3 rfl) ?_
        refine nv_icmp_ne (tgt := 70) hx hb (by omega) (by omega) dX7_make_53 (by decide) (fun hc53 => ?_) (fun hc53 => ?_)
        · refine lv_iload_n hx hb dX7_make_70 rfl (lv_at hl 2 rfl) ?_
          refine lv_iconst (v := nI 1) hx hb dX7_make_71 (by decide) ?_
          refine nv_icmp_ne (tgt := 116) hx hb (by omega) (by omega) dX7_make_72 (by decide) (fun hc72 => ?_) (fun hc72 => ?_)
          · exact absurd rfl hc72
          · refine lv_aload_n hx hb dX7_make_75 rfl (lv_at hl 0 rfl) ?_
            refine lv_iload_n hx hb dX7_make_76 rfl (lv_at hl 1 rfl) ?_
            refine lv_iload_n hx hb dX7_make_77 rfl (lv_at hl 3 rfl) ?_
            refine kc_v (va_runV (As := [.int (nI s9), .int (nI a9)]) (rest := []) ⟨hx, hb, hml, hown, hts⟩ (c_X7_drop l G B (mu (mu μ ab (.inl (G.2 0, 3744, .inr (.inl f)))) av (.inl (G.2 2, 26, .inl v))) md ab av c1 c2 c3 c4 c5 c6 c7 c8 c9 fl st f v s9 a9 ((mu_n ne0_2).trans ((mu_n ne0_1).trans (hm))) ((mu_n ((mp_ne hab hav (by simp)))).trans (mu_s _ _ _)) (mu_s _ _ _) (by omega) (by omega) (hAI)) (cwV 2 hts gX7_make_X7_drop rfl rfl rfl (by decide +kernel) ⟨Nat.le_of_ble_eq_true rfl, Nat.le_of_ble_eq_true rfl⟩) ⟨KW.blind, hP.recv hK rfl ((mu_n ne0_2).trans ((mu_n ne0_1).trans (hm))), fun U9 hU9 hW9 => ⟨rfl, KW.pre hBs hKK hS hP U9 hU9 hW9⟩⟩ rfl rfl hl.1 rfl (lv_room (Nat.le_of_ble_eq_true rfl)) dX7_make_78 ⟨(Nat.le_of_ble_eq_true rfl), (Nat.le_of_ble_eq_true rfl)⟩) hS (fun m78 H locs hq9 hP hz9 hS => ?_)
            obtain ⟨g78, rfl, hA78⟩ := hq9
            have hP : mw G.1 vwCl B (mu (mu μ ab (.inl (G.2 0, 3744, .inr (.inl g78)))) av (.inl (G.2 2, 26, .inl v))) _ := mw_eq ((mu_c _ _ ((mp_ne hav hab (by simp)))).trans (congrArg (fun z => mu z av (.inl (G.2 2, 26, .inl v))) (mu_u _ _ _ _))) hP
            refine lv_aload_n hx hb dX7_make_81 rfl (lv_at hl 0 rfl) ?_
            refine lv_iload_n hx hb dX7_make_82 rfl (lv_at hl 1 rfl) ?_
            refine lv_iconst (v := nI 2) hx hb dX7_make_83 (by decide) ?_
            refine lv_iload_n hx hb dX7_make_84 rfl (lv_at hl 3 rfl) ?_
            refine nv_imul hx hb dX7_make_85 ?_
            refine lv_iload hx hb dX7_make_86 (lv_at hl 4 rfl) ?_
            refine kc_i (va_runS (As := [.int (nI b9)]) (rest := [.int (nI (2 * a9)), .int (nI s9), .ref md]) ⟨hx, hb, hml, hown, hts⟩ (c_X7_minus l G B (mu (mu μ ab (.inl (G.2 0, 3744, .inr (.inl g78)))) av (.inl (G.2 2, 26, .inl v))) b9 (by omega)) (va_cwS 1 hts gX7_make_X7_minus rfl rfl rfl (by decide +kernel) ⟨Nat.le_of_ble_eq_true rfl, Nat.le_of_ble_eq_true rfl⟩) ⟨KW.blind, fun U9 hU9 hW9 => ⟨rfl, KW.pre hBs hKK hS hP U9 hU9 hW9⟩⟩ rfl rfl hl.1 rfl (lv_room (Nat.le_of_ble_eq_true rfl)) dX7_make_88 ⟨(Nat.le_of_ble_eq_true rfl), (Nat.le_of_ble_eq_true rfl)⟩) hS (fun r88 m88 H locs hq9 hP hz9 hS => ?_)
            obtain ⟨he9, rfl⟩ := hq9
            rw [he9] at hP
            have hne88 := ne_lt (p := b9) (by omega)
            refine lv_iload hx hb dX7_make_91 (lv_at hl 5 rfl) ?_
            refine lv_i2l (v := y9.toInt64) hx hb dX7_make_93 rfl ?_
            refine kc_v (va_runV (As := [.int (nI s9), .int (nI (2 * a9)), .int (nI (ne b9)), .long y9.toInt64]) (rest := []) ⟨hx, hb, hml, hown, hts⟩ (c_X7_set l G B (mu (mu μ ab (.inl (G.2 0, 3744, .inr (.inl g78)))) av (.inl (G.2 2, 26, .inl v))) md ab av c1 c2 c3 c4 c5 c6 c7 c8 c9 fl st g78 v s9 (2 * a9) (ne b9) y9.toInt64 ((mu_n ne0_2).trans ((mu_n ne0_1).trans (hm))) ((mu_n ((mp_ne hab hav (by simp)))).trans (mu_s _ _ _)) (mu_s _ _ _) (by omega) (by omega) (by omega)) (cwV 4 hts gX7_make_X7_set rfl rfl rfl (by decide +kernel) ⟨Nat.le_of_ble_eq_true rfl, Nat.le_of_ble_eq_true rfl⟩) ⟨KW.blind, hP.recv hK rfl ((mu_n ne0_2).trans ((mu_n ne0_1).trans (hm))), fun U9 hU9 hW9 => ⟨rfl, KW.pre hBs hKK hS hP U9 hU9 hW9⟩⟩ rfl rfl hl.1 rfl (lv_room (Nat.le_of_ble_eq_true rfl)) dX7_make_94 ⟨(Nat.le_of_ble_eq_true rfl), (Nat.le_of_ble_eq_true rfl)⟩) hS (fun m94 H locs hq9 hP hz9 hS => ?_)
            rw [hq9] at hP
            have hP : mw G.1 vwCl B (mu (mu μ ab (.inl (G.2 0, 3744, .inr (.inl (stf g78 s9 (2 * a9) (ne b9) y9.toInt64))))) av (.inl (G.2 2, 26, .inl v))) _ := mw_eq ((mu_c _ _ ((mp_ne hav hab (by simp)))).trans (congrArg (fun z => mu z av (.inl (G.2 2, 26, .inl v))) (mu_u _ _ _ _))) hP
            refine lv_aload_n hx hb dX7_make_97 rfl (lv_at hl 0 rfl) ?_
            refine lv_iload_n hx hb dX7_make_98 rfl (lv_at hl 1 rfl) ?_
            refine lv_iconst (v := nI 2) hx hb dX7_make_99 (by decide) ?_
            refine lv_iload_n hx hb dX7_make_100 rfl (lv_at hl 3 rfl) ?_
            refine nv_imul hx hb dX7_make_101 ?_
            refine lv_iconst (v := nI 1) hx hb dX7_make_102 (by decide) ?_
            refine nv_iadd hx hb dX7_make_103 ?_
            refine lv_iload hx hb dX7_make_104 (lv_at hl 4 rfl) ?_
            refine lv_iload hx hb dX7_make_106 (lv_at hl 5 rfl) ?_
            refine lv_i2l (v := y9.toInt64) hx hb dX7_make_108 rfl ?_
            refine lv_lneg hx hb dX7_make_109 ?_
            refine kc_v (va_runV (As := [.int (nI s9), .int (nI ((2 * a9) + 1)), .int (nI b9), .long (-y9.toInt64)]) (rest := []) ⟨hx, hb, hml, hown, hts⟩ (c_X7_set l G B (mu (mu μ ab (.inl (G.2 0, 3744, .inr (.inl (stf g78 s9 (2 * a9) (ne b9) y9.toInt64))))) av (.inl (G.2 2, 26, .inl v))) md ab av c1 c2 c3 c4 c5 c6 c7 c8 c9 fl st (stf g78 s9 (2 * a9) (ne b9) y9.toInt64) v s9 ((2 * a9) + 1) b9 (-y9.toInt64) ((mu_n ne0_2).trans ((mu_n ne0_1).trans (hm))) ((mu_n ((mp_ne hab hav (by simp)))).trans (mu_s _ _ _)) (mu_s _ _ _) (by omega) (by omega) (by omega)) (cwV 4 hts gX7_make_X7_set rfl rfl rfl (by decide +kernel) ⟨Nat.le_of_ble_eq_true rfl, Nat.le_of_ble_eq_true rfl⟩) ⟨KW.blind, hP.recv hK rfl ((mu_n ne0_2).trans ((mu_n ne0_1).trans (hm))), fun U9 hU9 hW9 => ⟨rfl, KW.pre hBs hKK hS hP U9 hU9 hW9⟩⟩ rfl rfl hl.1 rfl (lv_room (Nat.le_of_ble_eq_true rfl)) dX7_make_110 ⟨(Nat.le_of_ble_eq_true rfl), (Nat.le_of_ble_eq_true rfl)⟩) hS (fun m110 H locs hq9 hP hz9 hS => ?_)
            rw [hq9] at hP
            have hP : mw G.1 vwCl B (mu (mu μ ab (.inl (G.2 0, 3744, .inr (.inl (stf (stf g78 s9 (2 * a9) (ne b9) y9.toInt64) s9 ((2 * a9) + 1) b9 (-y9.toInt64)))))) av (.inl (G.2 2, 26, .inl v))) _ := mw_eq ((mu_c _ _ ((mp_ne hav hab (by simp)))).trans (congrArg (fun z => mu z av (.inl (G.2 2, 26, .inl v))) (mu_u _ _ _ _))) hP
            refine lv_goto (tgt := 155) hx hb dX7_make_113 (by decide) ?_
            refine lv_aload_n hx hb dX7_make_155 rfl (lv_at hl 0 rfl) ?_
            refine lv_iload_n hx hb dX7_make_156 rfl (lv_at hl 1 rfl) ?_
            refine kc_v (va_runV (As := [.int (nI s9)]) (rest := []) ⟨hx, hb, hml, hown, hts⟩ (c_X7_close_n l G B (mu (mu μ ab (.inl (G.2 0, 3744, .inr (.inl (stf (stf g78 s9 (2 * a9) (ne b9) y9.toInt64) s9 ((2 * a9) + 1) b9 (-y9.toInt64)))))) av (.inl (G.2 2, 26, .inl v))) md ab av c1 c2 c3 c4 c5 c6 c7 c8 c9 fl st (stf (stf g78 s9 (2 * a9) (ne b9) y9.toInt64) s9 ((2 * a9) + 1) b9 (-y9.toInt64)) v s9 ((mu_n ne0_2).trans ((mu_n ne0_1).trans (hm))) ((mu_n ((mp_ne hab hav (by simp)))).trans (mu_s _ _ _)) (mu_s _ _ _) (by omega) (hv0) (cc_1 hA78 ha9 hb9 hc53 hcN)) (cwV 1 hts gX7_make_X7_close rfl rfl rfl (by decide +kernel) ⟨Nat.le_of_ble_eq_true rfl, Nat.le_of_ble_eq_true rfl⟩) ⟨KW.blind, hP.recv hK rfl ((mu_n ne0_2).trans ((mu_n ne0_1).trans (hm))), fun U9 hU9 hW9 => ⟨rfl, KW.pre hBs hKK hS hP U9 hU9 hW9⟩⟩ rfl rfl hl.1 rfl (lv_room (Nat.le_of_ble_eq_true rfl)) dX7_make_157 ⟨(Nat.le_of_ble_eq_true rfl), (Nat.le_of_ble_eq_true rfl)⟩) hS (fun m157 H locs hq9 hP hz9 hS => ?_)
            rw [hq9] at hP
            rw [hQ]
            exact W.vret hx hb hr (fun t99 ht99 hW99 => ⟨⟨mu (mu μ ab (.inl (G.2 0, 3744, .inr (.inl (stf (stf g78 s9 (2 * a9) (ne b9) y9.toInt64) s9 ((2 * a9) + 1) b9 (-y9.toInt64)))))) av (.inl (G.2 2, 26, .inl v)), rfl, (⟨_, _, rfl, hv0⟩), by show mw _ _ _ _ t99.heap; rw [ht99]; exact hP⟩, hS.F ht99⟩) hS.2.2 dX7_make_160
        · refine lv_aload_n hx hb dX7_make_56 rfl (lv_at hl 0 rfl) ?_
          refine lv_iload_n hx hb dX7_make_57 rfl (lv_at hl 1 rfl) ?_
          refine lv_iload_n hx hb dX7_make_58 rfl (lv_at hl 3 rfl) ?_
          refine lv_iload hx hb dX7_make_59 (lv_at hl 4 rfl) ?_
          refine lv_iload hx hb dX7_make_61 (lv_at hl 5 rfl) ?_
          refine lv_i2l (v := y9.toInt64) hx hb dX7_make_63 rfl ?_
          refine kc_v (va_runV (As := [.int (nI s9), .int (nI a9), .int (nI b9), .long y9.toInt64]) (rest := []) ⟨hx, hb, hml, hown, hts⟩ (c_X7_shift l G B (mu (mu μ ab (.inl (G.2 0, 3744, .inr (.inl f)))) av (.inl (G.2 2, 26, .inl v))) md ab av c1 c2 c3 c4 c5 c6 c7 c8 c9 fl st f v s9 a9 b9 y9.toInt64 ((mu_n ne0_2).trans ((mu_n ne0_1).trans (hm))) ((mu_n ((mp_ne hab hav (by simp)))).trans (mu_s _ _ _)) (mu_s _ _ _) (by omega) (by omega) (by omega) (hAI) (hv0)) (cwV 4 hts gX7_make_X7_shift rfl rfl rfl (by decide +kernel) ⟨Nat.le_of_ble_eq_true rfl, Nat.le_of_ble_eq_true rfl⟩) ⟨KW.blind, hP.recv hK rfl ((mu_n ne0_2).trans ((mu_n ne0_1).trans (hm))), fun U9 hU9 hW9 => ⟨rfl, KW.pre hBs hKK hS hP U9 hU9 hW9⟩⟩ rfl rfl hl.1 rfl (lv_room (Nat.le_of_ble_eq_true rfl)) dX7_make_64 ⟨(Nat.le_of_ble_eq_true rfl), (Nat.le_of_ble_eq_true rfl)⟩) hS (fun m64 H locs hq9 hP hz9 hS => ?_)
          obtain ⟨g64, w64, rfl, hA64, hw64⟩ := hq9
          have hP : mw G.1 vwCl B (mu (mu μ ab (.inl (G.2 0, 3744, .inr (.inl g64)))) av (.inl (G.2 2, 26, .inl w64))) _ := mw_eq ((congrArg (fun z => mu z av (.inl (G.2 2, 26, .inl w64))) ((mu_c _ _ ((mp_ne hav hab (by simp)))).trans (congrArg (fun z => mu z av (.inl (G.2 2, 26, .inl v))) (mu_u _ _ _ _)))).trans (mu_u _ _ _ _)) hP
          refine lv_goto (tgt := 155) hx hb dX7_make_67 (by decide) ?_
          refine lv_aload_n hx hb dX7_make_155 rfl (lv_at hl 0 rfl) ?_
          refine lv_iload_n hx hb dX7_make_156 rfl (lv_at hl 1 rfl) ?_
          refine kc_v (va_runV (As := [.int (nI s9)]) (rest := []) ⟨hx, hb, hml, hown, hts⟩ (c_X7_close_n l G B (mu (mu μ ab (.inl (G.2 0, 3744, .inr (.inl g64)))) av (.inl (G.2 2, 26, .inl w64))) md ab av c1 c2 c3 c4 c5 c6 c7 c8 c9 fl st g64 w64 s9 ((mu_n ne0_2).trans ((mu_n ne0_1).trans (hm))) ((mu_n ((mp_ne hab hav (by simp)))).trans (mu_s _ _ _)) (mu_s _ _ _) (by omega) (hw64) (CC.ai hA64)) (cwV 1 hts gX7_make_X7_close rfl rfl rfl (by decide +kernel) ⟨Nat.le_of_ble_eq_true rfl, Nat.le_of_ble_eq_true rfl⟩) ⟨KW.blind, hP.recv hK rfl ((mu_n ne0_2).trans ((mu_n ne0_1).trans (hm))), fun U9 hU9 hW9 => ⟨rfl, KW.pre hBs hKK hS hP U9 hU9 hW9⟩⟩ rfl rfl hl.1 rfl (lv_room (Nat.le_of_ble_eq_true rfl)) dX7_make_157 ⟨(Nat.le_of_ble_eq_true rfl), (Nat.le_of_ble_eq_true rfl)⟩) hS (fun m157 H locs hq9 hP hz9 hS => ?_)
          rw [hq9] at hP
          rw [hQ]
          exact W.vret hx hb hr (fun t99 ht99 hW99 => ⟨⟨mu (mu μ ab (.inl (G.2 0, 3744, .inr (.inl g64)))) av (.inl (G.2 2, 26, .inl w64)), rfl, (⟨_, _, rfl, hw64⟩), by show mw _ _ _ _ t99.heap; rw [ht99]; exact hP⟩, hS.F ht99⟩) hS.2.2 dX7_make_160
    · exact absurd hc11 (by decide)
  · exact absurd hv0 hc6

set_option maxHeartbeats 4000000 in
set_option maxRecDepth 100000 in
theorem c_X7_make_2 (l : Launch) (G : GG) (B : Nat) (μ : mp) (md ab av c1 c2 c3 c4 c5 c6 c7 c8 c9 fl st : Nat) (f : Nat → Int64) (v : Nat → Int32) (s9 a9 : Nat) (b9 y9 : Int32) (hm : μ md = some (.inr (7, [.int (nI fl), .ref ab, .ref av, .int (nI st), .ref c1, .ref c2, .ref c3, .ref c4, .ref c5, .ref c6, .ref c7, .ref c8, .ref c9]))) (hab : μ ab = some (.inl (G.2 0, 3744, .inr (.inl f)))) (hav : μ av = some (.inl (G.2 2, 26, .inl v))) (hs9 : s9 < 24) (hAI : AI f s9) (hv0 : v s9 = 0) (hcN : okN y9) (ha9 : a9 < 6) (hbN : okN b9) (hbc : b9 ≤ y9) : Met l yX7_make wsX7_make rm_X7_make (va_Pc [.ref md, .int (nI s9), .int (nI 2), .int (nI a9), .int b9, .int y9] (KW G B μ)) (va_Qv (fun μ2 => ∃ (g9 : Nat → Int64) (w9 : Nat → Int32), μ2 = mu (mu μ ab (.inl (G.2 0, 3744, .inr (.inl g9)))) av (.inl (G.2 2, 26, .inl w9)) ∧ (w9 s9 = 0)) (BB G B) (fun q => B ≤ q)) 0 0 (fun q => B ≤ q) := by
  refine Met.ofW (cc := cX7_make) (maxL := 6) (ret := none) (by decide) rfl ?_
  intro p e s m args below meth c s₁ B9 hml hv
  obtain ⟨hargs, hBs, hP, hKK⟩ := hv
  have hx := B9.exec
  have hb := B9.bytes
  have hr := B9.returns
  have hts := atoms_spec (ws := wsX7_make) B9.pre
  have hown : s.vm.findClass RX7 = some m.cls := findClass_of_methodNamed B9.named
  have hlocks := B9.notSynchronized
  have hK := hKK.k
  have hS : va_S (fun q => B ≤ q) s.heap s.heap [] := va_S.rf
  obtain ⟨Q, hQ⟩ : ∃ Q, Q = MQ below (va_Qv (fun μ2 => ∃ (g9 : Nat → Int64) (w9 : Nat → Int32), μ2 = mu (mu μ ab (.inl (G.2 0, 3744, .inr (.inl g9)))) av (.inl (G.2 2, 26, .inl w9)) ∧ (w9 s9 = 0)) (BB G B) (fun q => B ≤ q)) args s 0 0 (fun q => B ≤ q) := ⟨_, rfl⟩
  rw [← hQ]
  have ne0_1 : md ≠ ab := mp_ne hm hab (by simp)
  have ne0_2 : md ≠ av := mp_ne hm hav (by simp)
  have in_X7_make_X7 : ∀ w ∈ wsX70, w ∈ wsX7_make := by decide +kernel
  have hP : mw G.1 vwCl B (mu (mu μ ab (.inl (G.2 0, 3744, .inr (.inl f)))) av (.inl (G.2 2, 26, .inl v))) s.heap := mw_eq ((congrArg (fun z => mu z av (.inl (G.2 2, 26, .inl v))) (mu_i hab)).trans (mu_i hav)).symm hP
  have hl := lv_entry ([.ref md, .int (nI s9), .int (nI 2), .int (nI a9), .int b9, .int y9]) (n := 6) (Nat.le_of_ble_eq_true rfl)
  have he9 : entryFrame m args 6 = entryFrame m ([.ref md, .int (nI s9), .int (nI 2), .int (nI a9), .int b9, .int y9] : List Value).toArray 6 := by rw [hargs]
  rw [he9, lg_entry_eq]
  generalize (lg_sl ([.ref md, .int (nI s9), .int (nI 2), .int (nI a9), .int b9, .int y9]) ++ List.replicate (6 - (lg_sl ([.ref md, .int (nI s9), .int (nI 2), .int (nI a9), .int b9, .int y9])).length) Slot.unset).toArray = ls at hl ⊢
  have hl : lv_has ls 6 [(0, .ref md), (1, .int (nI s9)), (2, .int (nI 2)), (3, .int (nI a9)), (4, .int b9), (5, .int y9)] := hl
  refine lv_aload_n hx hb dX7_make_0 rfl (lv_at hl 0 rfl) ?_
  refine mw_get (C := RX7) (T := TX7) (N := 13) hx hb hts in_X7_make_X7 hown hK hP ((mu_n ne0_2).trans ((mu_n ne0_1).trans (hm))) rfl 2 (by decide) (hts (.fieldLink RX7 13 "OctagonDeskModel" "isVoid" "[Z") (by decide +kernel)) (fun _ h9 => h9) rfl dX7_make_1 ?_
  refine lv_iload_n hx hb dX7_make_4 rfl (lv_at hl 1 rfl) ?_
  refine mw_zald hx hb hK hP 2 (mu_s _ _ _) rfl (by omega) (by omega) dX7_make_5 ?_
  refine lv_if_eq (tgt := 10) hx hb dX7_make_6 (by decide) (fun hc6 => ?_) (fun hc6 => ?_)
  · refine lv_iload_n hx hb dX7_make_10 rfl (lv_at hl 2 rfl) ?_
    refine lv_if_ne (tgt := 43) hx hb dX7_make_11 (by decide) (fun hc11 => ?_) (fun hc11 => ?_)
    · refine lv_iload_n hx hb dX7_make_43 rfl (lv_at hl 2 rfl) ?_
      refine lv_iconst (v := nI 1) hx hb dX7_make_44 (by decide) ?_
      refine nv_icmp_ne (tgt := 70) hx hb (by omega) (by omega) dX7_make_45 (by decide) (fun hc45 => ?_) (fun hc45 => ?_)
      · refine lv_iload_n hx hb dX7_make_70 rfl (lv_at hl 2 rfl) ?_
        refine lv_iconst (v := nI 1) hx hb dX7_make_71 (by decide) ?_
        refine nv_icmp_ne (tgt := 116) hx hb (by omega) (by omega) dX7_make_72 (by decide) (fun hc72 => ?_) (fun hc72 => ?_)
        · refine lv_aload_n hx hb dX7_make_116 rfl (lv_at hl 0 rfl) ?_
          refine lv_iload_n hx hb dX7_make_117 rfl (lv_at hl 1 rfl) ?_
          refine lv_iload_n hx hb dX7_make_118 rfl (lv_at hl 3 rfl) ?_
          refine kc_v (va_runV (As := [.int (nI s9), .int (nI a9)]) (rest := []) ⟨hx, hb, hml, hown, hts⟩ (c_X7_drop l G B (mu (mu μ ab (.inl (G.2 0, 3744, .inr (.inl f)))) av (.inl (G.2 2, 26, .inl v))) md ab av c1 c2 c3 c4 c5 c6 c7 c8 c9 fl st f v s9 a9 ((mu_n ne0_2).trans ((mu_n ne0_1).trans (hm))) ((mu_n ((mp_ne hab hav (by simp)))).trans (mu_s _ _ _)) (mu_s _ _ _) (by omega) (by omega) (hAI)) (cwV 2 hts gX7_make_X7_drop rfl rfl rfl (by decide +kernel) ⟨Nat.le_of_ble_eq_true rfl, Nat.le_of_ble_eq_true rfl⟩) ⟨KW.blind, hP.recv hK rfl ((mu_n ne0_2).trans ((mu_n ne0_1).trans (hm))), fun U9 hU9 hW9 => ⟨rfl, KW.pre hBs hKK hS hP U9 hU9 hW9⟩⟩ rfl rfl hl.1 rfl (lv_room (Nat.le_of_ble_eq_true rfl)) dX7_make_119 ⟨(Nat.le_of_ble_eq_true rfl), (Nat.le_of_ble_eq_true rfl)⟩) hS (fun m119 H locs hq9 hP hz9 hS => ?_)
          obtain ⟨g119, rfl, hA119⟩ := hq9
          have hP : mw G.1 vwCl B (mu (mu μ ab (.inl (G.2 0, 3744, .inr (.inl g119)))) av (.inl (G.2 2, 26, .inl v))) _ := mw_eq ((mu_c _ _ ((mp_ne hav hab (by simp)))).trans (congrArg (fun z => mu z av (.inl (G.2 2, 26, .inl v))) (mu_u _ _ _ _))) hP
          refine lv_aload_n hx hb dX7_make_122 rfl (lv_at hl 0 rfl) ?_
          refine lv_iload_n hx hb dX7_make_123 rfl (lv_at hl 1 rfl) ?_
          refine lv_iconst (v := nI 2) hx hb dX7_make_124 (by decide) ?_
          refine lv_iload_n hx hb dX7_make_125 rfl (lv_at hl 3 rfl) ?_
          refine nv_imul hx hb dX7_make_126 ?_
          refine lv_iconst (v := nI 2) hx hb dX7_make_127 (by decide) ?_
          refine lv_iload_n hx hb dX7_make_128 rfl (lv_at hl 3 rfl) ?_
          refine nv_imul hx hb dX7_make_129 ?_
          refine lv_iload hx hb dX7_make_130 (lv_at hl 5 rfl) ?_
          refine lv_i2l (v := y9.toInt64) hx hb dX7_make_132 rfl ?_
          refine kc_v (va_runV (As := [.int (nI s9), .int (nI (2 * a9)), .int (nI (2 * a9)), .long y9.toInt64]) (rest := []) ⟨hx, hb, hml, hown, hts⟩ (c_X7_set l G B (mu (mu μ ab (.inl (G.2 0, 3744, .inr (.inl g119)))) av (.inl (G.2 2, 26, .inl v))) md ab av c1 c2 c3 c4 c5 c6 c7 c8 c9 fl st g119 v s9 (2 * a9) (2 * a9) y9.toInt64 ((mu_n ne0_2).trans ((mu_n ne0_1).trans (hm))) ((mu_n ((mp_ne hab hav (by simp)))).trans (mu_s _ _ _)) (mu_s _ _ _) (by omega) (by omega) (by omega)) (cwV 4 hts gX7_make_X7_set rfl rfl rfl (by decide +kernel) ⟨Nat.le_of_ble_eq_true rfl, Nat.le_of_ble_eq_true rfl⟩) ⟨KW.blind, hP.recv hK rfl ((mu_n ne0_2).trans ((mu_n ne0_1).trans (hm))), fun U9 hU9 hW9 => ⟨rfl, KW.pre hBs hKK hS hP U9 hU9 hW9⟩⟩ rfl rfl hl.1 rfl (lv_room (Nat.le_of_ble_eq_true rfl)) dX7_make_133 ⟨(Nat.le_of_ble_eq_true rfl), (Nat.le_of_ble_eq_true rfl)⟩) hS (fun m133 H locs hq9 hP hz9 hS => ?_)
          rw [hq9] at hP
          have hP : mw G.1 vwCl B (mu (mu μ ab (.inl (G.2 0, 3744, .inr (.inl (stf g119 s9 (2 * a9) (2 * a9) y9.toInt64))))) av (.inl (G.2 2, 26, .inl v))) _ := mw_eq ((mu_c _ _ ((mp_ne hav hab (by simp)))).trans (congrArg (fun z => mu z av (.inl (G.2 2, 26, .inl v))) (mu_u _ _ _ _))) hP
          refine lv_aload_n hx hb dX7_make_136 rfl (lv_at hl 0 rfl) ?_
          refine lv_iload_n hx hb dX7_make_137 rfl (lv_at hl 1 rfl) ?_
          refine lv_iconst (v := nI 2) hx hb dX7_make_138 (by decide) ?_
          refine lv_iload_n hx hb dX7_make_139 rfl (lv_at hl 3 rfl) ?_
          refine nv_imul hx hb dX7_make_140 ?_
          refine lv_iconst (v := nI 1) hx hb dX7_make_141 (by decide) ?_
          refine nv_iadd hx hb dX7_make_142 ?_
          refine lv_iconst (v := nI 2) hx hb dX7_make_143 (by decide) ?_
          refine lv_iload_n hx hb dX7_make_144 rfl (lv_at hl 3 rfl) ?_
          refine nv_imul hx hb dX7_make_145 ?_
          refine lv_iconst (v := nI 1) hx hb dX7_make_146 (by decide) ?_
          refine nv_iadd hx hb dX7_make_147 ?_
          refine lv_iload hx hb dX7_make_148 (lv_at hl 4 rfl) ?_
          refine lv_i2l (v := b9.toInt64) hx hb dX7_make_150 rfl ?_
          refine lv_lneg hx hb dX7_make_151 ?_
          refine kc_v (va_runV (As := [.int (nI s9), .int (nI ((2 * a9) + 1)), .int (nI ((2 * a9) + 1)), .long (-b9.toInt64)]) (rest := []) ⟨hx, hb, hml, hown, hts⟩ (c_X7_set l G B (mu (mu μ ab (.inl (G.2 0, 3744, .inr (.inl (stf g119 s9 (2 * a9) (2 * a9) y9.toInt64))))) av (.inl (G.2 2, 26, .inl v))) md ab av c1 c2 c3 c4 c5 c6 c7 c8 c9 fl st (stf g119 s9 (2 * a9) (2 * a9) y9.toInt64) v s9 ((2 * a9) + 1) ((2 * a9) + 1) (-b9.toInt64) ((mu_n ne0_2).trans ((mu_n ne0_1).trans (hm))) ((mu_n ((mp_ne hab hav (by simp)))).trans (mu_s _ _ _)) (mu_s _ _ _) (by omega) (by omega) (by omega)) (cwV 4 hts gX7_make_X7_set rfl rfl rfl (by decide +kernel) ⟨Nat.le_of_ble_eq_true rfl, Nat.le_of_ble_eq_true rfl⟩) ⟨KW.blind, hP.recv hK rfl ((mu_n ne0_2).trans ((mu_n ne0_1).trans (hm))), fun U9 hU9 hW9 => ⟨rfl, KW.pre hBs hKK hS hP U9 hU9 hW9⟩⟩ rfl rfl hl.1 rfl (lv_room (Nat.le_of_ble_eq_true rfl)) dX7_make_152 ⟨(Nat.le_of_ble_eq_true rfl), (Nat.le_of_ble_eq_true rfl)⟩) hS (fun m152 H locs hq9 hP hz9 hS => ?_)
          rw [hq9] at hP
          have hP : mw G.1 vwCl B (mu (mu μ ab (.inl (G.2 0, 3744, .inr (.inl (stf (stf g119 s9 (2 * a9) (2 * a9) y9.toInt64) s9 ((2 * a9) + 1) ((2 * a9) + 1) (-b9.toInt64)))))) av (.inl (G.2 2, 26, .inl v))) _ := mw_eq ((mu_c _ _ ((mp_ne hav hab (by simp)))).trans (congrArg (fun z => mu z av (.inl (G.2 2, 26, .inl v))) (mu_u _ _ _ _))) hP
          refine lv_aload_n hx hb dX7_make_155 rfl (lv_at hl 0 rfl) ?_
          refine lv_iload_n hx hb dX7_make_156 rfl (lv_at hl 1 rfl) ?_
          refine kc_v (va_runV (As := [.int (nI s9)]) (rest := []) ⟨hx, hb, hml, hown, hts⟩ (c_X7_close_n l G B (mu (mu μ ab (.inl (G.2 0, 3744, .inr (.inl (stf (stf g119 s9 (2 * a9) (2 * a9) y9.toInt64) s9 ((2 * a9) + 1) ((2 * a9) + 1) (-b9.toInt64)))))) av (.inl (G.2 2, 26, .inl v))) md ab av c1 c2 c3 c4 c5 c6 c7 c8 c9 fl st (stf (stf g119 s9 (2 * a9) (2 * a9) y9.toInt64) s9 ((2 * a9) + 1) ((2 * a9) + 1) (-b9.toInt64)) v s9 ((mu_n ne0_2).trans ((mu_n ne0_1).trans (hm))) ((mu_n ((mp_ne hab hav (by simp)))).trans (mu_s _ _ _)) (mu_s _ _ _) (by omega) (hv0) (cc_2 hA119 ha9 hbN hcN hbc)) (cwV 1 hts gX7_make_X7_close rfl rfl rfl (by decide +kernel) ⟨Nat.le_of_ble_eq_true rfl, Nat.le_of_ble_eq_true rfl⟩) ⟨KW.blind, hP.recv hK rfl ((mu_n ne0_2).trans ((mu_n ne0_1).trans (hm))), fun U9 hU9 hW9 => ⟨rfl, KW.pre hBs hKK hS hP U9 hU9 hW9⟩⟩ rfl rfl hl.1 rfl (lv_room (Nat.le_of_ble_eq_true rfl)) dX7_make_157 ⟨(Nat.le_of_ble_eq_true rfl), (Nat.le_of_ble_eq_true rfl)⟩) hS (fun m157 H locs hq9 hP hz9 hS => ?_)
          rw [hq9] at hP
          rw [hQ]
          exact W.vret hx hb hr (fun t99 ht99 hW99 => ⟨⟨mu (mu μ ab (.inl (G.2 0, 3744, .inr (.inl (stf (stf g119 s9 (2 * a9) (2 * a9) y9.toInt64) s9 ((2 * a9) + 1) ((2 * a9) + 1) (-b9.toInt64)))))) av (.inl (G.2 2, 26, .inl v)), rfl, (⟨_, _, rfl, hv0⟩), by show mw _ _ _ _ t99.heap; rw [ht99]; exact hP⟩, hS.F ht99⟩) hS.2.2 dX7_make_160
        · exact absurd hc72 (by decide)
      · exact absurd hc45 (by decide)
    · exact absurd hc11 (by decide)
  · exact absurd hv0 hc6

abbrev rm_X7_act : Room := { frames := 4, cells := 0, slots := 0, locals := 104 }
set_option maxHeartbeats 4000000 in
set_option maxRecDepth 100000 in
theorem c_X7_act (l : Launch) (G : GG) (B : Nat) (μ : mp) (md ab av c1 c2 c3 c4 c5 c6 c7 c8 c9 fl st : Nat) (f : Nat → Int64) (v : Nat → Int32) (x9 k9 a9 b9 y9 : Int32) (hm : μ md = some (.inr (7, [.int (nI fl), .ref ab, .ref av, .int (nI st), .ref c1, .ref c2, .ref c3, .ref c4, .ref c5, .ref c6, .ref c7, .ref c8, .ref c9]))) (hab : μ ab = some (.inl (G.2 0, 3744, .inr (.inl f)))) (hav : μ av = some (.inl (G.2 2, 26, .inl v))) (hNM : NM f v) : Met l yX7_act wsX7_act rm_X7_act (va_Pc [.ref md, .int x9, .int k9, .int a9, .int b9, .int y9] (KW G B μ)) (va_Qi (fun r μ2 => ∃ (fl9 : Nat) (g9 : Nat → Int64) (w9 : Nat → Int32), μ2 = mu (mu (mu μ md (.inr (7, [.int (nI fl9), .ref ab, .ref av, .int (nI st), .ref c1, .ref c2, .ref c3, .ref c4, .ref c5, .ref c6, .ref c7, .ref c8, .ref c9]))) ab (.inl (G.2 0, 3744, .inr (.inl g9)))) av (.inl (G.2 2, 26, .inl w9)) ∧ ((fl9 = 0 ∧ (okS x9 ∧ okA k9 a9 b9 y9) ∧ r = 1) ∨ (fl9 = 1 ∧ ¬ (okS x9 ∧ okA k9 a9 b9 y9)))) (BB G B) (fun q => B ≤ q)) 0 0 (fun q => B ≤ q) := by
  refine Met.ofW (cc := cX7_act) (maxL := 6) (ret := (some .boolean)) (by decide) rfl ?_
  intro p e s m args below meth c s₁ B9 hml hv
  obtain ⟨hargs, hBs, hP, hKK⟩ := hv
  have hx := B9.exec
  have hb := B9.bytes
  have hr := B9.returns
  have hts := atoms_spec (ws := wsX7_act) B9.pre
  have hown : s.vm.findClass RX7 = some m.cls := findClass_of_methodNamed B9.named
  have hlocks := B9.notSynchronized
  have hK := hKK.k
  have hS : va_S (fun q => B ≤ q) s.heap s.heap [] := va_S.rf
  obtain ⟨Q, hQ⟩ : ∃ Q, Q = MQ below (va_Qi (fun r μ2 => ∃ (fl9 : Nat) (g9 : Nat → Int64) (w9 : Nat → Int32), μ2 = mu (mu (mu μ md (.inr (7, [.int (nI fl9), .ref ab, .ref av, .int (nI st), .ref c1, .ref c2, .ref c3, .ref c4, .ref c5, .ref c6, .ref c7, .ref c8, .ref c9]))) ab (.inl (G.2 0, 3744, .inr (.inl g9)))) av (.inl (G.2 2, 26, .inl w9)) ∧ ((fl9 = 0 ∧ (okS x9 ∧ okA k9 a9 b9 y9) ∧ r = 1) ∨ (fl9 = 1 ∧ ¬ (okS x9 ∧ okA k9 a9 b9 y9)))) (BB G B) (fun q => B ≤ q)) args s 0 0 (fun q => B ≤ q) := ⟨_, rfl⟩
  rw [← hQ]
  have ne0_1 : md ≠ ab := mp_ne hm hab (by simp)
  have ne0_2 : md ≠ av := mp_ne hm hav (by simp)
  have in_X7_act_X7 : ∀ w ∈ wsX70, w ∈ wsX7_act := by decide +kernel
  have hP : mw G.1 vwCl B (mu (mu (mu μ md (.inr (7, [.int (nI fl), .ref ab, .ref av, .int (nI st), .ref c1, .ref c2, .ref c3, .ref c4, .ref c5, .ref c6, .ref c7, .ref c8, .ref c9]))) ab (.inl (G.2 0, 3744, .inr (.inl f)))) av (.inl (G.2 2, 26, .inl v))) s.heap := mw_eq ((congrArg (fun z => mu z av (.inl (G.2 2, 26, .inl v))) ((congrArg (fun z => mu z ab (.inl (G.2 0, 3744, .inr (.inl f)))) (mu_i hm)).trans (mu_i hab))).trans (mu_i hav)).symm hP
  have hl := lv_entry ([.ref md, .int x9, .int k9, .int a9, .int b9, .int y9]) (n := 6) (Nat.le_of_ble_eq_true rfl)
  have he9 : entryFrame m args 6 = entryFrame m ([.ref md, .int x9, .int k9, .int a9, .int b9, .int y9] : List Value).toArray 6 := by rw [hargs]
  rw [he9, lg_entry_eq]
  generalize (lg_sl ([.ref md, .int x9, .int k9, .int a9, .int b9, .int y9]) ++ List.replicate (6 - (lg_sl ([.ref md, .int x9, .int k9, .int a9, .int b9, .int y9])).length) Slot.unset).toArray = ls at hl ⊢
  have hl : lv_has ls 6 [(0, .ref md), (1, .int x9), (2, .int k9), (3, .int a9), (4, .int b9), (5, .int y9)] := hl
  refine lv_aload_n hx hb dX7_act_0 rfl (lv_at hl 0 rfl) ?_
  refine lv_iload_n hx hb dX7_act_1 rfl (lv_at hl 1 rfl) ?_
  refine kc_i (va_runS (As := [.int x9]) (rest := [.ref md]) ⟨hx, hb, hml, hown, hts⟩ (c_X7_isSlot l G B (mu (mu (mu μ md (.inr (7, [.int (nI fl), .ref ab, .ref av, .int (nI st), .ref c1, .ref c2, .ref c3, .ref c4, .ref c5, .ref c6, .ref c7, .ref c8, .ref c9]))) ab (.inl (G.2 0, 3744, .inr (.inl f)))) av (.inl (G.2 2, 26, .inl v))) x9) (va_cwS 1 hts gX7_act_X7_isSlot rfl rfl rfl (by decide +kernel) ⟨Nat.le_of_ble_eq_true rfl, Nat.le_of_ble_eq_true rfl⟩) ⟨KW.blind, fun U9 hU9 hW9 => ⟨rfl, KW.pre hBs hKK hS hP U9 hU9 hW9⟩⟩ rfl rfl hl.1 rfl (lv_room (Nat.le_of_ble_eq_true rfl)) dX7_act_2 ⟨(Nat.le_of_ble_eq_true rfl), (Nat.le_of_ble_eq_true rfl)⟩) hS (fun r2 m2 H locs hq9 hP hz9 hS => ?_)
  obtain ⟨he9, hy2⟩ := hq9
  rw [he9] at hP
  refine lv_if_eq (tgt := 24) hx hb dX7_act_5 (by decide) (fun hc5 => ?_) (fun hc5 => ?_)
  · refine lv_iconst (v := nI 1) hx hb dX7_act_24 (by decide) ?_
    refine kc_i (va_runV (As := [.int (nI 1)]) (rest := []) ⟨hx, hb, hml, hown, hts⟩ (c_X7_refused l G B (mu (mu (mu μ md (.inr (7, [.int (nI fl), .ref ab, .ref av, .int (nI st), .ref c1, .ref c2, .ref c3, .ref c4, .ref c5, .ref c6, .ref c7, .ref c8, .ref c9]))) ab (.inl (G.2 0, 3744, .inr (.inl f)))) av (.inl (G.2 2, 26, .inl v))) md ab av c1 c2 c3 c4 c5 c6 c7 c8 c9 fl st f v 1 ((mu_n ne0_2).trans ((mu_n ne0_1).trans (mu_s _ _ _))) ((mu_n ((mp_ne hab hav (by simp)))).trans (mu_s _ _ _)) (mu_s _ _ _) (by omega)) (cwV 1 hts gX7_act_X7_refused rfl rfl rfl (by decide +kernel) ⟨Nat.le_of_ble_eq_true rfl, Nat.le_of_ble_eq_true rfl⟩) ⟨KW.blind, hP.recv hK rfl ((mu_n ne0_2).trans ((mu_n ne0_1).trans (mu_s _ _ _))), fun U9 hU9 hW9 => ⟨rfl, KW.pre hBs hKK hS hP U9 hU9 hW9⟩⟩ rfl rfl hl.1 rfl (lv_room (Nat.le_of_ble_eq_true rfl)) dX7_act_25 ⟨(Nat.le_of_ble_eq_true rfl), (Nat.le_of_ble_eq_true rfl)⟩) hS (fun r25 m25 H locs hq9 hP hz9 hS => ?_)
    obtain ⟨he9, hw0, hw1⟩ := hq9
    rw [he9] at hP
    have hP : mw G.1 vwCl B (mu (mu (mu μ md (.inr (7, [.int (nI 1), .ref ab, .ref av, .int (nI st), .ref c1, .ref c2, .ref c3, .ref c4, .ref c5, .ref c6, .ref c7, .ref c8, .ref c9]))) ab (.inl (G.2 0, 3744, .inr (.inl f)))) av (.inl (G.2 2, 26, .inl v))) _ := mw_eq ((mu_c _ _ ((Ne.symm ne0_2))).trans (congrArg (fun z => mu z av (.inl (G.2 2, 26, .inl v))) ((mu_c _ _ ((Ne.symm ne0_1))).trans (congrArg (fun z => mu z ab (.inl (G.2 0, 3744, .inr (.inl f)))) (mu_u _ _ _ _))))) hP
    obtain rfl : r25 = nI 1 := hw1 (by decide)
    refine lv_if_eq (tgt := 33) hx hb dX7_act_28 (by decide) (fun hc28 => ?_) (fun hc28 => ?_)
    · exact absurd hc28 (by decide)
    · refine lv_iconst (v := nI 0) hx hb dX7_act_31 (by decide) ?_
      rw [hQ]
      exact W.zret (v := nI 0) (ty := .boolean) hx hb hr (by first | rfl | decide) (fun t99 ht99 hW99 => ⟨⟨nI 0, mu (mu (mu μ md (.inr (7, [.int (nI 1), .ref ab, .ref av, .int (nI st), .ref c1, .ref c2, .ref c3, .ref c4, .ref c5, .ref c6, .ref c7, .ref c8, .ref c9]))) ab (.inl (G.2 0, 3744, .inr (.inl f)))) av (.inl (G.2 2, 26, .inl v)), rfl, (⟨_, _, _, rfl, Or.inr ⟨rfl, fun h9 => by first | exact yn_f hy2 hc5 h9.1 | exact yn_f hy14 hc17 h9.2⟩⟩), by show mw _ _ _ _ t99.heap; rw [ht99]; exact hP⟩, hS.F ht99⟩) hS.2.2 dX7_act_32
  · refine lv_iload_n hx hb dX7_act_8 rfl (lv_at hl 2 rfl) ?_
    refine lv_iload_n hx hb dX7_act_9 rfl (lv_at hl 3 rfl) ?_
    refine lv_iload hx hb dX7_act_10 (lv_at hl 4 rfl) ?_
    refine lv_iload hx hb dX7_act_12 (lv_at hl 5 rfl) ?_
    refine kc_i (va_runS (As := [.int k9, .int a9, .int b9, .int y9]) (rest := [.ref md]) ⟨hx, hb, hml, hown, hts⟩ (c_X7_isAction l G B (mu (mu (mu μ md (.inr (7, [.int (nI fl), .ref ab, .ref av, .int (nI st), .ref c1, .ref c2, .ref c3, .ref c4, .ref c5, .ref c6, .ref c7, .ref c8, .ref c9]))) ab (.inl (G.2 0, 3744, .inr (.inl f)))) av (.inl (G.2 2, 26, .inl v))) k9 a9 b9 y9) (va_cwS 4 hts gX7_act_X7_isAction rfl rfl rfl (by decide +kernel) ⟨Nat.le_of_ble_eq_true rfl, Nat.le_of_ble_eq_true rfl⟩) ⟨KW.blind, fun U9 hU9 hW9 => ⟨rfl, KW.pre hBs hKK hS hP U9 hU9 hW9⟩⟩ rfl rfl hl.1 rfl (lv_room (Nat.le_of_ble_eq_true rfl)) dX7_act_14 ⟨(Nat.le_of_ble_eq_true rfl), (Nat.le_of_ble_eq_true rfl)⟩) hS (fun r14 m14 H locs hq9 hP hz9 hS => ?_)
    obtain ⟨he9, hy14⟩ := hq9
    rw [he9] at hP
    refine lv_if_eq (tgt := 24) hx hb dX7_act_17 (by decide) (fun hc17 => ?_) (fun hc17 => ?_)
    · refine lv_iconst (v := nI 1) hx hb dX7_act_24 (by decide) ?_
      refine kc_i (va_runV (As := [.int (nI 1)]) (rest := []) ⟨hx, hb, hml, hown, hts⟩ (c_X7_refused l G B (mu (mu (mu μ md (.inr (7, [.int (nI fl), .ref ab, .ref av, .int (nI st), .ref c1, .ref c2, .ref c3, .ref c4, .ref c5, .ref c6, .ref c7, .ref c8, .ref c9]))) ab (.inl (G.2 0, 3744, .inr (.inl f)))) av (.inl (G.2 2, 26, .inl v))) md ab av c1 c2 c3 c4 c5 c6 c7 c8 c9 fl st f v 1 ((mu_n ne0_2).trans ((mu_n ne0_1).trans (mu_s _ _ _))) ((mu_n ((mp_ne hab hav (by simp)))).trans (mu_s _ _ _)) (mu_s _ _ _) (by omega)) (cwV 1 hts gX7_act_X7_refused rfl rfl rfl (by decide +kernel) ⟨Nat.le_of_ble_eq_true rfl, Nat.le_of_ble_eq_true rfl⟩) ⟨KW.blind, hP.recv hK rfl ((mu_n ne0_2).trans ((mu_n ne0_1).trans (mu_s _ _ _))), fun U9 hU9 hW9 => ⟨rfl, KW.pre hBs hKK hS hP U9 hU9 hW9⟩⟩ rfl rfl hl.1 rfl (lv_room (Nat.le_of_ble_eq_true rfl)) dX7_act_25 ⟨(Nat.le_of_ble_eq_true rfl), (Nat.le_of_ble_eq_true rfl)⟩) hS (fun r25 m25 H locs hq9 hP hz9 hS => ?_)
      obtain ⟨he9, hw0, hw1⟩ := hq9
      rw [he9] at hP
      have hP : mw G.1 vwCl B (mu (mu (mu μ md (.inr (7, [.int (nI 1), .ref ab, .ref av, .int (nI st), .ref c1, .ref c2, .ref c3, .ref c4, .ref c5, .ref c6, .ref c7, .ref c8, .ref c9]))) ab (.inl (G.2 0, 3744, .inr (.inl f)))) av (.inl (G.2 2, 26, .inl v))) _ := mw_eq ((mu_c _ _ ((Ne.symm ne0_2))).trans (congrArg (fun z => mu z av (.inl (G.2 2, 26, .inl v))) ((mu_c _ _ ((Ne.symm ne0_1))).trans (congrArg (fun z => mu z ab (.inl (G.2 0, 3744, .inr (.inl f)))) (mu_u _ _ _ _))))) hP
      obtain rfl : r25 = nI 1 := hw1 (by decide)
      refine lv_if_eq (tgt := 33) hx hb dX7_act_28 (by decide) (fun hc28 => ?_) (fun hc28 => ?_)
      · exact absurd hc28 (by decide)
      · refine lv_iconst (v := nI 0) hx hb dX7_act_31 (by decide) ?_
        rw [hQ]
        exact W.zret (v := nI 0) (ty := .boolean) hx hb hr (by first | rfl | decide) (fun t99 ht99 hW99 => ⟨⟨nI 0, mu (mu (mu μ md (.inr (7, [.int (nI 1), .ref ab, .ref av, .int (nI st), .ref c1, .ref c2, .ref c3, .ref c4, .ref c5, .ref c6, .ref c7, .ref c8, .ref c9]))) ab (.inl (G.2 0, 3744, .inr (.inl f)))) av (.inl (G.2 2, 26, .inl v)), rfl, (⟨_, _, _, rfl, Or.inr ⟨rfl, fun h9 => by first | exact yn_f hy2 hc5 h9.1 | exact yn_f hy14 hc17 h9.2⟩⟩), by show mw _ _ _ _ t99.heap; rw [ht99]; exact hP⟩, hS.F ht99⟩) hS.2.2 dX7_act_32
    · refine lv_iconst (v := nI 0) hx hb dX7_act_20 (by decide) ?_
      refine lv_goto (tgt := 25) hx hb dX7_act_21 (by decide) ?_
      refine kc_i (va_runV (As := [.int (nI 0)]) (rest := []) ⟨hx, hb, hml, hown, hts⟩ (c_X7_refused l G B (mu (mu (mu μ md (.inr (7, [.int (nI fl), .ref ab, .ref av, .int (nI st), .ref c1, .ref c2, .ref c3, .ref c4, .ref c5, .ref c6, .ref c7, .ref c8, .ref c9]))) ab (.inl (G.2 0, 3744, .inr (.inl f)))) av (.inl (G.2 2, 26, .inl v))) md ab av c1 c2 c3 c4 c5 c6 c7 c8 c9 fl st f v 0 ((mu_n ne0_2).trans ((mu_n ne0_1).trans (mu_s _ _ _))) ((mu_n ((mp_ne hab hav (by simp)))).trans (mu_s _ _ _)) (mu_s _ _ _) (by omega)) (cwV 1 hts gX7_act_X7_refused rfl rfl rfl (by decide +kernel) ⟨Nat.le_of_ble_eq_true rfl, Nat.le_of_ble_eq_true rfl⟩) ⟨KW.blind, hP.recv hK rfl ((mu_n ne0_2).trans ((mu_n ne0_1).trans (mu_s _ _ _))), fun U9 hU9 hW9 => ⟨rfl, KW.pre hBs hKK hS hP U9 hU9 hW9⟩⟩ rfl rfl hl.1 rfl (lv_room (Nat.le_of_ble_eq_true rfl)) dX7_act_25 ⟨(Nat.le_of_ble_eq_true rfl), (Nat.le_of_ble_eq_true rfl)⟩) hS (fun r25 m25 H locs hq9 hP hz9 hS => ?_)
      obtain ⟨he9, hw0, hw1⟩ := hq9
      rw [he9] at hP
      have hP : mw G.1 vwCl B (mu (mu (mu μ md (.inr (7, [.int (nI 0), .ref ab, .ref av, .int (nI st), .ref c1, .ref c2, .ref c3, .ref c4, .ref c5, .ref c6, .ref c7, .ref c8, .ref c9]))) ab (.inl (G.2 0, 3744, .inr (.inl f)))) av (.inl (G.2 2, 26, .inl v))) _ := mw_eq ((mu_c _ _ ((Ne.symm ne0_2))).trans (congrArg (fun z => mu z av (.inl (G.2 2, 26, .inl v))) ((mu_c _ _ ((Ne.symm ne0_1))).trans (congrArg (fun z => mu z ab (.inl (G.2 0, 3744, .inr (.inl f)))) (mu_u _ _ _ _))))) hP
      obtain rfl : r25 = nI 0 := hw0 rfl
      refine lv_if_eq (tgt := 33) hx hb dX7_act_28 (by decide) (fun hc28 => ?_) (fun hc28 => ?_)
      · have hok : okS x9 ∧ okA k9 a9 b9 y9 := ⟨yn_t hy2 hc5, yn_t hy14 hc17⟩
        obtain ⟨nx9, hnx9, enx9⟩ := ok_nat (n := 6) (by decide) hok.1
        subst enx9
        rcases hok.2.2 with ⟨ek9, hp1, hp2, hp3⟩ | ⟨ek9, hp1, hp2⟩ | ⟨ek9, hp1, hp2, hp3⟩
        · replace ek9 : k9 = nI 0 := ek9.trans (by decide)
          subst ek9
          obtain ⟨na9, hna9, ena9⟩ := ok_nat (n := 12) (by decide) hp1
          subst ena9
          obtain ⟨nb9, hnb9, enb9⟩ := ok_nat (n := 12) (by decide) hp2
          subst enb9
          refine lv_aload_n hx hb dX7_act_33 rfl (lv_at hl 0 rfl) ?_
          refine lv_iload_n hx hb dX7_act_34 rfl (lv_at hl 1 rfl) ?_
          refine lv_iload_n hx hb dX7_act_35 rfl (lv_at hl 2 rfl) ?_
          refine lv_iload_n hx hb dX7_act_36 rfl (lv_at hl 3 rfl) ?_
          refine lv_iload hx hb dX7_act_37 (lv_at hl 4 rfl) ?_
          refine lv_iload hx hb dX7_act_39 (lv_at hl 5 rfl) ?_
          refine kc_v (va_runV (As := [.int (nI nx9), .int (nI 0), .int (nI na9), .int (nI nb9), .int y9]) (rest := []) ⟨hx, hb, hml, hown, hts⟩ (c_X7_make_0 l G B (mu (mu (mu μ md (.inr (7, [.int (nI 0), .ref ab, .ref av, .int (nI st), .ref c1, .ref c2, .ref c3, .ref c4, .ref c5, .ref c6, .ref c7, .ref c8, .ref c9]))) ab (.inl (G.2 0, 3744, .inr (.inl f)))) av (.inl (G.2 2, 26, .inl v))) md ab av c1 c2 c3 c4 c5 c6 c7 c8 c9 0 st f v nx9 na9 nb9 y9 ((mu_n ne0_2).trans ((mu_n ne0_1).trans (mu_s _ _ _))) ((mu_n ((mp_ne hab hav (by simp)))).trans (mu_s _ _ _)) (mu_s _ _ _) (by omega) (hNM.1 nx9 (by omega)) (hNM.2.1 nx9 (by omega)) hok.2.1 (by omega) (by omega) (fun e9 => hp3 (by rw [ne_x _ (by omega), e9]))) (cwV 5 hts gX7_act_X7_make rfl rfl rfl (by decide +kernel) ⟨Nat.le_of_ble_eq_true rfl, Nat.le_of_ble_eq_true rfl⟩) ⟨KW.blind, hP.recv hK rfl ((mu_n ne0_2).trans ((mu_n ne0_1).trans (mu_s _ _ _))), fun U9 hU9 hW9 => ⟨rfl, KW.pre hBs hKK hS hP U9 hU9 hW9⟩⟩ rfl rfl hl.1 rfl (lv_room (Nat.le_of_ble_eq_true rfl)) dX7_act_41 ⟨(Nat.le_of_ble_eq_true rfl), (Nat.le_of_ble_eq_true rfl)⟩) hS (fun m41 H locs hq9 hP hz9 hS => ?_)
          obtain ⟨g41, w41, rfl, hw41⟩ := hq9
          have hP : mw G.1 vwCl B (mu (mu (mu μ md (.inr (7, [.int (nI 0), .ref ab, .ref av, .int (nI st), .ref c1, .ref c2, .ref c3, .ref c4, .ref c5, .ref c6, .ref c7, .ref c8, .ref c9]))) ab (.inl (G.2 0, 3744, .inr (.inl g41)))) av (.inl (G.2 2, 26, .inl w41))) _ := mw_eq ((congrArg (fun z => mu z av (.inl (G.2 2, 26, .inl w41))) ((mu_c _ _ ((mp_ne hav hab (by simp)))).trans (congrArg (fun z => mu z av (.inl (G.2 2, 26, .inl v))) (mu_u _ _ _ _)))).trans (mu_u _ _ _ _)) hP
          refine lv_aload_n hx hb dX7_act_44 rfl (lv_at hl 0 rfl) ?_
          refine mw_get (C := RX7) (T := TX7) (N := 13) hx hb hts in_X7_act_X7 hown hK hP ((mu_n ne0_2).trans ((mu_n ne0_1).trans (mu_s _ _ _))) rfl 2 (by decide) (hts (.fieldLink RX7 13 "OctagonDeskModel" "isVoid" "[Z") (by decide +kernel)) (fun _ h9 => h9) rfl dX7_act_45 ?_
          refine lv_iload_n hx hb dX7_act_48 rfl (lv_at hl 1 rfl) ?_
          refine mw_zald hx hb hK hP 2 (mu_s _ _ _) rfl (by omega) (by omega) dX7_act_49 ?_
          refine lv_if_ne (tgt := 57) hx hb dX7_act_50 (by decide) (fun hc50 => ?_) (fun hc50 => ?_)
          · exact absurd hw41 hc50
          · refine lv_iconst (v := nI 1) hx hb dX7_act_53 (by decide) ?_
            refine lv_goto (tgt := 58) hx hb dX7_act_54 (by decide) ?_
            rw [hQ]
            exact W.zret (v := nI 1) (ty := .boolean) hx hb hr (by first | rfl | decide) (fun t99 ht99 hW99 => ⟨⟨nI 1, mu (mu (mu μ md (.inr (7, [.int (nI 0), .ref ab, .ref av, .int (nI st), .ref c1, .ref c2, .ref c3, .ref c4, .ref c5, .ref c6, .ref c7, .ref c8, .ref c9]))) ab (.inl (G.2 0, 3744, .inr (.inl g41)))) av (.inl (G.2 2, 26, .inl w41)), rfl, (⟨_, _, _, rfl, Or.inl ⟨rfl, hok, rfl⟩⟩), by show mw _ _ _ _ t99.heap; rw [ht99]; exact hP⟩, hS.F ht99⟩) hS.2.2 dX7_act_58
        · replace ek9 : k9 = nI 1 := ek9.trans (by decide)
          subst ek9
          obtain ⟨na9, hna9, ena9⟩ := ok_nat (n := 6) (by decide) hp1
          subst ena9
          obtain ⟨nb9, hnb9, enb9⟩ := ok_nat (n := 12) (by decide) hp2
          subst enb9
          refine lv_aload_n hx hb dX7_act_33 rfl (lv_at hl 0 rfl) ?_
          refine lv_iload_n hx hb dX7_act_34 rfl (lv_at hl 1 rfl) ?_
          refine lv_iload_n hx hb dX7_act_35 rfl (lv_at hl 2 rfl) ?_
          refine lv_iload_n hx hb dX7_act_36 rfl (lv_at hl 3 rfl) ?_
          refine lv_iload hx hb dX7_act_37 (lv_at hl 4 rfl) ?_
          refine lv_iload hx hb dX7_act_39 (lv_at hl 5 rfl) ?_
          refine kc_v (va_runV (As := [.int (nI nx9), .int (nI 1), .int (nI na9), .int (nI nb9), .int y9]) (rest := []) ⟨hx, hb, hml, hown, hts⟩ (c_X7_make_1 l G B (mu (mu (mu μ md (.inr (7, [.int (nI 0), .ref ab, .ref av, .int (nI st), .ref c1, .ref c2, .ref c3, .ref c4, .ref c5, .ref c6, .ref c7, .ref c8, .ref c9]))) ab (.inl (G.2 0, 3744, .inr (.inl f)))) av (.inl (G.2 2, 26, .inl v))) md ab av c1 c2 c3 c4 c5 c6 c7 c8 c9 0 st f v nx9 na9 nb9 y9 ((mu_n ne0_2).trans ((mu_n ne0_1).trans (mu_s _ _ _))) ((mu_n ((mp_ne hab hav (by simp)))).trans (mu_s _ _ _)) (mu_s _ _ _) (by omega) (hNM.1 nx9 (by omega)) (hNM.2.1 nx9 (by omega)) hok.2.1 (by omega) (by omega)) (cwV 5 hts gX7_act_X7_make rfl rfl rfl (by decide +kernel) ⟨Nat.le_of_ble_eq_true rfl, Nat.le_of_ble_eq_true rfl⟩) ⟨KW.blind, hP.recv hK rfl ((mu_n ne0_2).trans ((mu_n ne0_1).trans (mu_s _ _ _))), fun U9 hU9 hW9 => ⟨rfl, KW.pre hBs hKK hS hP U9 hU9 hW9⟩⟩ rfl rfl hl.1 rfl (lv_room (Nat.le_of_ble_eq_true rfl)) dX7_act_41 ⟨(Nat.le_of_ble_eq_true rfl), (Nat.le_of_ble_eq_true rfl)⟩) hS (fun m41 H locs hq9 hP hz9 hS => ?_)
          obtain ⟨g41, w41, rfl, hw41⟩ := hq9
          have hP : mw G.1 vwCl B (mu (mu (mu μ md (.inr (7, [.int (nI 0), .ref ab, .ref av, .int (nI st), .ref c1, .ref c2, .ref c3, .ref c4, .ref c5, .ref c6, .ref c7, .ref c8, .ref c9]))) ab (.inl (G.2 0, 3744, .inr (.inl g41)))) av (.inl (G.2 2, 26, .inl w41))) _ := mw_eq ((congrArg (fun z => mu z av (.inl (G.2 2, 26, .inl w41))) ((mu_c _ _ ((mp_ne hav hab (by simp)))).trans (congrArg (fun z => mu z av (.inl (G.2 2, 26, .inl v))) (mu_u _ _ _ _)))).trans (mu_u _ _ _ _)) hP
          refine lv_aload_n hx hb dX7_act_44 rfl (lv_at hl 0 rfl) ?_
          refine mw_get (C := RX7) (T := TX7) (N := 13) hx hb hts in_X7_act_X7 hown hK hP ((mu_n ne0_2).trans ((mu_n ne0_1).trans (mu_s _ _ _))) rfl 2 (by decide) (hts (.fieldLink RX7 13 "OctagonDeskModel" "isVoid" "[Z") (by decide +kernel)) (fun _ h9 => h9) rfl dX7_act_45 ?_
          refine lv_iload_n hx hb dX7_act_48 rfl (lv_at hl 1 rfl) ?_
          refine mw_zald hx hb hK hP 2 (mu_s _ _ _) rfl (by omega) (by omega) dX7_act_49 ?_
          refine lv_if_ne (tgt := 57) hx hb dX7_act_50 (by decide) (fun hc50 => ?_) (fun hc50 => ?_)
          · exact absurd hw41 hc50
          · refine lv_iconst (v := nI 1) hx hb dX7_act_53 (by decide) ?_
            refine lv_goto (tgt := 58) hx hb dX7_act_54 (by decide) ?_
            rw [hQ]
            exact W.zret (v := nI 1) (ty := .boolean) hx hb hr (by first | rfl | decide) (fun t99 ht99 hW99 => ⟨⟨nI 1, mu (mu (mu μ md (.inr (7, [.int (nI 0), .ref ab, .ref av, .int (nI st), .ref c1, .ref c2, .ref c3, .ref c4, .ref c5, .ref c6, .ref c7, .ref c8, .ref c9]))) ab (.inl (G.2 0, 3744, .inr (.inl g41)))) av (.inl (G.2 2, 26, .inl w41)), rfl, (⟨_, _, _, rfl, Or.inl ⟨rfl, hok, rfl⟩⟩), by show mw _ _ _ _ t99.heap; rw [ht99]; exact hP⟩, hS.F ht99⟩) hS.2.2 dX7_act_58
        · replace ek9 : k9 = nI 2 := ek9.trans (by decide)
          subst ek9
          obtain ⟨na9, hna9, ena9⟩ := ok_nat (n := 6) (by decide) hp1
          subst ena9
          refine lv_aload_n hx hb dX7_act_33 rfl (lv_at hl 0 rfl) ?_
          refine lv_iload_n hx hb dX7_act_34 rfl (lv_at hl 1 rfl) ?_
          refine lv_iload_n hx hb dX7_act_35 rfl (lv_at hl 2 rfl) ?_
          refine lv_iload_n hx hb dX7_act_36 rfl (lv_at hl 3 rfl) ?_
          refine lv_iload hx hb dX7_act_37 (lv_at hl 4 rfl) ?_
          refine lv_iload hx hb dX7_act_39 (lv_at hl 5 rfl) ?_
          refine kc_v (va_runV (As := [.int (nI nx9), .int (nI 2), .int (nI na9), .int b9, .int y9]) (rest := []) ⟨hx, hb, hml, hown, hts⟩ (c_X7_make_2 l G B (mu (mu (mu μ md (.inr (7, [.int (nI 0), .ref ab, .ref av, .int (nI st), .ref c1, .ref c2, .ref c3, .ref c4, .ref c5, .ref c6, .ref c7, .ref c8, .ref c9]))) ab (.inl (G.2 0, 3744, .inr (.inl f)))) av (.inl (G.2 2, 26, .inl v))) md ab av c1 c2 c3 c4 c5 c6 c7 c8 c9 0 st f v nx9 na9 b9 y9 ((mu_n ne0_2).trans ((mu_n ne0_1).trans (mu_s _ _ _))) ((mu_n ((mp_ne hab hav (by simp)))).trans (mu_s _ _ _)) (mu_s _ _ _) (by omega) (hNM.1 nx9 (by omega)) (hNM.2.1 nx9 (by omega)) hok.2.1 (by omega) hp2 hp3) (cwV 5 hts gX7_act_X7_make rfl rfl rfl (by decide +kernel) ⟨Nat.le_of_ble_eq_true rfl, Nat.le_of_ble_eq_true rfl⟩) ⟨KW.blind, hP.recv hK rfl ((mu_n ne0_2).trans ((mu_n ne0_1).trans (mu_s _ _ _))), fun U9 hU9 hW9 => ⟨rfl, KW.pre hBs hKK hS hP U9 hU9 hW9⟩⟩ rfl rfl hl.1 rfl (lv_room (Nat.le_of_ble_eq_true rfl)) dX7_act_41 ⟨(Nat.le_of_ble_eq_true rfl), (Nat.le_of_ble_eq_true rfl)⟩) hS (fun m41 H locs hq9 hP hz9 hS => ?_)
          obtain ⟨g41, w41, rfl, hw41⟩ := hq9
          have hP : mw G.1 vwCl B (mu (mu (mu μ md (.inr (7, [.int (nI 0), .ref ab, .ref av, .int (nI st), .ref c1, .ref c2, .ref c3, .ref c4, .ref c5, .ref c6, .ref c7, .ref c8, .ref c9]))) ab (.inl (G.2 0, 3744, .inr (.inl g41)))) av (.inl (G.2 2, 26, .inl w41))) _ := mw_eq ((congrArg (fun z => mu z av (.inl (G.2 2, 26, .inl w41))) ((mu_c _ _ ((mp_ne hav hab (by simp)))).trans (congrArg (fun z => mu z av (.inl (G.2 2, 26, .inl v))) (mu_u _ _ _ _)))).trans (mu_u _ _ _ _)) hP
          refine lv_aload_n hx hb dX7_act_44 rfl (lv_at hl 0 rfl) ?_
          refine mw_get (C := RX7) (T := TX7) (N := 13) hx hb hts in_X7_act_X7 hown hK hP ((mu_n ne0_2).trans ((mu_n ne0_1).trans (mu_s _ _ _))) rfl 2 (by decide) (hts (.fieldLink RX7 13 "OctagonDeskModel" "isVoid" "[Z") (by decide +kernel)) (fun _ h9 => h9) rfl dX7_act_45 ?_
          refine lv_iload_n hx hb dX7_act_48 rfl (lv_at hl 1 rfl) ?_
          refine mw_zald hx hb hK hP 2 (mu_s _ _ _) rfl (by omega) (by omega) dX7_act_49 ?_
          refine lv_if_ne (tgt := 57) hx hb dX7_act_50 (by decide) (fun hc50 => ?_) (fun hc50 => ?_)
          · exact absurd hw41 hc50
          · refine lv_iconst (v := nI 1) hx hb dX7_act_53 (by decide) ?_
            refine lv_goto (tgt := 58) hx hb dX7_act_54 (by decide) ?_
            rw [hQ]
            exact W.zret (v := nI 1) (ty := .boolean) hx hb hr (by first | rfl | decide) (fun t99 ht99 hW99 => ⟨⟨nI 1, mu (mu (mu μ md (.inr (7, [.int (nI 0), .ref ab, .ref av, .int (nI st), .ref c1, .ref c2, .ref c3, .ref c4, .ref c5, .ref c6, .ref c7, .ref c8, .ref c9]))) ab (.inl (G.2 0, 3744, .inr (.inl g41)))) av (.inl (G.2 2, 26, .inl w41)), rfl, (⟨_, _, _, rfl, Or.inl ⟨rfl, hok, rfl⟩⟩), by show mw _ _ _ _ t99.heap; rw [ht99]; exact hP⟩, hS.F ht99⟩) hS.2.2 dX7_act_58
      · exact absurd rfl hc28

abbrev rm_X7_joined : Room := { frames := 1, cells := 0, slots := 0, locals := 23 }
set_option maxHeartbeats 4000000 in
set_option maxRecDepth 100000 in
theorem c_X7_joined (l : Launch) (G : GG) (B : Nat) (μ : mp) (md ab av c1 c2 c3 c4 c5 c6 c7 c8 c9 fl st : Nat) (f : Nat → Int64) (v : Nat → Int32) (a9 b9 : Nat) (hm : μ md = some (.inr (7, [.int (nI fl), .ref ab, .ref av, .int (nI st), .ref c1, .ref c2, .ref c3, .ref c4, .ref c5, .ref c6, .ref c7, .ref c8, .ref c9]))) (hab : μ ab = some (.inl (G.2 0, 3744, .inr (.inl f)))) (hav : μ av = some (.inl (G.2 2, 26, .inl v))) (ha9 : a9 < 6) (hb9 : b9 < 6) (hNM : NM f v) : Met l yX7_joined wsX7_joined rm_X7_joined (va_Pc [.ref md, .int (nI a9), .int (nI b9)] (KW G B μ)) (va_Qv (fun μ2 => ∃ (g9 : Nat → Int64) (w9 : Nat → Int32), μ2 = mu (mu μ ab (.inl (G.2 0, 3744, .inr (.inl g9)))) av (.inl (G.2 2, 26, .inl w9)) ∧ (VB w9)) (BB G B) (fun q => B ≤ q)) 0 0 (fun q => B ≤ q) := by
  refine Met.ofW (cc := cX7_joined) (maxL := 6) (ret := none) (by decide) rfl ?_
  intro p e s m args below meth c s₁ B9 hml hv
  obtain ⟨hargs, hBs, hP, hKK⟩ := hv
  have hx := B9.exec
  have hb := B9.bytes
  have hr := B9.returns
  have hts := atoms_spec (ws := wsX7_joined) B9.pre
  have hown : s.vm.findClass RX7 = some m.cls := findClass_of_methodNamed B9.named
  have hlocks := B9.notSynchronized
  have hK := hKK.k
  have hS : va_S (fun q => B ≤ q) s.heap s.heap [] := va_S.rf
  obtain ⟨Q, hQ⟩ : ∃ Q, Q = MQ below (va_Qv (fun μ2 => ∃ (g9 : Nat → Int64) (w9 : Nat → Int32), μ2 = mu (mu μ ab (.inl (G.2 0, 3744, .inr (.inl g9)))) av (.inl (G.2 2, 26, .inl w9)) ∧ (VB w9)) (BB G B) (fun q => B ≤ q)) args s 0 0 (fun q => B ≤ q) := ⟨_, rfl⟩
  rw [← hQ]
  have ne0_1 : md ≠ ab := mp_ne hm hab (by simp)
  have ne0_2 : md ≠ av := mp_ne hm hav (by simp)
  have in_X7_joined_X7 : ∀ w ∈ wsX70, w ∈ wsX7_joined := by decide +kernel
  have hP : mw G.1 vwCl B (mu (mu μ ab (.inl (G.2 0, 3744, .inr (.inl f)))) av (.inl (G.2 2, 26, .inl v))) s.heap := mw_eq ((congrArg (fun z => mu z av (.inl (G.2 2, 26, .inl v))) (mu_i hab)).trans (mu_i hav)).symm hP
  have L41 : ∀ (N41 : Nat) (k1 : Nat) (g1 : Nat → Int64) (hN41 : 144 - k1 < N41) (hk1 : k1 ≤ 144) (hA : AA g1), ∀ (H : Heap) (locs : List Loc), mw G.1 vwCl B (mu (mu μ ab (.inl (G.2 0, 3744, .inr (.inl g1)))) av (.inl (G.2 2, 26, .inl (upd v 22 (v a9))))) H → va_S (fun q => B ≤ q) s.heap H locs → ∀ ls : Array Slot, lv_has ls 6 [(0, .ref md), (1, .int (nI a9)), (2, .int (nI b9)), (3, .int (nI k1))] → W p l e rm_X7_joined s m args below meth c H locs 0 0 Q (F0 m 41 ls []) := by
    intro N41
    induction N41 with
    | zero => intro k1 g1 hN41; exact absurd hN41 (Nat.not_lt_zero _)
    | succ N41 ih41 =>
      intro k1 g1 hN41 hk1 hA H locs hP hS ls hl
      refine lv_iload_n hx hb dX7_joined_41 rfl (lv_at hl 3 rfl) ?_
      refine lv_sipush (v := nI 144) hx hb dX7_joined_42 (by decide) ?_
      refine nv_icmp_ge (tgt := 109) hx hb (by omega) (by omega) dX7_joined_45 (by decide) (fun hc45 => ?_) (fun hc45 => ?_)
      · rw [hQ]
        exact W.vret hx hb hr (fun t99 ht99 hW99 => ⟨⟨mu (mu μ ab (.inl (G.2 0, 3744, .inr (.inl g1)))) av (.inl (G.2 2, 26, .inl (upd v 22 (v a9)))), rfl, (⟨_, _, rfl, VB.u hNM.2.2.2 (hNM.2.2.2 _)⟩), by show mw _ _ _ _ t99.heap; rw [ht99]; exact hP⟩, hS.F ht99⟩) hS.2.2 dX7_joined_109
      · refine lv_aload_n hx hb dX7_joined_48 rfl (lv_at hl 0 rfl) ?_
        refine mw_get (C := RX7) (T := TX7) (N := 13) hx hb hts in_X7_joined_X7 hown hK hP ((mu_n ne0_2).trans ((mu_n ne0_1).trans (hm))) rfl 1 (by decide) (hts (.fieldLink RX7 7 "OctagonDeskModel" "bound" "[J") (by decide +kernel)) (fun _ h9 => h9) rfl dX7_joined_49 ?_
        refine lv_sipush (v := nI 144) hx hb dX7_joined_52 (by decide) ?_
        refine lv_iload_n hx hb dX7_joined_55 rfl (lv_at hl 2 rfl) ?_
        refine nv_imul hx hb dX7_joined_56 ?_
        refine lv_iload_n hx hb dX7_joined_57 rfl (lv_at hl 3 rfl) ?_
        refine nv_iadd hx hb dX7_joined_58 ?_
        refine mw_lald hx hb hK hP 0 ((mu_n ((mp_ne hab hav (by simp)))).trans (mu_s _ _ _)) rfl (by omega) (by omega) dX7_joined_59 ?_
        refine lv_topl (fun v60 ev60 => ?_)
        refine lv_lstore (lv' := [(4, .long v60), (0, .ref md), (1, .int (nI a9)), (2, .int (nI b9)), (3, .int (nI k1))]) hx hb dX7_joined_60 hl (by decide) rfl (fun ls hl => ?_)
        refine lv_aload_n hx hb dX7_joined_62 rfl (lv_at hl 1 rfl) ?_
        refine mw_get (C := RX7) (T := TX7) (N := 13) hx hb hts in_X7_joined_X7 hown hK hP ((mu_n ne0_2).trans ((mu_n ne0_1).trans (hm))) rfl 1 (by decide) (hts (.fieldLink RX7 7 "OctagonDeskModel" "bound" "[J") (by decide +kernel)) (fun _ h9 => h9) rfl dX7_joined_63 ?_
        refine lv_sipush (v := nI 3168) hx hb dX7_joined_66 (by decide) ?_
        refine lv_iload_n hx hb dX7_joined_69 rfl (lv_at hl 4 rfl) ?_
        refine nv_iadd hx hb dX7_joined_70 ?_
        refine lv_lload hx hb dX7_joined_71 (lv_at hl 0 rfl) ?_
        refine lv_aload_n hx hb dX7_joined_73 rfl (lv_at hl 1 rfl) ?_
        refine mw_get (C := RX7) (T := TX7) (N := 13) hx hb hts in_X7_joined_X7 hown hK hP ((mu_n ne0_2).trans ((mu_n ne0_1).trans (hm))) rfl 1 (by decide) (hts (.fieldLink RX7 7 "OctagonDeskModel" "bound" "[J") (by decide +kernel)) (fun _ h9 => h9) rfl dX7_joined_74 ?_
        refine lv_sipush (v := nI 3168) hx hb dX7_joined_77 (by decide) ?_
        refine lv_iload_n hx hb dX7_joined_80 rfl (lv_at hl 4 rfl) ?_
        refine nv_iadd hx hb dX7_joined_81 ?_
        refine mw_lald hx hb hK hP 0 ((mu_n ((mp_ne hab hav (by simp)))).trans (mu_s _ _ _)) rfl (by omega) (by omega) dX7_joined_82 ?_
        refine nl_if_le (tgt := 92) hx hb dX7_joined_83 dX7_joined_84 (by decide) (fun hc83 => ?_) (fun hc83 => ?_)
        · refine lv_aload_n hx hb dX7_joined_92 rfl (lv_at hl 1 rfl) ?_
          refine mw_get (C := RX7) (T := TX7) (N := 13) hx hb hts in_X7_joined_X7 hown hK hP ((mu_n ne0_2).trans ((mu_n ne0_1).trans (hm))) rfl 1 (by decide) (hts (.fieldLink RX7 7 "OctagonDeskModel" "bound" "[J") (by decide +kernel)) (fun _ h9 => h9) rfl dX7_joined_93 ?_
          refine lv_sipush (v := nI 3168) hx hb dX7_joined_96 (by decide) ?_
          refine lv_iload_n hx hb dX7_joined_99 rfl (lv_at hl 4 rfl) ?_
          refine nv_iadd hx hb dX7_joined_100 ?_
          refine mw_lald hx hb hK hP 0 ((mu_n ((mp_ne hab hav (by simp)))).trans (mu_s _ _ _)) rfl (by omega) (by omega) dX7_joined_101 ?_
          refine lv_topl (fun v102 ev102 => ?_)
          refine mw_last hx hb hK hP hS 0 ((mu_n ((mp_ne hab hav (by simp)))).trans (mu_s _ _ _)) rfl (by omega) (by omega) dX7_joined_102 (fun H locs hP hS => ?_)
          have hP : mw G.1 vwCl B (mu (mu μ ab (.inl (G.2 0, 3744, .inr (.inl (vp_updL g1 (3168 + k1) v102))))) av (.inl (G.2 2, 26, .inl (upd v 22 (v a9))))) _ := mw_eq ((mu_c _ _ ((mp_ne hav hab (by simp)))).trans (congrArg (fun z => mu z av (.inl (G.2 2, 26, .inl (upd v 22 (v a9))))) (mu_u _ _ _ _))) hP
          refine lv_iinc (v := nI (k1 + 1)) (lv' := [(3, .int (nI (k1 + 1))), (4, .long v60), (0, .ref md), (1, .int (nI a9)), (2, .int (nI b9))]) hx hb dX7_joined_103 hl (k := 4) rfl (nI_add _ _) (by decide) rfl (fun ls hl => ?_)
          refine lv_goto (tgt := 41) hx hb dX7_joined_106 (by decide) ?_
          exact ih41 (k1 + 1) (vp_updL g1 (3168 + k1) v102) (by omega) (by omega) (hA.up (by first | rfl | (rw [ev102]; exact hA.x (by omega)) | exact hA.x (by omega) | (rw [ev60]; exact hA.x (by omega)))) _ _ hP hS ls (lv_sub hl [2, 3, 4, 0] rfl)
        · refine lv_lload hx hb dX7_joined_87 (lv_at hl 0 rfl) ?_
          refine lv_goto (tgt := 102) hx hb dX7_joined_89 (by decide) ?_
          refine mw_last hx hb hK hP hS 0 ((mu_n ((mp_ne hab hav (by simp)))).trans (mu_s _ _ _)) rfl (by omega) (by omega) dX7_joined_102 (fun H locs hP hS => ?_)
          have hP : mw G.1 vwCl B (mu (mu μ ab (.inl (G.2 0, 3744, .inr (.inl (vp_updL g1 (3168 + k1) v60))))) av (.inl (G.2 2, 26, .inl (upd v 22 (v a9))))) _ := mw_eq ((mu_c _ _ ((mp_ne hav hab (by simp)))).trans (congrArg (fun z => mu z av (.inl (G.2 2, 26, .inl (upd v 22 (v a9))))) (mu_u _ _ _ _))) hP
          refine lv_iinc (v := nI (k1 + 1)) (lv' := [(3, .int (nI (k1 + 1))), (4, .long v60), (0, .ref md), (1, .int (nI a9)), (2, .int (nI b9))]) hx hb dX7_joined_103 hl (k := 4) rfl (nI_add _ _) (by decide) rfl (fun ls hl => ?_)
          refine lv_goto (tgt := 41) hx hb dX7_joined_106 (by decide) ?_
          exact ih41 (k1 + 1) (vp_updL g1 (3168 + k1) v60) (by omega) (by omega) (hA.up (by first | rfl | (rw [ev60]; exact hA.x (by omega)) | exact hA.x (by omega) | (rw [ev60]; exact hA.x (by omega)))) _ _ hP hS ls (lv_sub hl [2, 3, 4, 0] rfl)
  have hl := lv_entry ([.ref md, .int (nI a9), .int (nI b9)]) (n := 6) (Nat.le_of_ble_eq_true rfl)
  have he9 : entryFrame m args 6 = entryFrame m ([.ref md, .int (nI a9), .int (nI b9)] : List Value).toArray 6 := by rw [hargs]
  rw [he9, lg_entry_eq]
  generalize (lg_sl ([.ref md, .int (nI a9), .int (nI b9)]) ++ List.replicate (6 - (lg_sl ([.ref md, .int (nI a9), .int (nI b9)])).length) Slot.unset).toArray = ls at hl ⊢
  have hl : lv_has ls 6 [(0, .ref md), (1, .int (nI a9)), (2, .int (nI b9))] := hl
  refine lv_aload_n hx hb dX7_joined_0 rfl (lv_at hl 0 rfl) ?_
  refine lv_bipush (v := nI 22) hx hb dX7_joined_1 (by decide) ?_
  refine lv_aload_n hx hb dX7_joined_3 rfl (lv_at hl 0 rfl) ?_
  refine mw_get (C := RX7) (T := TX7) (N := 13) hx hb hts in_X7_joined_X7 hown hK hP ((mu_n ne0_2).trans ((mu_n ne0_1).trans (hm))) rfl 2 (by decide) (hts (.fieldLink RX7 13 "OctagonDeskModel" "isVoid" "[Z") (by decide +kernel)) (fun _ h9 => h9) rfl dX7_joined_4 ?_
  refine lv_iload_n hx hb dX7_joined_7 rfl (lv_at hl 1 rfl) ?_
  refine mw_zald hx hb hK hP 2 (mu_s _ _ _) rfl (by omega) (by omega) dX7_joined_8 ?_
  refine lv_if_eq (tgt := 16) hx hb dX7_joined_9 (by decide) (fun hc9 => ?_) (fun hc9 => ?_)
  · refine lv_iload_n hx hb dX7_joined_16 rfl (lv_at hl 1 rfl) ?_
    refine kc_v (va_runV (As := [.int (nI 22), .int (nI a9)]) (rest := []) ⟨hx, hb, hml, hown, hts⟩ (c_X7_load l G B (mu (mu μ ab (.inl (G.2 0, 3744, .inr (.inl f)))) av (.inl (G.2 2, 26, .inl v))) md ab av c1 c2 c3 c4 c5 c6 c7 c8 c9 fl st f v 22 a9 ((mu_n ne0_2).trans ((mu_n ne0_1).trans (hm))) ((mu_n ((mp_ne hab hav (by simp)))).trans (mu_s _ _ _)) (mu_s _ _ _) (by omega) (by omega) (hNM.2.2.2 a9)) (cwV 2 hts gX7_joined_X7_load rfl rfl rfl (by decide +kernel) ⟨Nat.le_of_ble_eq_true rfl, Nat.le_of_ble_eq_true rfl⟩) ⟨KW.blind, hP.recv hK rfl ((mu_n ne0_2).trans ((mu_n ne0_1).trans (hm))), fun U9 hU9 hW9 => ⟨rfl, KW.pre hBs hKK hS hP U9 hU9 hW9⟩⟩ rfl rfl hl.1 rfl (lv_room (Nat.le_of_ble_eq_true rfl)) dX7_joined_17 ⟨(Nat.le_of_ble_eq_true rfl), (Nat.le_of_ble_eq_true rfl)⟩) hS (fun m17 H locs hq9 hP hz9 hS => ?_)
    obtain ⟨g17, rfl, hL17⟩ := hq9
    have hP : mw G.1 vwCl B (mu (mu μ ab (.inl (G.2 0, 3744, .inr (.inl g17)))) av (.inl (G.2 2, 26, .inl (upd v 22 (v a9))))) _ := mw_eq ((congrArg (fun z => mu z av (.inl (G.2 2, 26, .inl (upd v 22 (v a9))))) ((mu_c _ _ ((mp_ne hav hab (by simp)))).trans (congrArg (fun z => mu z av (.inl (G.2 2, 26, .inl v))) (mu_u _ _ _ _)))).trans (mu_u _ _ _ _)) hP
    refine lv_aload_n hx hb dX7_joined_20 rfl (lv_at hl 0 rfl) ?_
    refine mw_get (C := RX7) (T := TX7) (N := 13) hx hb hts in_X7_joined_X7 hown hK hP ((mu_n ne0_2).trans ((mu_n ne0_1).trans (hm))) rfl 2 (by decide) (hts (.fieldLink RX7 13 "OctagonDeskModel" "isVoid" "[Z") (by decide +kernel)) (fun _ h9 => h9) rfl dX7_joined_21 ?_
    refine lv_iload_n hx hb dX7_joined_24 rfl (lv_at hl 1 rfl) ?_
    refine mw_zald hx hb hK hP 2 (mu_s _ _ _) rfl (by omega) (by omega) dX7_joined_25 ?_
    refine lv_if_ne (tgt := 38) hx hb dX7_joined_26 (by decide) (fun hc26 => ?_) (fun hc26 => ?_)
    · exact absurd (by rw [upd_n (by omega)]; exact hNM.2.1 a9 ha9) hc26
    · refine lv_aload_n hx hb dX7_joined_29 rfl (lv_at hl 0 rfl) ?_
      refine mw_get (C := RX7) (T := TX7) (N := 13) hx hb hts in_X7_joined_X7 hown hK hP ((mu_n ne0_2).trans ((mu_n ne0_1).trans (hm))) rfl 2 (by decide) (hts (.fieldLink RX7 13 "OctagonDeskModel" "isVoid" "[Z") (by decide +kernel)) (fun _ h9 => h9) rfl dX7_joined_30 ?_
      refine lv_iload_n hx hb dX7_joined_33 rfl (lv_at hl 2 rfl) ?_
      refine mw_zald hx hb hK hP 2 (mu_s _ _ _) rfl (by omega) (by omega) dX7_joined_34 ?_
      refine lv_if_eq (tgt := 39) hx hb dX7_joined_35 (by decide) (fun hc35 => ?_) (fun hc35 => ?_)
      · refine lv_iconst (v := nI 0) hx hb dX7_joined_39 (by decide) ?_
        refine lv_istore_n (lv' := [(3, .int (nI 0)), (0, .ref md), (1, .int (nI a9)), (2, .int (nI b9))]) hx hb dX7_joined_40 rfl hl (by decide) rfl (fun ls hl => ?_)
        exact L41 _ 0 g17 (Nat.lt_succ_self _) (by omega) (AA.ld hNM.1 hL17 (by omega)) _ _ hP hS ls (lv_sub hl [1, 2, 3, 0] rfl)
      · exact absurd (by rw [upd_n (by omega)]; exact hNM.2.1 b9 hb9) hc35
  · exact absurd (hNM.2.1 a9 ha9) hc9

abbrev rm_X7_widened : Room := { frames := 3, cells := 0, slots := 0, locals := 79 }
set_option maxHeartbeats 4000000 in
set_option maxRecDepth 100000 in
theorem c_X7_widened (l : Launch) (G : GG) (B : Nat) (μ : mp) (md ab av c1 c2 c3 c4 c5 c6 c7 c8 c9 fl st : Nat) (f : Nat → Int64) (v : Nat → Int32) (a9 b9 : Nat) (hm : μ md = some (.inr (7, [.int (nI fl), .ref ab, .ref av, .int (nI st), .ref c1, .ref c2, .ref c3, .ref c4, .ref c5, .ref c6, .ref c7, .ref c8, .ref c9]))) (hab : μ ab = some (.inl (G.2 0, 3744, .inr (.inl f)))) (hav : μ av = some (.inl (G.2 2, 26, .inl v))) (ha9 : a9 < 6) (hb9 : b9 < 6) (hNM : NM f v) : Met l yX7_widened wsX7_widened rm_X7_widened (va_Pc [.ref md, .int (nI a9), .int (nI b9)] (KW G B μ)) (va_Qv (fun μ2 => ∃ (g9 : Nat → Int64) (w9 : Nat → Int32), μ2 = mu (mu μ ab (.inl (G.2 0, 3744, .inr (.inl g9)))) av (.inl (G.2 2, 26, .inl w9)) ∧ (VB w9)) (BB G B) (fun q => B ≤ q)) 0 0 (fun q => B ≤ q) := by
  refine Met.ofW (cc := cX7_widened) (maxL := 5) (ret := none) (by decide) rfl ?_
  intro p e s m args below meth c s₁ B9 hml hv
  obtain ⟨hargs, hBs, hP, hKK⟩ := hv
  have hx := B9.exec
  have hb := B9.bytes
  have hr := B9.returns
  have hts := atoms_spec (ws := wsX7_widened) B9.pre
  have hown : s.vm.findClass RX7 = some m.cls := findClass_of_methodNamed B9.named
  have hlocks := B9.notSynchronized
  have hK := hKK.k
  have hS : va_S (fun q => B ≤ q) s.heap s.heap [] := va_S.rf
  obtain ⟨Q, hQ⟩ : ∃ Q, Q = MQ below (va_Qv (fun μ2 => ∃ (g9 : Nat → Int64) (w9 : Nat → Int32), μ2 = mu (mu μ ab (.inl (G.2 0, 3744, .inr (.inl g9)))) av (.inl (G.2 2, 26, .inl w9)) ∧ (VB w9)) (BB G B) (fun q => B ≤ q)) args s 0 0 (fun q => B ≤ q) := ⟨_, rfl⟩
  rw [← hQ]
  have ne0_1 : md ≠ ab := mp_ne hm hab (by simp)
  have ne0_2 : md ≠ av := mp_ne hm hav (by simp)
  have in_X7_widened_X7 : ∀ w ∈ wsX70, w ∈ wsX7_widened := by decide +kernel
  have hP : mw G.1 vwCl B (mu (mu μ ab (.inl (G.2 0, 3744, .inr (.inl f)))) av (.inl (G.2 2, 26, .inl v))) s.heap := mw_eq ((congrArg (fun z => mu z av (.inl (G.2 2, 26, .inl v))) (mu_i hab)).trans (mu_i hav)).symm hP
  have L41 : ∀ (N41 : Nat) (k1 : Nat) (g1 : Nat → Int64) (hN41 : 144 - k1 < N41) (hk1 : k1 ≤ 144) (hA : AA g1), ∀ (H : Heap) (locs : List Loc), mw G.1 vwCl B (mu (mu μ ab (.inl (G.2 0, 3744, .inr (.inl g1)))) av (.inl (G.2 2, 26, .inl (upd v 23 (v a9))))) H → va_S (fun q => B ≤ q) s.heap H locs → ∀ ls : Array Slot, lv_has ls 5 [(0, .ref md), (1, .int (nI a9)), (2, .int (nI b9)), (3, .int (nI k1))] → W p l e rm_X7_widened s m args below meth c H locs 0 0 Q (F0 m 41 ls []) := by
    intro N41
    induction N41 with
    | zero => intro k1 g1 hN41; exact absurd hN41 (Nat.not_lt_zero _)
    | succ N41 ih41 =>
      intro k1 g1 hN41 hk1 hA H locs hP hS ls hl
      refine lv_iload_n hx hb dX7_widened_41 rfl (lv_at hl 3 rfl) ?_
      refine lv_sipush (v := nI 144) hx hb dX7_widened_42 (by decide) ?_
      refine nv_icmp_ge (tgt := 122) hx hb (by omega) (by omega) dX7_widened_45 (by decide) (fun hc45 => ?_) (fun hc45 => ?_)
      · refine lv_aload_n hx hb dX7_widened_122 rfl (lv_at hl 0 rfl) ?_
        refine lv_bipush (v := nI 23) hx hb dX7_widened_123 (by decide) ?_
        refine kc_v (va_runV (As := [.int (nI 23)]) (rest := []) ⟨hx, hb, hml, hown, hts⟩ (c_X7_close_n l G B (mu (mu μ ab (.inl (G.2 0, 3744, .inr (.inl g1)))) av (.inl (G.2 2, 26, .inl (upd v 23 (v a9))))) md ab av c1 c2 c3 c4 c5 c6 c7 c8 c9 fl st g1 (upd v 23 (v a9)) 23 ((mu_n ne0_2).trans ((mu_n ne0_1).trans (hm))) ((mu_n ((mp_ne hab hav (by simp)))).trans (mu_s _ _ _)) (mu_s _ _ _) (by omega) (by rw [upd_s]; exact hNM.2.1 a9 ha9) (CC.ai (hA 23 (by omega)))) (cwV 1 hts gX7_widened_X7_close rfl rfl rfl (by decide +kernel) ⟨Nat.le_of_ble_eq_true rfl, Nat.le_of_ble_eq_true rfl⟩) ⟨KW.blind, hP.recv hK rfl ((mu_n ne0_2).trans ((mu_n ne0_1).trans (hm))), fun U9 hU9 hW9 => ⟨rfl, KW.pre hBs hKK hS hP U9 hU9 hW9⟩⟩ rfl rfl hl.1 rfl (lv_room (Nat.le_of_ble_eq_true rfl)) dX7_widened_125 ⟨(Nat.le_of_ble_eq_true rfl), (Nat.le_of_ble_eq_true rfl)⟩) hS (fun m125 H locs hq9 hP hz9 hS => ?_)
        rw [hq9] at hP
        rw [hQ]
        exact W.vret hx hb hr (fun t99 ht99 hW99 => ⟨⟨mu (mu μ ab (.inl (G.2 0, 3744, .inr (.inl g1)))) av (.inl (G.2 2, 26, .inl (upd v 23 (v a9)))), rfl, (⟨_, _, rfl, VB.u hNM.2.2.2 (hNM.2.2.2 _)⟩), by show mw _ _ _ _ t99.heap; rw [ht99]; exact hP⟩, hS.F ht99⟩) hS.2.2 dX7_widened_128
      · refine lv_aload_n hx hb dX7_widened_48 rfl (lv_at hl 0 rfl) ?_
        refine mw_get (C := RX7) (T := TX7) (N := 13) hx hb hts in_X7_widened_X7 hown hK hP ((mu_n ne0_2).trans ((mu_n ne0_1).trans (hm))) rfl 1 (by decide) (hts (.fieldLink RX7 7 "OctagonDeskModel" "bound" "[J") (by decide +kernel)) (fun _ h9 => h9) rfl dX7_widened_49 ?_
        refine lv_sipush (v := nI 144) hx hb dX7_widened_52 (by decide) ?_
        refine lv_iload_n hx hb dX7_widened_55 rfl (lv_at hl 2 rfl) ?_
        refine nv_imul hx hb dX7_widened_56 ?_
        refine lv_iload_n hx hb dX7_widened_57 rfl (lv_at hl 3 rfl) ?_
        refine nv_iadd hx hb dX7_widened_58 ?_
        refine mw_lald hx hb hK hP 0 ((mu_n ((mp_ne hab hav (by simp)))).trans (mu_s _ _ _)) rfl (by omega) (by omega) dX7_widened_59 ?_
        refine lv_aload_n hx hb dX7_widened_60 rfl (lv_at hl 0 rfl) ?_
        refine mw_get (C := RX7) (T := TX7) (N := 13) hx hb hts in_X7_widened_X7 hown hK hP ((mu_n ne0_2).trans ((mu_n ne0_1).trans (hm))) rfl 1 (by decide) (hts (.fieldLink RX7 7 "OctagonDeskModel" "bound" "[J") (by decide +kernel)) (fun _ h9 => h9) rfl dX7_widened_61 ?_
        refine lv_sipush (v := nI 144) hx hb dX7_widened_64 (by decide) ?_
        refine lv_iload_n hx hb dX7_widened_67 rfl (lv_at hl 1 rfl) ?_
        refine nv_imul hx hb dX7_widened_68 ?_
        refine lv_iload_n hx hb dX7_widened_69 rfl (lv_at hl 3 rfl) ?_
        refine nv_iadd hx hb dX7_widened_70 ?_
        refine mw_lald hx hb hK hP 0 ((mu_n ((mp_ne hab hav (by simp)))).trans (mu_s _ _ _)) rfl (by omega) (by omega) dX7_widened_71 ?_
        refine nl_if_gt (tgt := 80) hx hb dX7_widened_72 dX7_widened_73 (by decide) (fun hc72 => ?_) (fun hc72 => ?_)
        · refine lv_iconst (v := nI 0) hx hb dX7_widened_80 (by decide) ?_
          refine lv_istore (lv' := [(4, .int (nI 0)), (0, .ref md), (1, .int (nI a9)), (2, .int (nI b9)), (3, .int (nI k1))]) hx hb dX7_widened_81 hl (by decide) rfl (fun ls hl => ?_)
          refine lv_aload_n hx hb dX7_widened_83 rfl (lv_at hl 1 rfl) ?_
          refine mw_get (C := RX7) (T := TX7) (N := 13) hx hb hts in_X7_widened_X7 hown hK hP ((mu_n ne0_2).trans ((mu_n ne0_1).trans (hm))) rfl 1 (by decide) (hts (.fieldLink RX7 7 "OctagonDeskModel" "bound" "[J") (by decide +kernel)) (fun _ h9 => h9) rfl dX7_widened_84 ?_
          refine lv_sipush (v := nI 3312) hx hb dX7_widened_87 (by decide) ?_
          refine lv_iload_n hx hb dX7_widened_90 rfl (lv_at hl 4 rfl) ?_
          refine nv_iadd hx hb dX7_widened_91 ?_
          refine lv_iload hx hb dX7_widened_92 (lv_at hl 0 rfl) ?_
          refine lv_if_eq (tgt := 112) hx hb dX7_widened_94 (by decide) (fun hc94 => ?_) (fun hc94 => ?_)
          · refine lv_ldc2 (v := (9223372036854775807)) hx hb hown (hts (.constantLong RX7 45 (9223372036854775807)) (by decide +kernel)) dX7_widened_112 ?_
            refine mw_last hx hb hK hP hS 0 ((mu_n ((mp_ne hab hav (by simp)))).trans (mu_s _ _ _)) rfl (by omega) (by omega) dX7_widened_115 (fun H locs hP hS => ?_)
            have hP : mw G.1 vwCl B (mu (mu μ ab (.inl (G.2 0, 3744, .inr (.inl (vp_updL g1 (3312 + k1) 9223372036854775807))))) av (.inl (G.2 2, 26, .inl (upd v 23 (v a9))))) _ := mw_eq ((mu_c _ _ ((mp_ne hav hab (by simp)))).trans (congrArg (fun z => mu z av (.inl (G.2 2, 26, .inl (upd v 23 (v a9))))) (mu_u _ _ _ _))) hP
            refine lv_iinc (v := nI (k1 + 1)) (lv' := [(3, .int (nI (k1 + 1))), (4, .int (nI 0)), (0, .ref md), (1, .int (nI a9)), (2, .int (nI b9))]) hx hb dX7_widened_116 hl (k := 4) rfl (nI_add _ _) (by decide) rfl (fun ls hl => ?_)
            refine lv_goto (tgt := 41) hx hb dX7_widened_119 (by decide) ?_
            exact ih41 (k1 + 1) (vp_updL g1 (3312 + k1) 9223372036854775807) (by omega) (by omega) (hA.up (by first | rfl | (rw [ev60]; exact hA.x (by omega)) | exact hA.x (by omega) | (rw [ev60]; exact hA.x (by omega)))) _ _ hP hS ls (lv_sub hl [2, 3, 4, 0] rfl)
          · exact absurd rfl hc94
        · refine lv_iconst (v := nI 1) hx hb dX7_widened_76 (by decide) ?_
          refine lv_goto (tgt := 81) hx hb dX7_widened_77 (by decide) ?_
          refine lv_istore (lv' := [(4, .int (nI 1)), (0, .ref md), (1, .int (nI a9)), (2, .int (nI b9)), (3, .int (nI k1))]) hx hb dX7_widened_81 hl (by decide) rfl (fun ls hl => ?_)
          refine lv_aload_n hx hb dX7_widened_83 rfl (lv_at hl 1 rfl) ?_
          refine mw_get (C := RX7) (T := TX7) (N := 13) hx hb hts in_X7_widened_X7 hown hK hP ((mu_n ne0_2).trans ((mu_n ne0_1).trans (hm))) rfl 1 (by decide) (hts (.fieldLink RX7 7 "OctagonDeskModel" "bound" "[J") (by decide +kernel)) (fun _ h9 => h9) rfl dX7_widened_84 ?_
          refine lv_sipush (v := nI 3312) hx hb dX7_widened_87 (by decide) ?_
          refine lv_iload_n hx hb dX7_widened_90 rfl (lv_at hl 4 rfl) ?_
          refine nv_iadd hx hb dX7_widened_91 ?_
          refine lv_iload hx hb dX7_widened_92 (lv_at hl 0 rfl) ?_
          refine lv_if_eq (tgt := 112) hx hb dX7_widened_94 (by decide) (fun hc94 => ?_) (fun hc94 => ?_)
          · exact absurd hc94 (by decide)
          · refine lv_aload_n hx hb dX7_widened_97 rfl (lv_at hl 1 rfl) ?_
            refine mw_get (C := RX7) (T := TX7) (N := 13) hx hb hts in_X7_widened_X7 hown hK hP ((mu_n ne0_2).trans ((mu_n ne0_1).trans (hm))) rfl 1 (by decide) (hts (.fieldLink RX7 7 "OctagonDeskModel" "bound" "[J") (by decide +kernel)) (fun _ h9 => h9) rfl dX7_widened_98 ?_
            refine lv_sipush (v := nI 144) hx hb dX7_widened_101 (by decide) ?_
            refine lv_iload_n hx hb dX7_widened_104 rfl (lv_at hl 2 rfl) ?_
            refine nv_imul hx hb dX7_widened_105 ?_
            refine lv_iload_n hx hb dX7_widened_106 rfl (lv_at hl 4 rfl) ?_
            refine nv_iadd hx hb dX7_widened_107 ?_
            refine mw_lald hx hb hK hP 0 ((mu_n ((mp_ne hab hav (by simp)))).trans (mu_s _ _ _)) rfl (by omega) (by omega) dX7_widened_108 ?_
            refine lv_goto (tgt := 115) hx hb dX7_widened_109 (by decide) ?_
            refine lv_topl (fun v115 ev115 => ?_)
            refine mw_last hx hb hK hP hS 0 ((mu_n ((mp_ne hab hav (by simp)))).trans (mu_s _ _ _)) rfl (by omega) (by omega) dX7_widened_115 (fun H locs hP hS => ?_)
            have hP : mw G.1 vwCl B (mu (mu μ ab (.inl (G.2 0, 3744, .inr (.inl (vp_updL g1 (3312 + k1) v115))))) av (.inl (G.2 2, 26, .inl (upd v 23 (v a9))))) _ := mw_eq ((mu_c _ _ ((mp_ne hav hab (by simp)))).trans (congrArg (fun z => mu z av (.inl (G.2 2, 26, .inl (upd v 23 (v a9))))) (mu_u _ _ _ _))) hP
            refine lv_iinc (v := nI (k1 + 1)) (lv' := [(3, .int (nI (k1 + 1))), (4, .int (nI 1)), (0, .ref md), (1, .int (nI a9)), (2, .int (nI b9))]) hx hb dX7_widened_116 hl (k := 4) rfl (nI_add _ _) (by decide) rfl (fun ls hl => ?_)
            refine lv_goto (tgt := 41) hx hb dX7_widened_119 (by decide) ?_
            exact ih41 (k1 + 1) (vp_updL g1 (3312 + k1) v115) (by omega) (by omega) (hA.up (by first | rfl | (rw [ev115]; exact hA.x (by omega)) | exact hA.x (by omega) | (rw [ev60]; exact hA.x (by omega)))) _ _ hP hS ls (lv_sub hl [2, 3, 4, 0] rfl)
  have hl := lv_entry ([.ref md, .int (nI a9), .int (nI b9)]) (n := 5) (Nat.le_of_ble_eq_true rfl)
  have he9 : entryFrame m args 5 = entryFrame m ([.ref md, .int (nI a9), .int (nI b9)] : List Value).toArray 5 := by rw [hargs]
  rw [he9, lg_entry_eq]
  generalize (lg_sl ([.ref md, .int (nI a9), .int (nI b9)]) ++ List.replicate (5 - (lg_sl ([.ref md, .int (nI a9), .int (nI b9)])).length) Slot.unset).toArray = ls at hl ⊢
  have hl : lv_has ls 5 [(0, .ref md), (1, .int (nI a9)), (2, .int (nI b9))] := hl
  refine lv_aload_n hx hb dX7_widened_0 rfl (lv_at hl 0 rfl) ?_
  refine lv_bipush (v := nI 23) hx hb dX7_widened_1 (by decide) ?_
  refine lv_aload_n hx hb dX7_widened_3 rfl (lv_at hl 0 rfl) ?_
  refine mw_get (C := RX7) (T := TX7) (N := 13) hx hb hts in_X7_widened_X7 hown hK hP ((mu_n ne0_2).trans ((mu_n ne0_1).trans (hm))) rfl 2 (by decide) (hts (.fieldLink RX7 13 "OctagonDeskModel" "isVoid" "[Z") (by decide +kernel)) (fun _ h9 => h9) rfl dX7_widened_4 ?_
  refine lv_iload_n hx hb dX7_widened_7 rfl (lv_at hl 1 rfl) ?_
  refine mw_zald hx hb hK hP 2 (mu_s _ _ _) rfl (by omega) (by omega) dX7_widened_8 ?_
  refine lv_if_eq (tgt := 16) hx hb dX7_widened_9 (by decide) (fun hc9 => ?_) (fun hc9 => ?_)
  · refine lv_iload_n hx hb dX7_widened_16 rfl (lv_at hl 1 rfl) ?_
    refine kc_v (va_runV (As := [.int (nI 23), .int (nI a9)]) (rest := []) ⟨hx, hb, hml, hown, hts⟩ (c_X7_load l G B (mu (mu μ ab (.inl (G.2 0, 3744, .inr (.inl f)))) av (.inl (G.2 2, 26, .inl v))) md ab av c1 c2 c3 c4 c5 c6 c7 c8 c9 fl st f v 23 a9 ((mu_n ne0_2).trans ((mu_n ne0_1).trans (hm))) ((mu_n ((mp_ne hab hav (by simp)))).trans (mu_s _ _ _)) (mu_s _ _ _) (by omega) (by omega) (hNM.2.2.2 a9)) (cwV 2 hts gX7_widened_X7_load rfl rfl rfl (by decide +kernel) ⟨Nat.le_of_ble_eq_true rfl, Nat.le_of_ble_eq_true rfl⟩) ⟨KW.blind, hP.recv hK rfl ((mu_n ne0_2).trans ((mu_n ne0_1).trans (hm))), fun U9 hU9 hW9 => ⟨rfl, KW.pre hBs hKK hS hP U9 hU9 hW9⟩⟩ rfl rfl hl.1 rfl (lv_room (Nat.le_of_ble_eq_true rfl)) dX7_widened_17 ⟨(Nat.le_of_ble_eq_true rfl), (Nat.le_of_ble_eq_true rfl)⟩) hS (fun m17 H locs hq9 hP hz9 hS => ?_)
    obtain ⟨g17, rfl, hL17⟩ := hq9
    have hP : mw G.1 vwCl B (mu (mu μ ab (.inl (G.2 0, 3744, .inr (.inl g17)))) av (.inl (G.2 2, 26, .inl (upd v 23 (v a9))))) _ := mw_eq ((congrArg (fun z => mu z av (.inl (G.2 2, 26, .inl (upd v 23 (v a9))))) ((mu_c _ _ ((mp_ne hav hab (by simp)))).trans (congrArg (fun z => mu z av (.inl (G.2 2, 26, .inl v))) (mu_u _ _ _ _)))).trans (mu_u _ _ _ _)) hP
    refine lv_aload_n hx hb dX7_widened_20 rfl (lv_at hl 0 rfl) ?_
    refine mw_get (C := RX7) (T := TX7) (N := 13) hx hb hts in_X7_widened_X7 hown hK hP ((mu_n ne0_2).trans ((mu_n ne0_1).trans (hm))) rfl 2 (by decide) (hts (.fieldLink RX7 13 "OctagonDeskModel" "isVoid" "[Z") (by decide +kernel)) (fun _ h9 => h9) rfl dX7_widened_21 ?_
    refine lv_iload_n hx hb dX7_widened_24 rfl (lv_at hl 1 rfl) ?_
    refine mw_zald hx hb hK hP 2 (mu_s _ _ _) rfl (by omega) (by omega) dX7_widened_25 ?_
    refine lv_if_ne (tgt := 38) hx hb dX7_widened_26 (by decide) (fun hc26 => ?_) (fun hc26 => ?_)
    · exact absurd (by rw [upd_n (by omega)]; exact hNM.2.1 a9 ha9) hc26
    · refine lv_aload_n hx hb dX7_widened_29 rfl (lv_at hl 0 rfl) ?_
      refine mw_get (C := RX7) (T := TX7) (N := 13) hx hb hts in_X7_widened_X7 hown hK hP ((mu_n ne0_2).trans ((mu_n ne0_1).trans (hm))) rfl 2 (by decide) (hts (.fieldLink RX7 13 "OctagonDeskModel" "isVoid" "[Z") (by decide +kernel)) (fun _ h9 => h9) rfl dX7_widened_30 ?_
      refine lv_iload_n hx hb dX7_widened_33 rfl (lv_at hl 2 rfl) ?_
      refine mw_zald hx hb hK hP 2 (mu_s _ _ _) rfl (by omega) (by omega) dX7_widened_34 ?_
      refine lv_if_eq (tgt := 39) hx hb dX7_widened_35 (by decide) (fun hc35 => ?_) (fun hc35 => ?_)
      · refine lv_iconst (v := nI 0) hx hb dX7_widened_39 (by decide) ?_
        refine lv_istore_n (lv' := [(3, .int (nI 0)), (0, .ref md), (1, .int (nI a9)), (2, .int (nI b9))]) hx hb dX7_widened_40 rfl hl (by decide) rfl (fun ls hl => ?_)
        exact L41 _ 0 g17 (Nat.lt_succ_self _) (by omega) (AA.ld hNM.1 hL17 (by omega)) _ _ hP hS ls (lv_sub hl [1, 2, 3, 0] rfl)
      · exact absurd (by rw [upd_n (by omega)]; exact hNM.2.1 b9 hb9) hc35
  · exact absurd (hNM.2.1 a9 ha9) hc9

abbrev rm_X7_join : Room := { frames := 3, cells := 0, slots := 0, locals := 64 }
set_option maxHeartbeats 4000000 in
set_option maxRecDepth 100000 in
theorem c_X7_join (l : Launch) (G : GG) (B : Nat) (μ : mp) (md ab av c1 c2 c3 c4 c5 c6 c7 c8 c9 fl st : Nat) (f : Nat → Int64) (v : Nat → Int32) (x9 y9 z9 : Int32) (hm : μ md = some (.inr (7, [.int (nI fl), .ref ab, .ref av, .int (nI st), .ref c1, .ref c2, .ref c3, .ref c4, .ref c5, .ref c6, .ref c7, .ref c8, .ref c9]))) (hab : μ ab = some (.inl (G.2 0, 3744, .inr (.inl f)))) (hav : μ av = some (.inl (G.2 2, 26, .inl v))) (hNM : NM f v) : Met l yX7_join wsX7_join rm_X7_join (va_Pc [.ref md, .int x9, .int y9, .int z9] (KW G B μ)) (va_Qv (fun μ2 => ∃ (fl9 : Nat) (g9 : Nat → Int64) (w9 : Nat → Int32), μ2 = mu (mu (mu μ md (.inr (7, [.int (nI fl9), .ref ab, .ref av, .int (nI st), .ref c1, .ref c2, .ref c3, .ref c4, .ref c5, .ref c6, .ref c7, .ref c8, .ref c9]))) ab (.inl (G.2 0, 3744, .inr (.inl g9)))) av (.inl (G.2 2, 26, .inl w9)) ∧ ((fl9 = 0 ∧ (okS x9 ∧ okS y9 ∧ okS z9)) ∨ (fl9 = 1 ∧ ¬ (okS x9 ∧ okS y9 ∧ okS z9)))) (BB G B) (fun q => B ≤ q)) 0 0 (fun q => B ≤ q) := by
  refine Met.ofW (cc := cX7_join) (maxL := 4) (ret := none) (by decide) rfl ?_
  intro p e s m args below meth c s₁ B9 hml hv
  obtain ⟨hargs, hBs, hP, hKK⟩ := hv
  have hx := B9.exec
  have hb := B9.bytes
  have hr := B9.returns
  have hts := atoms_spec (ws := wsX7_join) B9.pre
  have hown : s.vm.findClass RX7 = some m.cls := findClass_of_methodNamed B9.named
  have hlocks := B9.notSynchronized
  have hK := hKK.k
  have hS : va_S (fun q => B ≤ q) s.heap s.heap [] := va_S.rf
  obtain ⟨Q, hQ⟩ : ∃ Q, Q = MQ below (va_Qv (fun μ2 => ∃ (fl9 : Nat) (g9 : Nat → Int64) (w9 : Nat → Int32), μ2 = mu (mu (mu μ md (.inr (7, [.int (nI fl9), .ref ab, .ref av, .int (nI st), .ref c1, .ref c2, .ref c3, .ref c4, .ref c5, .ref c6, .ref c7, .ref c8, .ref c9]))) ab (.inl (G.2 0, 3744, .inr (.inl g9)))) av (.inl (G.2 2, 26, .inl w9)) ∧ ((fl9 = 0 ∧ (okS x9 ∧ okS y9 ∧ okS z9)) ∨ (fl9 = 1 ∧ ¬ (okS x9 ∧ okS y9 ∧ okS z9)))) (BB G B) (fun q => B ≤ q)) args s 0 0 (fun q => B ≤ q) := ⟨_, rfl⟩
  rw [← hQ]
  have ne0_1 : md ≠ ab := mp_ne hm hab (by simp)
  have ne0_2 : md ≠ av := mp_ne hm hav (by simp)
  have hP : mw G.1 vwCl B (mu (mu (mu μ md (.inr (7, [.int (nI fl), .ref ab, .ref av, .int (nI st), .ref c1, .ref c2, .ref c3, .ref c4, .ref c5, .ref c6, .ref c7, .ref c8, .ref c9]))) ab (.inl (G.2 0, 3744, .inr (.inl f)))) av (.inl (G.2 2, 26, .inl v))) s.heap := mw_eq ((congrArg (fun z => mu z av (.inl (G.2 2, 26, .inl v))) ((congrArg (fun z => mu z ab (.inl (G.2 0, 3744, .inr (.inl f)))) (mu_i hm)).trans (mu_i hab))).trans (mu_i hav)).symm hP
  have hl := lv_entry ([.ref md, .int x9, .int y9, .int z9]) (n := 4) (Nat.le_of_ble_eq_true rfl)
  have he9 : entryFrame m args 4 = entryFrame m ([.ref md, .int x9, .int y9, .int z9] : List Value).toArray 4 := by rw [hargs]
  rw [he9, lg_entry_eq]
  generalize (lg_sl ([.ref md, .int x9, .int y9, .int z9]) ++ List.replicate (4 - (lg_sl ([.ref md, .int x9, .int y9, .int z9])).length) Slot.unset).toArray = ls at hl ⊢
  have hl : lv_has ls 4 [(0, .ref md), (1, .int x9), (2, .int y9), (3, .int z9)] := hl
  refine lv_aload_n hx hb dX7_join_0 rfl (lv_at hl 0 rfl) ?_
  refine lv_iload_n hx hb dX7_join_1 rfl (lv_at hl 1 rfl) ?_
  refine lv_iload_n hx hb dX7_join_2 rfl (lv_at hl 2 rfl) ?_
  refine lv_iload_n hx hb dX7_join_3 rfl (lv_at hl 3 rfl) ?_
  refine kc_i (va_runS (As := [.int x9, .int y9, .int z9]) (rest := [.ref md]) ⟨hx, hb, hml, hown, hts⟩ (c_X7_areSlots l G B (mu (mu (mu μ md (.inr (7, [.int (nI fl), .ref ab, .ref av, .int (nI st), .ref c1, .ref c2, .ref c3, .ref c4, .ref c5, .ref c6, .ref c7, .ref c8, .ref c9]))) ab (.inl (G.2 0, 3744, .inr (.inl f)))) av (.inl (G.2 2, 26, .inl v))) x9 y9 z9) (va_cwS 3 hts gX7_join_X7_areSlots rfl rfl rfl (by decide +kernel) ⟨Nat.le_of_ble_eq_true rfl, Nat.le_of_ble_eq_true rfl⟩) ⟨KW.blind, fun U9 hU9 hW9 => ⟨rfl, KW.pre hBs hKK hS hP U9 hU9 hW9⟩⟩ rfl rfl hl.1 rfl (lv_room (Nat.le_of_ble_eq_true rfl)) dX7_join_4 ⟨(Nat.le_of_ble_eq_true rfl), (Nat.le_of_ble_eq_true rfl)⟩) hS (fun r4 m4 H locs hq9 hP hz9 hS => ?_)
  obtain ⟨he9, hy4⟩ := hq9
  rw [he9] at hP
  refine lv_if_eq (tgt := 14) hx hb dX7_join_7 (by decide) (fun hc7 => ?_) (fun hc7 => ?_)
  · refine lv_iconst (v := nI 1) hx hb dX7_join_14 (by decide) ?_
    refine kc_i (va_runV (As := [.int (nI 1)]) (rest := []) ⟨hx, hb, hml, hown, hts⟩ (c_X7_refused l G B (mu (mu (mu μ md (.inr (7, [.int (nI fl), .ref ab, .ref av, .int (nI st), .ref c1, .ref c2, .ref c3, .ref c4, .ref c5, .ref c6, .ref c7, .ref c8, .ref c9]))) ab (.inl (G.2 0, 3744, .inr (.inl f)))) av (.inl (G.2 2, 26, .inl v))) md ab av c1 c2 c3 c4 c5 c6 c7 c8 c9 fl st f v 1 ((mu_n ne0_2).trans ((mu_n ne0_1).trans (mu_s _ _ _))) ((mu_n ((mp_ne hab hav (by simp)))).trans (mu_s _ _ _)) (mu_s _ _ _) (by omega)) (cwV 1 hts gX7_join_X7_refused rfl rfl rfl (by decide +kernel) ⟨Nat.le_of_ble_eq_true rfl, Nat.le_of_ble_eq_true rfl⟩) ⟨KW.blind, hP.recv hK rfl ((mu_n ne0_2).trans ((mu_n ne0_1).trans (mu_s _ _ _))), fun U9 hU9 hW9 => ⟨rfl, KW.pre hBs hKK hS hP U9 hU9 hW9⟩⟩ rfl rfl hl.1 rfl (lv_room (Nat.le_of_ble_eq_true rfl)) dX7_join_15 ⟨(Nat.le_of_ble_eq_true rfl), (Nat.le_of_ble_eq_true rfl)⟩) hS (fun r15 m15 H locs hq9 hP hz9 hS => ?_)
    obtain ⟨he9, hw0, hw1⟩ := hq9
    rw [he9] at hP
    have hP : mw G.1 vwCl B (mu (mu (mu μ md (.inr (7, [.int (nI 1), .ref ab, .ref av, .int (nI st), .ref c1, .ref c2, .ref c3, .ref c4, .ref c5, .ref c6, .ref c7, .ref c8, .ref c9]))) ab (.inl (G.2 0, 3744, .inr (.inl f)))) av (.inl (G.2 2, 26, .inl v))) _ := mw_eq ((mu_c _ _ ((Ne.symm ne0_2))).trans (congrArg (fun z => mu z av (.inl (G.2 2, 26, .inl v))) ((mu_c _ _ ((Ne.symm ne0_1))).trans (congrArg (fun z => mu z ab (.inl (G.2 0, 3744, .inr (.inl f)))) (mu_u _ _ _ _))))) hP
    obtain rfl : r15 = nI 1 := hw1 (by decide)
    refine lv_if_ne (tgt := 34) hx hb dX7_join_18 (by decide) (fun hc18 => ?_) (fun hc18 => ?_)
    · rw [hQ]
      exact W.vret hx hb hr (fun t99 ht99 hW99 => ⟨⟨mu (mu (mu μ md (.inr (7, [.int (nI 1), .ref ab, .ref av, .int (nI st), .ref c1, .ref c2, .ref c3, .ref c4, .ref c5, .ref c6, .ref c7, .ref c8, .ref c9]))) ab (.inl (G.2 0, 3744, .inr (.inl f)))) av (.inl (G.2 2, 26, .inl v)), rfl, (⟨_, _, _, rfl, Or.inr ⟨rfl, fun h9 => by first | exact yn_f hy4 hc7 h9⟩⟩), by show mw _ _ _ _ t99.heap; rw [ht99]; exact hP⟩, hS.F ht99⟩) hS.2.2 dX7_join_34
    · exact absurd hc18 (by decide)
  · refine lv_iconst (v := nI 0) hx hb dX7_join_10 (by decide) ?_
    refine lv_goto (tgt := 15) hx hb dX7_join_11 (by decide) ?_
    refine kc_i (va_runV (As := [.int (nI 0)]) (rest := []) ⟨hx, hb, hml, hown, hts⟩ (c_X7_refused l G B (mu (mu (mu μ md (.inr (7, [.int (nI fl), .ref ab, .ref av, .int (nI st), .ref c1, .ref c2, .ref c3, .ref c4, .ref c5, .ref c6, .ref c7, .ref c8, .ref c9]))) ab (.inl (G.2 0, 3744, .inr (.inl f)))) av (.inl (G.2 2, 26, .inl v))) md ab av c1 c2 c3 c4 c5 c6 c7 c8 c9 fl st f v 0 ((mu_n ne0_2).trans ((mu_n ne0_1).trans (mu_s _ _ _))) ((mu_n ((mp_ne hab hav (by simp)))).trans (mu_s _ _ _)) (mu_s _ _ _) (by omega)) (cwV 1 hts gX7_join_X7_refused rfl rfl rfl (by decide +kernel) ⟨Nat.le_of_ble_eq_true rfl, Nat.le_of_ble_eq_true rfl⟩) ⟨KW.blind, hP.recv hK rfl ((mu_n ne0_2).trans ((mu_n ne0_1).trans (mu_s _ _ _))), fun U9 hU9 hW9 => ⟨rfl, KW.pre hBs hKK hS hP U9 hU9 hW9⟩⟩ rfl rfl hl.1 rfl (lv_room (Nat.le_of_ble_eq_true rfl)) dX7_join_15 ⟨(Nat.le_of_ble_eq_true rfl), (Nat.le_of_ble_eq_true rfl)⟩) hS (fun r15 m15 H locs hq9 hP hz9 hS => ?_)
    obtain ⟨he9, hw0, hw1⟩ := hq9
    rw [he9] at hP
    have hP : mw G.1 vwCl B (mu (mu (mu μ md (.inr (7, [.int (nI 0), .ref ab, .ref av, .int (nI st), .ref c1, .ref c2, .ref c3, .ref c4, .ref c5, .ref c6, .ref c7, .ref c8, .ref c9]))) ab (.inl (G.2 0, 3744, .inr (.inl f)))) av (.inl (G.2 2, 26, .inl v))) _ := mw_eq ((mu_c _ _ ((Ne.symm ne0_2))).trans (congrArg (fun z => mu z av (.inl (G.2 2, 26, .inl v))) ((mu_c _ _ ((Ne.symm ne0_1))).trans (congrArg (fun z => mu z ab (.inl (G.2 0, 3744, .inr (.inl f)))) (mu_u _ _ _ _))))) hP
    obtain rfl : r15 = nI 0 := hw0 rfl
    refine lv_if_ne (tgt := 34) hx hb dX7_join_18 (by decide) (fun hc18 => ?_) (fun hc18 => ?_)
    · exact absurd rfl hc18
    · have hok : okS x9 ∧ okS y9 ∧ okS z9 := yn_t hy4 hc7
      obtain ⟨nx9, hnx9, enx9⟩ := ok_nat (n := 6) (by decide) hok.1
      subst enx9
      obtain ⟨ny9, hny9, eny9⟩ := ok_nat (n := 6) (by decide) hok.2.1
      subst eny9
      obtain ⟨nz9, hnz9, enz9⟩ := ok_nat (n := 6) (by decide) hok.2.2
      subst enz9
      refine lv_aload_n hx hb dX7_join_21 rfl (lv_at hl 0 rfl) ?_
      refine lv_iload_n hx hb dX7_join_22 rfl (lv_at hl 2 rfl) ?_
      refine lv_iload_n hx hb dX7_join_23 rfl (lv_at hl 3 rfl) ?_
      refine kc_v (va_runV (As := [.int (nI ny9), .int (nI nz9)]) (rest := []) ⟨hx, hb, hml, hown, hts⟩ (c_X7_joined l G B (mu (mu (mu μ md (.inr (7, [.int (nI 0), .ref ab, .ref av, .int (nI st), .ref c1, .ref c2, .ref c3, .ref c4, .ref c5, .ref c6, .ref c7, .ref c8, .ref c9]))) ab (.inl (G.2 0, 3744, .inr (.inl f)))) av (.inl (G.2 2, 26, .inl v))) md ab av c1 c2 c3 c4 c5 c6 c7 c8 c9 0 st f v ny9 nz9 ((mu_n ne0_2).trans ((mu_n ne0_1).trans (mu_s _ _ _))) ((mu_n ((mp_ne hab hav (by simp)))).trans (mu_s _ _ _)) (mu_s _ _ _) (by omega) (by omega) (hNM)) (cwV 2 hts gX7_join_X7_joined rfl rfl rfl (by decide +kernel) ⟨Nat.le_of_ble_eq_true rfl, Nat.le_of_ble_eq_true rfl⟩) ⟨KW.blind, hP.recv hK rfl ((mu_n ne0_2).trans ((mu_n ne0_1).trans (mu_s _ _ _))), fun U9 hU9 hW9 => ⟨rfl, KW.pre hBs hKK hS hP U9 hU9 hW9⟩⟩ rfl rfl hl.1 rfl (lv_room (Nat.le_of_ble_eq_true rfl)) dX7_join_24 ⟨(Nat.le_of_ble_eq_true rfl), (Nat.le_of_ble_eq_true rfl)⟩) hS (fun m24 H locs hq9 hP hz9 hS => ?_)
      obtain ⟨g24, w24, rfl, hw24⟩ := hq9
      have hP : mw G.1 vwCl B (mu (mu (mu μ md (.inr (7, [.int (nI 0), .ref ab, .ref av, .int (nI st), .ref c1, .ref c2, .ref c3, .ref c4, .ref c5, .ref c6, .ref c7, .ref c8, .ref c9]))) ab (.inl (G.2 0, 3744, .inr (.inl g24)))) av (.inl (G.2 2, 26, .inl w24))) _ := mw_eq ((congrArg (fun z => mu z av (.inl (G.2 2, 26, .inl w24))) ((mu_c _ _ ((mp_ne hav hab (by simp)))).trans (congrArg (fun z => mu z av (.inl (G.2 2, 26, .inl v))) (mu_u _ _ _ _)))).trans (mu_u _ _ _ _)) hP
      refine lv_aload_n hx hb dX7_join_27 rfl (lv_at hl 0 rfl) ?_
      refine lv_iload_n hx hb dX7_join_28 rfl (lv_at hl 1 rfl) ?_
      refine lv_bipush (v := nI 22) hx hb dX7_join_29 (by decide) ?_
      refine kc_v (va_runV (As := [.int (nI nx9), .int (nI 22)]) (rest := []) ⟨hx, hb, hml, hown, hts⟩ (c_X7_load l G B (mu (mu (mu μ md (.inr (7, [.int (nI 0), .ref ab, .ref av, .int (nI st), .ref c1, .ref c2, .ref c3, .ref c4, .ref c5, .ref c6, .ref c7, .ref c8, .ref c9]))) ab (.inl (G.2 0, 3744, .inr (.inl g24)))) av (.inl (G.2 2, 26, .inl w24))) md ab av c1 c2 c3 c4 c5 c6 c7 c8 c9 0 st g24 w24 nx9 22 ((mu_n ne0_2).trans ((mu_n ne0_1).trans (mu_s _ _ _))) ((mu_n ((mp_ne hab hav (by simp)))).trans (mu_s _ _ _)) (mu_s _ _ _) (by omega) (by omega) (hw24 22)) (cwV 2 hts gX7_join_X7_load rfl rfl rfl (by decide +kernel) ⟨Nat.le_of_ble_eq_true rfl, Nat.le_of_ble_eq_true rfl⟩) ⟨KW.blind, hP.recv hK rfl ((mu_n ne0_2).trans ((mu_n ne0_1).trans (mu_s _ _ _))), fun U9 hU9 hW9 => ⟨rfl, KW.pre hBs hKK hS hP U9 hU9 hW9⟩⟩ rfl rfl hl.1 rfl (lv_room (Nat.le_of_ble_eq_true rfl)) dX7_join_31 ⟨(Nat.le_of_ble_eq_true rfl), (Nat.le_of_ble_eq_true rfl)⟩) hS (fun m31 H locs hq9 hP hz9 hS => ?_)
      obtain ⟨g31, rfl, hL31⟩ := hq9
      have hP : mw G.1 vwCl B (mu (mu (mu μ md (.inr (7, [.int (nI 0), .ref ab, .ref av, .int (nI st), .ref c1, .ref c2, .ref c3, .ref c4, .ref c5, .ref c6, .ref c7, .ref c8, .ref c9]))) ab (.inl (G.2 0, 3744, .inr (.inl g31)))) av (.inl (G.2 2, 26, .inl (upd w24 nx9 (w24 22))))) _ := mw_eq ((congrArg (fun z => mu z av (.inl (G.2 2, 26, .inl (upd w24 nx9 (w24 22))))) ((mu_c _ _ ((mp_ne hav hab (by simp)))).trans (congrArg (fun z => mu z av (.inl (G.2 2, 26, .inl w24))) (mu_u _ _ _ _)))).trans (mu_u _ _ _ _)) hP
      rw [hQ]
      exact W.vret hx hb hr (fun t99 ht99 hW99 => ⟨⟨mu (mu (mu μ md (.inr (7, [.int (nI 0), .ref ab, .ref av, .int (nI st), .ref c1, .ref c2, .ref c3, .ref c4, .ref c5, .ref c6, .ref c7, .ref c8, .ref c9]))) ab (.inl (G.2 0, 3744, .inr (.inl g31)))) av (.inl (G.2 2, 26, .inl (upd w24 nx9 (w24 22)))), rfl, (⟨_, _, _, rfl, Or.inl ⟨rfl, hok⟩⟩), by show mw _ _ _ _ t99.heap; rw [ht99]; exact hP⟩, hS.F ht99⟩) hS.2.2 dX7_join_34

abbrev rm_X7_widen : Room := { frames := 4, cells := 0, slots := 0, locals := 103 }
set_option maxHeartbeats 4000000 in
set_option maxRecDepth 100000 in
theorem c_X7_widen (l : Launch) (G : GG) (B : Nat) (μ : mp) (md ab av c1 c2 c3 c4 c5 c6 c7 c8 c9 fl st : Nat) (f : Nat → Int64) (v : Nat → Int32) (x9 y9 z9 : Int32) (hm : μ md = some (.inr (7, [.int (nI fl), .ref ab, .ref av, .int (nI st), .ref c1, .ref c2, .ref c3, .ref c4, .ref c5, .ref c6, .ref c7, .ref c8, .ref c9]))) (hab : μ ab = some (.inl (G.2 0, 3744, .inr (.inl f)))) (hav : μ av = some (.inl (G.2 2, 26, .inl v))) (hNM : NM f v) : Met l yX7_widen wsX7_widen rm_X7_widen (va_Pc [.ref md, .int x9, .int y9, .int z9] (KW G B μ)) (va_Qv (fun μ2 => ∃ (fl9 : Nat) (g9 : Nat → Int64) (w9 : Nat → Int32), μ2 = mu (mu (mu μ md (.inr (7, [.int (nI fl9), .ref ab, .ref av, .int (nI st), .ref c1, .ref c2, .ref c3, .ref c4, .ref c5, .ref c6, .ref c7, .ref c8, .ref c9]))) ab (.inl (G.2 0, 3744, .inr (.inl g9)))) av (.inl (G.2 2, 26, .inl w9)) ∧ ((fl9 = 0 ∧ (okS x9 ∧ okS y9 ∧ okS z9)) ∨ (fl9 = 1 ∧ ¬ (okS x9 ∧ okS y9 ∧ okS z9)))) (BB G B) (fun q => B ≤ q)) 0 0 (fun q => B ≤ q) := by
  refine Met.ofW (cc := cX7_widen) (maxL := 4) (ret := none) (by decide) rfl ?_
  intro p e s m args below meth c s₁ B9 hml hv
  obtain ⟨hargs, hBs, hP, hKK⟩ := hv
  have hx := B9.exec
  have hb := B9.bytes
  have hr := B9.returns
  have hts := atoms_spec (ws := wsX7_widen) B9.pre
  have hown : s.vm.findClass RX7 = some m.cls := findClass_of_methodNamed B9.named
  have hlocks := B9.notSynchronized
  have hK := hKK.k
  have hS : va_S (fun q => B ≤ q) s.heap s.heap [] := va_S.rf
  obtain ⟨Q, hQ⟩ : ∃ Q, Q = MQ below (va_Qv (fun μ2 => ∃ (fl9 : Nat) (g9 : Nat → Int64) (w9 : Nat → Int32), μ2 = mu (mu (mu μ md (.inr (7, [.int (nI fl9), .ref ab, .ref av, .int (nI st), .ref c1, .ref c2, .ref c3, .ref c4, .ref c5, .ref c6, .ref c7, .ref c8, .ref c9]))) ab (.inl (G.2 0, 3744, .inr (.inl g9)))) av (.inl (G.2 2, 26, .inl w9)) ∧ ((fl9 = 0 ∧ (okS x9 ∧ okS y9 ∧ okS z9)) ∨ (fl9 = 1 ∧ ¬ (okS x9 ∧ okS y9 ∧ okS z9)))) (BB G B) (fun q => B ≤ q)) args s 0 0 (fun q => B ≤ q) := ⟨_, rfl⟩
  rw [← hQ]
  have ne0_1 : md ≠ ab := mp_ne hm hab (by simp)
  have ne0_2 : md ≠ av := mp_ne hm hav (by simp)
  have hP : mw G.1 vwCl B (mu (mu (mu μ md (.inr (7, [.int (nI fl), .ref ab, .ref av, .int (nI st), .ref c1, .ref c2, .ref c3, .ref c4, .ref c5, .ref c6, .ref c7, .ref c8, .ref c9]))) ab (.inl (G.2 0, 3744, .inr (.inl f)))) av (.inl (G.2 2, 26, .inl v))) s.heap := mw_eq ((congrArg (fun z => mu z av (.inl (G.2 2, 26, .inl v))) ((congrArg (fun z => mu z ab (.inl (G.2 0, 3744, .inr (.inl f)))) (mu_i hm)).trans (mu_i hab))).trans (mu_i hav)).symm hP
  have hl := lv_entry ([.ref md, .int x9, .int y9, .int z9]) (n := 4) (Nat.le_of_ble_eq_true rfl)
  have he9 : entryFrame m args 4 = entryFrame m ([.ref md, .int x9, .int y9, .int z9] : List Value).toArray 4 := by rw [hargs]
  rw [he9, lg_entry_eq]
  generalize (lg_sl ([.ref md, .int x9, .int y9, .int z9]) ++ List.replicate (4 - (lg_sl ([.ref md, .int x9, .int y9, .int z9])).length) Slot.unset).toArray = ls at hl ⊢
  have hl : lv_has ls 4 [(0, .ref md), (1, .int x9), (2, .int y9), (3, .int z9)] := hl
  refine lv_aload_n hx hb dX7_widen_0 rfl (lv_at hl 0 rfl) ?_
  refine lv_iload_n hx hb dX7_widen_1 rfl (lv_at hl 1 rfl) ?_
  refine lv_iload_n hx hb dX7_widen_2 rfl (lv_at hl 2 rfl) ?_
  refine lv_iload_n hx hb dX7_widen_3 rfl (lv_at hl 3 rfl) ?_
  refine kc_i (va_runS (As := [.int x9, .int y9, .int z9]) (rest := [.ref md]) ⟨hx, hb, hml, hown, hts⟩ (c_X7_areSlots l G B (mu (mu (mu μ md (.inr (7, [.int (nI fl), .ref ab, .ref av, .int (nI st), .ref c1, .ref c2, .ref c3, .ref c4, .ref c5, .ref c6, .ref c7, .ref c8, .ref c9]))) ab (.inl (G.2 0, 3744, .inr (.inl f)))) av (.inl (G.2 2, 26, .inl v))) x9 y9 z9) (va_cwS 3 hts gX7_widen_X7_areSlots rfl rfl rfl (by decide +kernel) ⟨Nat.le_of_ble_eq_true rfl, Nat.le_of_ble_eq_true rfl⟩) ⟨KW.blind, fun U9 hU9 hW9 => ⟨rfl, KW.pre hBs hKK hS hP U9 hU9 hW9⟩⟩ rfl rfl hl.1 rfl (lv_room (Nat.le_of_ble_eq_true rfl)) dX7_widen_4 ⟨(Nat.le_of_ble_eq_true rfl), (Nat.le_of_ble_eq_true rfl)⟩) hS (fun r4 m4 H locs hq9 hP hz9 hS => ?_)
  obtain ⟨he9, hy4⟩ := hq9
  rw [he9] at hP
  refine lv_if_eq (tgt := 14) hx hb dX7_widen_7 (by decide) (fun hc7 => ?_) (fun hc7 => ?_)
  · refine lv_iconst (v := nI 1) hx hb dX7_widen_14 (by decide) ?_
    refine kc_i (va_runV (As := [.int (nI 1)]) (rest := []) ⟨hx, hb, hml, hown, hts⟩ (c_X7_refused l G B (mu (mu (mu μ md (.inr (7, [.int (nI fl), .ref ab, .ref av, .int (nI st), .ref c1, .ref c2, .ref c3, .ref c4, .ref c5, .ref c6, .ref c7, .ref c8, .ref c9]))) ab (.inl (G.2 0, 3744, .inr (.inl f)))) av (.inl (G.2 2, 26, .inl v))) md ab av c1 c2 c3 c4 c5 c6 c7 c8 c9 fl st f v 1 ((mu_n ne0_2).trans ((mu_n ne0_1).trans (mu_s _ _ _))) ((mu_n ((mp_ne hab hav (by simp)))).trans (mu_s _ _ _)) (mu_s _ _ _) (by omega)) (cwV 1 hts gX7_widen_X7_refused rfl rfl rfl (by decide +kernel) ⟨Nat.le_of_ble_eq_true rfl, Nat.le_of_ble_eq_true rfl⟩) ⟨KW.blind, hP.recv hK rfl ((mu_n ne0_2).trans ((mu_n ne0_1).trans (mu_s _ _ _))), fun U9 hU9 hW9 => ⟨rfl, KW.pre hBs hKK hS hP U9 hU9 hW9⟩⟩ rfl rfl hl.1 rfl (lv_room (Nat.le_of_ble_eq_true rfl)) dX7_widen_15 ⟨(Nat.le_of_ble_eq_true rfl), (Nat.le_of_ble_eq_true rfl)⟩) hS (fun r15 m15 H locs hq9 hP hz9 hS => ?_)
    obtain ⟨he9, hw0, hw1⟩ := hq9
    rw [he9] at hP
    have hP : mw G.1 vwCl B (mu (mu (mu μ md (.inr (7, [.int (nI 1), .ref ab, .ref av, .int (nI st), .ref c1, .ref c2, .ref c3, .ref c4, .ref c5, .ref c6, .ref c7, .ref c8, .ref c9]))) ab (.inl (G.2 0, 3744, .inr (.inl f)))) av (.inl (G.2 2, 26, .inl v))) _ := mw_eq ((mu_c _ _ ((Ne.symm ne0_2))).trans (congrArg (fun z => mu z av (.inl (G.2 2, 26, .inl v))) ((mu_c _ _ ((Ne.symm ne0_1))).trans (congrArg (fun z => mu z ab (.inl (G.2 0, 3744, .inr (.inl f)))) (mu_u _ _ _ _))))) hP
    obtain rfl : r15 = nI 1 := hw1 (by decide)
    refine lv_if_ne (tgt := 34) hx hb dX7_widen_18 (by decide) (fun hc18 => ?_) (fun hc18 => ?_)
    · rw [hQ]
      exact W.vret hx hb hr (fun t99 ht99 hW99 => ⟨⟨mu (mu (mu μ md (.inr (7, [.int (nI 1), .ref ab, .ref av, .int (nI st), .ref c1, .ref c2, .ref c3, .ref c4, .ref c5, .ref c6, .ref c7, .ref c8, .ref c9]))) ab (.inl (G.2 0, 3744, .inr (.inl f)))) av (.inl (G.2 2, 26, .inl v)), rfl, (⟨_, _, _, rfl, Or.inr ⟨rfl, fun h9 => by first | exact yn_f hy4 hc7 h9⟩⟩), by show mw _ _ _ _ t99.heap; rw [ht99]; exact hP⟩, hS.F ht99⟩) hS.2.2 dX7_widen_34
    · exact absurd hc18 (by decide)
  · refine lv_iconst (v := nI 0) hx hb dX7_widen_10 (by decide) ?_
    refine lv_goto (tgt := 15) hx hb dX7_widen_11 (by decide) ?_
    refine kc_i (va_runV (As := [.int (nI 0)]) (rest := []) ⟨hx, hb, hml, hown, hts⟩ (c_X7_refused l G B (mu (mu (mu μ md (.inr (7, [.int (nI fl), .ref ab, .ref av, .int (nI st), .ref c1, .ref c2, .ref c3, .ref c4, .ref c5, .ref c6, .ref c7, .ref c8, .ref c9]))) ab (.inl (G.2 0, 3744, .inr (.inl f)))) av (.inl (G.2 2, 26, .inl v))) md ab av c1 c2 c3 c4 c5 c6 c7 c8 c9 fl st f v 0 ((mu_n ne0_2).trans ((mu_n ne0_1).trans (mu_s _ _ _))) ((mu_n ((mp_ne hab hav (by simp)))).trans (mu_s _ _ _)) (mu_s _ _ _) (by omega)) (cwV 1 hts gX7_widen_X7_refused rfl rfl rfl (by decide +kernel) ⟨Nat.le_of_ble_eq_true rfl, Nat.le_of_ble_eq_true rfl⟩) ⟨KW.blind, hP.recv hK rfl ((mu_n ne0_2).trans ((mu_n ne0_1).trans (mu_s _ _ _))), fun U9 hU9 hW9 => ⟨rfl, KW.pre hBs hKK hS hP U9 hU9 hW9⟩⟩ rfl rfl hl.1 rfl (lv_room (Nat.le_of_ble_eq_true rfl)) dX7_widen_15 ⟨(Nat.le_of_ble_eq_true rfl), (Nat.le_of_ble_eq_true rfl)⟩) hS (fun r15 m15 H locs hq9 hP hz9 hS => ?_)
    obtain ⟨he9, hw0, hw1⟩ := hq9
    rw [he9] at hP
    have hP : mw G.1 vwCl B (mu (mu (mu μ md (.inr (7, [.int (nI 0), .ref ab, .ref av, .int (nI st), .ref c1, .ref c2, .ref c3, .ref c4, .ref c5, .ref c6, .ref c7, .ref c8, .ref c9]))) ab (.inl (G.2 0, 3744, .inr (.inl f)))) av (.inl (G.2 2, 26, .inl v))) _ := mw_eq ((mu_c _ _ ((Ne.symm ne0_2))).trans (congrArg (fun z => mu z av (.inl (G.2 2, 26, .inl v))) ((mu_c _ _ ((Ne.symm ne0_1))).trans (congrArg (fun z => mu z ab (.inl (G.2 0, 3744, .inr (.inl f)))) (mu_u _ _ _ _))))) hP
    obtain rfl : r15 = nI 0 := hw0 rfl
    refine lv_if_ne (tgt := 34) hx hb dX7_widen_18 (by decide) (fun hc18 => ?_) (fun hc18 => ?_)
    · exact absurd rfl hc18
    · have hok : okS x9 ∧ okS y9 ∧ okS z9 := yn_t hy4 hc7
      obtain ⟨nx9, hnx9, enx9⟩ := ok_nat (n := 6) (by decide) hok.1
      subst enx9
      obtain ⟨ny9, hny9, eny9⟩ := ok_nat (n := 6) (by decide) hok.2.1
      subst eny9
      obtain ⟨nz9, hnz9, enz9⟩ := ok_nat (n := 6) (by decide) hok.2.2
      subst enz9
      refine lv_aload_n hx hb dX7_widen_21 rfl (lv_at hl 0 rfl) ?_
      refine lv_iload_n hx hb dX7_widen_22 rfl (lv_at hl 2 rfl) ?_
      refine lv_iload_n hx hb dX7_widen_23 rfl (lv_at hl 3 rfl) ?_
      refine kc_v (va_runV (As := [.int (nI ny9), .int (nI nz9)]) (rest := []) ⟨hx, hb, hml, hown, hts⟩ (c_X7_widened l G B (mu (mu (mu μ md (.inr (7, [.int (nI 0), .ref ab, .ref av, .int (nI st), .ref c1, .ref c2, .ref c3, .ref c4, .ref c5, .ref c6, .ref c7, .ref c8, .ref c9]))) ab (.inl (G.2 0, 3744, .inr (.inl f)))) av (.inl (G.2 2, 26, .inl v))) md ab av c1 c2 c3 c4 c5 c6 c7 c8 c9 0 st f v ny9 nz9 ((mu_n ne0_2).trans ((mu_n ne0_1).trans (mu_s _ _ _))) ((mu_n ((mp_ne hab hav (by simp)))).trans (mu_s _ _ _)) (mu_s _ _ _) (by omega) (by omega) (hNM)) (cwV 2 hts gX7_widen_X7_widened rfl rfl rfl (by decide +kernel) ⟨Nat.le_of_ble_eq_true rfl, Nat.le_of_ble_eq_true rfl⟩) ⟨KW.blind, hP.recv hK rfl ((mu_n ne0_2).trans ((mu_n ne0_1).trans (mu_s _ _ _))), fun U9 hU9 hW9 => ⟨rfl, KW.pre hBs hKK hS hP U9 hU9 hW9⟩⟩ rfl rfl hl.1 rfl (lv_room (Nat.le_of_ble_eq_true rfl)) dX7_widen_24 ⟨(Nat.le_of_ble_eq_true rfl), (Nat.le_of_ble_eq_true rfl)⟩) hS (fun m24 H locs hq9 hP hz9 hS => ?_)
      obtain ⟨g24, w24, rfl, hw24⟩ := hq9
      have hP : mw G.1 vwCl B (mu (mu (mu μ md (.inr (7, [.int (nI 0), .ref ab, .ref av, .int (nI st), .ref c1, .ref c2, .ref c3, .ref c4, .ref c5, .ref c6, .ref c7, .ref c8, .ref c9]))) ab (.inl (G.2 0, 3744, .inr (.inl g24)))) av (.inl (G.2 2, 26, .inl w24))) _ := mw_eq ((congrArg (fun z => mu z av (.inl (G.2 2, 26, .inl w24))) ((mu_c _ _ ((mp_ne hav hab (by simp)))).trans (congrArg (fun z => mu z av (.inl (G.2 2, 26, .inl v))) (mu_u _ _ _ _)))).trans (mu_u _ _ _ _)) hP
      refine lv_aload_n hx hb dX7_widen_27 rfl (lv_at hl 0 rfl) ?_
      refine lv_iload_n hx hb dX7_widen_28 rfl (lv_at hl 1 rfl) ?_
      refine lv_bipush (v := nI 23) hx hb dX7_widen_29 (by decide) ?_
      refine kc_v (va_runV (As := [.int (nI nx9), .int (nI 23)]) (rest := []) ⟨hx, hb, hml, hown, hts⟩ (c_X7_load l G B (mu (mu (mu μ md (.inr (7, [.int (nI 0), .ref ab, .ref av, .int (nI st), .ref c1, .ref c2, .ref c3, .ref c4, .ref c5, .ref c6, .ref c7, .ref c8, .ref c9]))) ab (.inl (G.2 0, 3744, .inr (.inl g24)))) av (.inl (G.2 2, 26, .inl w24))) md ab av c1 c2 c3 c4 c5 c6 c7 c8 c9 0 st g24 w24 nx9 23 ((mu_n ne0_2).trans ((mu_n ne0_1).trans (mu_s _ _ _))) ((mu_n ((mp_ne hab hav (by simp)))).trans (mu_s _ _ _)) (mu_s _ _ _) (by omega) (by omega) (hw24 23)) (cwV 2 hts gX7_widen_X7_load rfl rfl rfl (by decide +kernel) ⟨Nat.le_of_ble_eq_true rfl, Nat.le_of_ble_eq_true rfl⟩) ⟨KW.blind, hP.recv hK rfl ((mu_n ne0_2).trans ((mu_n ne0_1).trans (mu_s _ _ _))), fun U9 hU9 hW9 => ⟨rfl, KW.pre hBs hKK hS hP U9 hU9 hW9⟩⟩ rfl rfl hl.1 rfl (lv_room (Nat.le_of_ble_eq_true rfl)) dX7_widen_31 ⟨(Nat.le_of_ble_eq_true rfl), (Nat.le_of_ble_eq_true rfl)⟩) hS (fun m31 H locs hq9 hP hz9 hS => ?_)
      obtain ⟨g31, rfl, hL31⟩ := hq9
      have hP : mw G.1 vwCl B (mu (mu (mu μ md (.inr (7, [.int (nI 0), .ref ab, .ref av, .int (nI st), .ref c1, .ref c2, .ref c3, .ref c4, .ref c5, .ref c6, .ref c7, .ref c8, .ref c9]))) ab (.inl (G.2 0, 3744, .inr (.inl g31)))) av (.inl (G.2 2, 26, .inl (upd w24 nx9 (w24 23))))) _ := mw_eq ((congrArg (fun z => mu z av (.inl (G.2 2, 26, .inl (upd w24 nx9 (w24 23))))) ((mu_c _ _ ((mp_ne hav hab (by simp)))).trans (congrArg (fun z => mu z av (.inl (G.2 2, 26, .inl w24))) (mu_u _ _ _ _)))).trans (mu_u _ _ _ _)) hP
      rw [hQ]
      exact W.vret hx hb hr (fun t99 ht99 hW99 => ⟨⟨mu (mu (mu μ md (.inr (7, [.int (nI 0), .ref ab, .ref av, .int (nI st), .ref c1, .ref c2, .ref c3, .ref c4, .ref c5, .ref c6, .ref c7, .ref c8, .ref c9]))) ab (.inl (G.2 0, 3744, .inr (.inl g31)))) av (.inl (G.2 2, 26, .inl (upd w24 nx9 (w24 23)))), rfl, (⟨_, _, _, rfl, Or.inl ⟨rfl, hok⟩⟩), by show mw _ _ _ _ t99.heap; rw [ht99]; exact hP⟩, hS.F ht99⟩) hS.2.2 dX7_widen_34

abbrev rm_X7_meet : Room := { frames := 3, cells := 0, slots := 0, locals := 79 }
set_option maxHeartbeats 4000000 in
set_option maxRecDepth 100000 in
theorem c_X7_meet (l : Launch) (G : GG) (B : Nat) (μ : mp) (md ab av c1 c2 c3 c4 c5 c6 c7 c8 c9 fl st : Nat) (f : Nat → Int64) (v : Nat → Int32) (x9 y9 z9 : Int32) (hm : μ md = some (.inr (7, [.int (nI fl), .ref ab, .ref av, .int (nI st), .ref c1, .ref c2, .ref c3, .ref c4, .ref c5, .ref c6, .ref c7, .ref c8, .ref c9]))) (hab : μ ab = some (.inl (G.2 0, 3744, .inr (.inl f)))) (hav : μ av = some (.inl (G.2 2, 26, .inl v))) (hNM : NM f v) : Met l yX7_meet wsX7_meet rm_X7_meet (va_Pc [.ref md, .int x9, .int y9, .int z9] (KW G B μ)) (va_Qi (fun r μ2 => ∃ (fl9 : Nat) (g9 : Nat → Int64) (w9 : Nat → Int32), μ2 = mu (mu (mu μ md (.inr (7, [.int (nI fl9), .ref ab, .ref av, .int (nI st), .ref c1, .ref c2, .ref c3, .ref c4, .ref c5, .ref c6, .ref c7, .ref c8, .ref c9]))) ab (.inl (G.2 0, 3744, .inr (.inl g9)))) av (.inl (G.2 2, 26, .inl w9)) ∧ ((fl9 = 0 ∧ (okS x9 ∧ okS y9 ∧ okS z9) ∧ r = 1) ∨ (fl9 = 1 ∧ ¬ (okS x9 ∧ okS y9 ∧ okS z9)))) (BB G B) (fun q => B ≤ q)) 0 0 (fun q => B ≤ q) := by
  refine Met.ofW (cc := cX7_meet) (maxL := 7) (ret := (some .boolean)) (by decide) rfl ?_
  intro p e s m args below meth c s₁ B9 hml hv
  obtain ⟨hargs, hBs, hP, hKK⟩ := hv
  have hx := B9.exec
  have hb := B9.bytes
  have hr := B9.returns
  have hts := atoms_spec (ws := wsX7_meet) B9.pre
  have hown : s.vm.findClass RX7 = some m.cls := findClass_of_methodNamed B9.named
  have hlocks := B9.notSynchronized
  have hK := hKK.k
  have hS : va_S (fun q => B ≤ q) s.heap s.heap [] := va_S.rf
  obtain ⟨Q, hQ⟩ : ∃ Q, Q = MQ below (va_Qi (fun r μ2 => ∃ (fl9 : Nat) (g9 : Nat → Int64) (w9 : Nat → Int32), μ2 = mu (mu (mu μ md (.inr (7, [.int (nI fl9), .ref ab, .ref av, .int (nI st), .ref c1, .ref c2, .ref c3, .ref c4, .ref c5, .ref c6, .ref c7, .ref c8, .ref c9]))) ab (.inl (G.2 0, 3744, .inr (.inl g9)))) av (.inl (G.2 2, 26, .inl w9)) ∧ ((fl9 = 0 ∧ (okS x9 ∧ okS y9 ∧ okS z9) ∧ r = 1) ∨ (fl9 = 1 ∧ ¬ (okS x9 ∧ okS y9 ∧ okS z9)))) (BB G B) (fun q => B ≤ q)) args s 0 0 (fun q => B ≤ q) := ⟨_, rfl⟩
  rw [← hQ]
  have ne0_1 : md ≠ ab := mp_ne hm hab (by simp)
  have ne0_2 : md ≠ av := mp_ne hm hav (by simp)
  have in_X7_meet_X7 : ∀ w ∈ wsX70, w ∈ wsX7_meet := by decide +kernel
  have hP : mw G.1 vwCl B (mu (mu (mu μ md (.inr (7, [.int (nI fl), .ref ab, .ref av, .int (nI st), .ref c1, .ref c2, .ref c3, .ref c4, .ref c5, .ref c6, .ref c7, .ref c8, .ref c9]))) ab (.inl (G.2 0, 3744, .inr (.inl f)))) av (.inl (G.2 2, 26, .inl v))) s.heap := mw_eq ((congrArg (fun z => mu z av (.inl (G.2 2, 26, .inl v))) ((congrArg (fun z => mu z ab (.inl (G.2 0, 3744, .inr (.inl f)))) (mu_i hm)).trans (mu_i hab))).trans (mu_i hav)).symm hP
  have L33 : ∀ (N33 : Nat) (k1 : Nat) (n0 : Nat) (n1 : Nat) (n2 : Nat) (g1 : Nat → Int64) (hN33 : 144 - k1 < N33) (hk1 : k1 ≤ 144) (hn0 : n0 < 6) (hn1 : n1 < 6) (hn2 : n2 < 6) (hok : okS x9 ∧ okS y9 ∧ okS z9) (hA : AA g1), ∀ (H : Heap) (locs : List Loc), mw G.1 vwCl B (mu (mu (mu μ md (.inr (7, [.int (nI 0), .ref ab, .ref av, .int (nI st), .ref c1, .ref c2, .ref c3, .ref c4, .ref c5, .ref c6, .ref c7, .ref c8, .ref c9]))) ab (.inl (G.2 0, 3744, .inr (.inl g1)))) av (.inl (G.2 2, 26, .inl (upd v 22 (v n1))))) H → va_S (fun q => B ≤ q) s.heap H locs → ∀ ls : Array Slot, lv_has ls 7 [(0, .ref md), (1, .int (nI n0)), (2, .int (nI n1)), (3, .int (nI n2)), (4, .int (nI k1))] → W p l e rm_X7_meet s m args below meth c H locs 0 0 Q (F0 m 33 ls []) := by
    intro N33
    induction N33 with
    | zero => intro k1 n0 n1 n2 g1 hN33; exact absurd hN33 (Nat.not_lt_zero _)
    | succ N33 ih33 =>
      intro k1 n0 n1 n2 g1 hN33 hk1 hn0 hn1 hn2 hok hA H locs hP hS ls hl
      refine lv_iload hx hb dX7_meet_33 (lv_at hl 4 rfl) ?_
      refine lv_sipush (v := nI 144) hx hb dX7_meet_35 (by decide) ?_
      refine nv_icmp_ge (tgt := 106) hx hb (by omega) (by omega) dX7_meet_38 (by decide) (fun hc38 => ?_) (fun hc38 => ?_)
      · refine lv_aload_n hx hb dX7_meet_106 rfl (lv_at hl 0 rfl) ?_
        refine mw_get (C := RX7) (T := TX7) (N := 13) hx hb hts in_X7_meet_X7 hown hK hP ((mu_n ne0_2).trans ((mu_n ne0_1).trans (mu_s _ _ _))) rfl 2 (by decide) (hts (.fieldLink RX7 13 "OctagonDeskModel" "isVoid" "[Z") (by decide +kernel)) (fun _ h9 => h9) rfl dX7_meet_107 ?_
        refine lv_bipush (v := nI 22) hx hb dX7_meet_110 (by decide) ?_
        refine lv_aload_n hx hb dX7_meet_112 rfl (lv_at hl 0 rfl) ?_
        refine mw_get (C := RX7) (T := TX7) (N := 13) hx hb hts in_X7_meet_X7 hown hK hP ((mu_n ne0_2).trans ((mu_n ne0_1).trans (mu_s _ _ _))) rfl 2 (by decide) (hts (.fieldLink RX7 13 "OctagonDeskModel" "isVoid" "[Z") (by decide +kernel)) (fun _ h9 => h9) rfl dX7_meet_113 ?_
        refine lv_iload_n hx hb dX7_meet_116 rfl (lv_at hl 2 rfl) ?_
        refine mw_zald hx hb hK hP 2 (mu_s _ _ _) rfl (by omega) (by omega) dX7_meet_117 ?_
        refine lv_if_ne (tgt := 130) hx hb dX7_meet_118 (by decide) (fun hc118 => ?_) (fun hc118 => ?_)
        · exact absurd (by rw [upd_n (by omega)]; exact hNM.2.1 n1 (by omega)) hc118
        · refine lv_aload_n hx hb dX7_meet_121 rfl (lv_at hl 0 rfl) ?_
          refine mw_get (C := RX7) (T := TX7) (N := 13) hx hb hts in_X7_meet_X7 hown hK hP ((mu_n ne0_2).trans ((mu_n ne0_1).trans (mu_s _ _ _))) rfl 2 (by decide) (hts (.fieldLink RX7 13 "OctagonDeskModel" "isVoid" "[Z") (by decide +kernel)) (fun _ h9 => h9) rfl dX7_meet_122 ?_
          refine lv_iload_n hx hb dX7_meet_125 rfl (lv_at hl 3 rfl) ?_
          refine mw_zald hx hb hK hP 2 (mu_s _ _ _) rfl (by omega) (by omega) dX7_meet_126 ?_
          refine lv_if_eq (tgt := 134) hx hb dX7_meet_127 (by decide) (fun hc127 => ?_) (fun hc127 => ?_)
          · refine lv_iconst (v := nI 0) hx hb dX7_meet_134 (by decide) ?_
            refine mw_zast hx hb hK hP hS 2 (mu_s _ _ _) rfl (by decide) (by omega) (by omega) dX7_meet_135 (fun H locs hP hS => ?_)
            have hP : mw G.1 vwCl B (mu (mu (mu μ md (.inr (7, [.int (nI 0), .ref ab, .ref av, .int (nI st), .ref c1, .ref c2, .ref c3, .ref c4, .ref c5, .ref c6, .ref c7, .ref c8, .ref c9]))) ab (.inl (G.2 0, 3744, .inr (.inl g1)))) av (.inl (G.2 2, 26, .inl (upd (upd v 22 (v n1)) 22 (nI 0))))) _ := mw_eq (mu_u _ _ _ _) hP
            refine lv_aload_n hx hb dX7_meet_136 rfl (lv_at hl 0 rfl) ?_
            refine lv_bipush (v := nI 22) hx hb dX7_meet_137 (by decide) ?_
            refine kc_v (va_runV (As := [.int (nI 22)]) (rest := []) ⟨hx, hb, hml, hown, hts⟩ (c_X7_close_n l G B (mu (mu (mu μ md (.inr (7, [.int (nI 0), .ref ab, .ref av, .int (nI st), .ref c1, .ref c2, .ref c3, .ref c4, .ref c5, .ref c6, .ref c7, .ref c8, .ref c9]))) ab (.inl (G.2 0, 3744, .inr (.inl g1)))) av (.inl (G.2 2, 26, .inl (upd (upd v 22 (v n1)) 22 (nI 0))))) md ab av c1 c2 c3 c4 c5 c6 c7 c8 c9 0 st g1 (upd (upd v 22 (v n1)) 22 (nI 0)) 22 ((mu_n ne0_2).trans ((mu_n ne0_1).trans (mu_s _ _ _))) ((mu_n ((mp_ne hab hav (by simp)))).trans (mu_s _ _ _)) (mu_s _ _ _) (by omega) (by rw [upd_s]; rfl) (CC.ai (hA 22 (by omega)))) (cwV 1 hts gX7_meet_X7_close rfl rfl rfl (by decide +kernel) ⟨Nat.le_of_ble_eq_true rfl, Nat.le_of_ble_eq_true rfl⟩) ⟨KW.blind, hP.recv hK rfl ((mu_n ne0_2).trans ((mu_n ne0_1).trans (mu_s _ _ _))), fun U9 hU9 hW9 => ⟨rfl, KW.pre hBs hKK hS hP U9 hU9 hW9⟩⟩ rfl rfl hl.1 rfl (lv_room (Nat.le_of_ble_eq_true rfl)) dX7_meet_139 ⟨(Nat.le_of_ble_eq_true rfl), (Nat.le_of_ble_eq_true rfl)⟩) hS (fun m139 H locs hq9 hP hz9 hS => ?_)
            rw [hq9] at hP
            refine lv_aload_n hx hb dX7_meet_142 rfl (lv_at hl 0 rfl) ?_
            refine lv_iload_n hx hb dX7_meet_143 rfl (lv_at hl 1 rfl) ?_
            refine lv_bipush (v := nI 22) hx hb dX7_meet_144 (by decide) ?_
            refine kc_v (va_runV (As := [.int (nI n0), .int (nI 22)]) (rest := []) ⟨hx, hb, hml, hown, hts⟩ (c_X7_load l G B (mu (mu (mu μ md (.inr (7, [.int (nI 0), .ref ab, .ref av, .int (nI st), .ref c1, .ref c2, .ref c3, .ref c4, .ref c5, .ref c6, .ref c7, .ref c8, .ref c9]))) ab (.inl (G.2 0, 3744, .inr (.inl g1)))) av (.inl (G.2 2, 26, .inl (upd (upd v 22 (v n1)) 22 (nI 0))))) md ab av c1 c2 c3 c4 c5 c6 c7 c8 c9 0 st g1 (upd (upd v 22 (v n1)) 22 (nI 0)) n0 22 ((mu_n ne0_2).trans ((mu_n ne0_1).trans (mu_s _ _ _))) ((mu_n ((mp_ne hab hav (by simp)))).trans (mu_s _ _ _)) (mu_s _ _ _) (by omega) (by omega) ((VB.u (VB.u hNM.2.2.2 (hNM.2.2.2 n1)) (Or.inl rfl)) 22)) (cwV 2 hts gX7_meet_X7_load rfl rfl rfl (by decide +kernel) ⟨Nat.le_of_ble_eq_true rfl, Nat.le_of_ble_eq_true rfl⟩) ⟨KW.blind, hP.recv hK rfl ((mu_n ne0_2).trans ((mu_n ne0_1).trans (mu_s _ _ _))), fun U9 hU9 hW9 => ⟨rfl, KW.pre hBs hKK hS hP U9 hU9 hW9⟩⟩ rfl rfl hl.1 rfl (lv_room (Nat.le_of_ble_eq_true rfl)) dX7_meet_146 ⟨(Nat.le_of_ble_eq_true rfl), (Nat.le_of_ble_eq_true rfl)⟩) hS (fun m146 H locs hq9 hP hz9 hS => ?_)
            obtain ⟨g146, rfl, hL146⟩ := hq9
            have hP : mw G.1 vwCl B (mu (mu (mu μ md (.inr (7, [.int (nI 0), .ref ab, .ref av, .int (nI st), .ref c1, .ref c2, .ref c3, .ref c4, .ref c5, .ref c6, .ref c7, .ref c8, .ref c9]))) ab (.inl (G.2 0, 3744, .inr (.inl g146)))) av (.inl (G.2 2, 26, .inl (upd (upd (upd v 22 (v n1)) 22 (nI 0)) n0 ((upd (upd v 22 (v n1)) 22 (nI 0)) 22))))) _ := mw_eq ((congrArg (fun z => mu z av (.inl (G.2 2, 26, .inl (upd (upd (upd v 22 (v n1)) 22 (nI 0)) n0 ((upd (upd v 22 (v n1)) 22 (nI 0)) 22))))) ((mu_c _ _ ((mp_ne hav hab (by simp)))).trans (congrArg (fun z => mu z av (.inl (G.2 2, 26, .inl (upd (upd v 22 (v n1)) 22 (nI 0))))) (mu_u _ _ _ _)))).trans (mu_u _ _ _ _)) hP
            refine lv_aload_n hx hb dX7_meet_149 rfl (lv_at hl 0 rfl) ?_
            refine mw_get (C := RX7) (T := TX7) (N := 13) hx hb hts in_X7_meet_X7 hown hK hP ((mu_n ne0_2).trans ((mu_n ne0_1).trans (mu_s _ _ _))) rfl 2 (by decide) (hts (.fieldLink RX7 13 "OctagonDeskModel" "isVoid" "[Z") (by decide +kernel)) (fun _ h9 => h9) rfl dX7_meet_150 ?_
            refine lv_iload_n hx hb dX7_meet_153 rfl (lv_at hl 1 rfl) ?_
            refine mw_zald hx hb hK hP 2 (mu_s _ _ _) rfl (by omega) (by omega) dX7_meet_154 ?_
            refine lv_if_ne (tgt := 162) hx hb dX7_meet_155 (by decide) (fun hc155 => ?_) (fun hc155 => ?_)
            · exact absurd (by rw [upd_s, upd_s]; rfl) hc155
            · refine lv_iconst (v := nI 1) hx hb dX7_meet_158 (by decide) ?_
              refine lv_goto (tgt := 163) hx hb dX7_meet_159 (by decide) ?_
              rw [hQ]
              exact W.zret (v := nI 1) (ty := .boolean) hx hb hr (by first | rfl | decide) (fun t99 ht99 hW99 => ⟨⟨nI 1, mu (mu (mu μ md (.inr (7, [.int (nI 0), .ref ab, .ref av, .int (nI st), .ref c1, .ref c2, .ref c3, .ref c4, .ref c5, .ref c6, .ref c7, .ref c8, .ref c9]))) ab (.inl (G.2 0, 3744, .inr (.inl g146)))) av (.inl (G.2 2, 26, .inl (upd (upd (upd v 22 (v n1)) 22 (nI 0)) n0 ((upd (upd v 22 (v n1)) 22 (nI 0)) 22)))), rfl, (⟨_, _, _, rfl, Or.inl ⟨rfl, hok, rfl⟩⟩), by show mw _ _ _ _ t99.heap; rw [ht99]; exact hP⟩, hS.F ht99⟩) hS.2.2 dX7_meet_163
          · exact absurd (by rw [upd_n (by omega)]; exact hNM.2.1 n2 (by omega)) hc127
      · refine lv_aload_n hx hb dX7_meet_41 rfl (lv_at hl 0 rfl) ?_
        refine mw_get (C := RX7) (T := TX7) (N := 13) hx hb hts in_X7_meet_X7 hown hK hP ((mu_n ne0_2).trans ((mu_n ne0_1).trans (mu_s _ _ _))) rfl 1 (by decide) (hts (.fieldLink RX7 7 "OctagonDeskModel" "bound" "[J") (by decide +kernel)) (fun _ h9 => h9) rfl dX7_meet_42 ?_
        refine lv_sipush (v := nI 144) hx hb dX7_meet_45 (by decide) ?_
        refine lv_iload_n hx hb dX7_meet_48 rfl (lv_at hl 3 rfl) ?_
        refine nv_imul hx hb dX7_meet_49 ?_
        refine lv_iload hx hb dX7_meet_50 (lv_at hl 4 rfl) ?_
        refine nv_iadd hx hb dX7_meet_52 ?_
        refine mw_lald hx hb hK hP 0 ((mu_n ((mp_ne hab hav (by simp)))).trans (mu_s _ _ _)) rfl (by omega) (by omega) dX7_meet_53 ?_
        refine lv_topl (fun v54 ev54 => ?_)
        refine lv_lstore (lv' := [(5, .long v54), (0, .ref md), (1, .int (nI n0)), (2, .int (nI n1)), (3, .int (nI n2)), (4, .int (nI k1))]) hx hb dX7_meet_54 hl (by decide) rfl (fun ls hl => ?_)
        refine lv_aload_n hx hb dX7_meet_56 rfl (lv_at hl 1 rfl) ?_
        refine mw_get (C := RX7) (T := TX7) (N := 13) hx hb hts in_X7_meet_X7 hown hK hP ((mu_n ne0_2).trans ((mu_n ne0_1).trans (mu_s _ _ _))) rfl 1 (by decide) (hts (.fieldLink RX7 7 "OctagonDeskModel" "bound" "[J") (by decide +kernel)) (fun _ h9 => h9) rfl dX7_meet_57 ?_
        refine lv_sipush (v := nI 3168) hx hb dX7_meet_60 (by decide) ?_
        refine lv_iload hx hb dX7_meet_63 (lv_at hl 5 rfl) ?_
        refine nv_iadd hx hb dX7_meet_65 ?_
        refine lv_lload hx hb dX7_meet_66 (lv_at hl 0 rfl) ?_
        refine lv_aload_n hx hb dX7_meet_68 rfl (lv_at hl 1 rfl) ?_
        refine mw_get (C := RX7) (T := TX7) (N := 13) hx hb hts in_X7_meet_X7 hown hK hP ((mu_n ne0_2).trans ((mu_n ne0_1).trans (mu_s _ _ _))) rfl 1 (by decide) (hts (.fieldLink RX7 7 "OctagonDeskModel" "bound" "[J") (by decide +kernel)) (fun _ h9 => h9) rfl dX7_meet_69 ?_
        refine lv_sipush (v := nI 3168) hx hb dX7_meet_72 (by decide) ?_
        refine lv_iload hx hb dX7_meet_75 (lv_at hl 5 rfl) ?_
        refine nv_iadd hx hb dX7_meet_77 ?_
        refine mw_lald hx hb hK hP 0 ((mu_n ((mp_ne hab hav (by simp)))).trans (mu_s _ _ _)) rfl (by omega) (by omega) dX7_meet_78 ?_
        refine nl_if_ge (tgt := 88) hx hb dX7_meet_79 dX7_meet_80 (by decide) (fun hc79 => ?_) (fun hc79 => ?_)
        · refine lv_aload_n hx hb dX7_meet_88 rfl (lv_at hl 1 rfl) ?_
          refine mw_get (C := RX7) (T := TX7) (N := 13) hx hb hts in_X7_meet_X7 hown hK hP ((mu_n ne0_2).trans ((mu_n ne0_1).trans (mu_s _ _ _))) rfl 1 (by decide) (hts (.fieldLink RX7 7 "OctagonDeskModel" "bound" "[J") (by decide +kernel)) (fun _ h9 => h9) rfl dX7_meet_89 ?_
          refine lv_sipush (v := nI 3168) hx hb dX7_meet_92 (by decide) ?_
          refine lv_iload hx hb dX7_meet_95 (lv_at hl 5 rfl) ?_
          refine nv_iadd hx hb dX7_meet_97 ?_
          refine mw_lald hx hb hK hP 0 ((mu_n ((mp_ne hab hav (by simp)))).trans (mu_s _ _ _)) rfl (by omega) (by omega) dX7_meet_98 ?_
          refine lv_topl (fun v99 ev99 => ?_)
          refine mw_last hx hb hK hP hS 0 ((mu_n ((mp_ne hab hav (by simp)))).trans (mu_s _ _ _)) rfl (by omega) (by omega) dX7_meet_99 (fun H locs hP hS => ?_)
          have hP : mw G.1 vwCl B (mu (mu (mu μ md (.inr (7, [.int (nI 0), .ref ab, .ref av, .int (nI st), .ref c1, .ref c2, .ref c3, .ref c4, .ref c5, .ref c6, .ref c7, .ref c8, .ref c9]))) ab (.inl (G.2 0, 3744, .inr (.inl (vp_updL g1 (3168 + k1) v99))))) av (.inl (G.2 2, 26, .inl (upd v 22 (v n1))))) _ := mw_eq ((mu_c _ _ ((mp_ne hav hab (by simp)))).trans (congrArg (fun z => mu z av (.inl (G.2 2, 26, .inl (upd v 22 (v n1))))) (mu_u _ _ _ _))) hP
          refine lv_iinc (v := nI (k1 + 1)) (lv' := [(4, .int (nI (k1 + 1))), (5, .long v54), (0, .ref md), (1, .int (nI n0)), (2, .int (nI n1)), (3, .int (nI n2))]) hx hb dX7_meet_100 hl (k := 5) rfl (nI_add _ _) (by decide) rfl (fun ls hl => ?_)
          refine lv_goto (tgt := 33) hx hb dX7_meet_103 (by decide) ?_
          exact ih33 (k1 + 1) n0 n1 n2 (vp_updL g1 (3168 + k1) v99) (by omega) (by omega) (by omega) (by omega) (by omega) (hok) (hA.up (by first | rfl | (rw [ev99]; exact hA.x (by omega)) | (rw [ev54]; exact hA.x (by omega)))) _ _ hP hS ls (lv_sub hl [2, 3, 4, 5, 0] rfl)
        · refine lv_lload hx hb dX7_meet_83 (lv_at hl 0 rfl) ?_
          refine lv_goto (tgt := 99) hx hb dX7_meet_85 (by decide) ?_
          refine mw_last hx hb hK hP hS 0 ((mu_n ((mp_ne hab hav (by simp)))).trans (mu_s _ _ _)) rfl (by omega) (by omega) dX7_meet_99 (fun H locs hP hS => ?_)
          have hP : mw G.1 vwCl B (mu (mu (mu μ md (.inr (7, [.int (nI 0), .ref ab, .ref av, .int (nI st), .ref c1, .ref c2, .ref c3, .ref c4, .ref c5, .ref c6, .ref c7, .ref c8, .ref c9]))) ab (.inl (G.2 0, 3744, .inr (.inl (vp_updL g1 (3168 + k1) v54))))) av (.inl (G.2 2, 26, .inl (upd v 22 (v n1))))) _ := mw_eq ((mu_c _ _ ((mp_ne hav hab (by simp)))).trans (congrArg (fun z => mu z av (.inl (G.2 2, 26, .inl (upd v 22 (v n1))))) (mu_u _ _ _ _))) hP
          refine lv_iinc (v := nI (k1 + 1)) (lv' := [(4, .int (nI (k1 + 1))), (5, .long v54), (0, .ref md), (1, .int (nI n0)), (2, .int (nI n1)), (3, .int (nI n2))]) hx hb dX7_meet_100 hl (k := 5) rfl (nI_add _ _) (by decide) rfl (fun ls hl => ?_)
          refine lv_goto (tgt := 33) hx hb dX7_meet_103 (by decide) ?_
          exact ih33 (k1 + 1) n0 n1 n2 (vp_updL g1 (3168 + k1) v54) (by omega) (by omega) (by omega) (by omega) (by omega) (hok) (hA.up (by first | rfl | (rw [ev54]; exact hA.x (by omega)) | (rw [ev54]; exact hA.x (by omega)))) _ _ hP hS ls (lv_sub hl [2, 3, 4, 5, 0] rfl)
  have hl := lv_entry ([.ref md, .int x9, .int y9, .int z9]) (n := 7) (Nat.le_of_ble_eq_true rfl)
  have he9 : entryFrame m args 7 = entryFrame m ([.ref md, .int x9, .int y9, .int z9] : List Value).toArray 7 := by rw [hargs]
  rw [he9, lg_entry_eq]
  generalize (lg_sl ([.ref md, .int x9, .int y9, .int z9]) ++ List.replicate (7 - (lg_sl ([.ref md, .int x9, .int y9, .int z9])).length) Slot.unset).toArray = ls at hl ⊢
  have hl : lv_has ls 7 [(0, .ref md), (1, .int x9), (2, .int y9), (3, .int z9)] := hl
  refine lv_aload_n hx hb dX7_meet_0 rfl (lv_at hl 0 rfl) ?_
  refine lv_iload_n hx hb dX7_meet_1 rfl (lv_at hl 1 rfl) ?_
  refine lv_iload_n hx hb dX7_meet_2 rfl (lv_at hl 2 rfl) ?_
  refine lv_iload_n hx hb dX7_meet_3 rfl (lv_at hl 3 rfl) ?_
  refine kc_i (va_runS (As := [.int x9, .int y9, .int z9]) (rest := [.ref md]) ⟨hx, hb, hml, hown, hts⟩ (c_X7_areSlots l G B (mu (mu (mu μ md (.inr (7, [.int (nI fl), .ref ab, .ref av, .int (nI st), .ref c1, .ref c2, .ref c3, .ref c4, .ref c5, .ref c6, .ref c7, .ref c8, .ref c9]))) ab (.inl (G.2 0, 3744, .inr (.inl f)))) av (.inl (G.2 2, 26, .inl v))) x9 y9 z9) (va_cwS 3 hts gX7_meet_X7_areSlots rfl rfl rfl (by decide +kernel) ⟨Nat.le_of_ble_eq_true rfl, Nat.le_of_ble_eq_true rfl⟩) ⟨KW.blind, fun U9 hU9 hW9 => ⟨rfl, KW.pre hBs hKK hS hP U9 hU9 hW9⟩⟩ rfl rfl hl.1 rfl (lv_room (Nat.le_of_ble_eq_true rfl)) dX7_meet_4 ⟨(Nat.le_of_ble_eq_true rfl), (Nat.le_of_ble_eq_true rfl)⟩) hS (fun r4 m4 H locs hq9 hP hz9 hS => ?_)
  obtain ⟨he9, hy4⟩ := hq9
  rw [he9] at hP
  refine lv_if_eq (tgt := 14) hx hb dX7_meet_7 (by decide) (fun hc7 => ?_) (fun hc7 => ?_)
  · refine lv_iconst (v := nI 1) hx hb dX7_meet_14 (by decide) ?_
    refine kc_i (va_runV (As := [.int (nI 1)]) (rest := []) ⟨hx, hb, hml, hown, hts⟩ (c_X7_refused l G B (mu (mu (mu μ md (.inr (7, [.int (nI fl), .ref ab, .ref av, .int (nI st), .ref c1, .ref c2, .ref c3, .ref c4, .ref c5, .ref c6, .ref c7, .ref c8, .ref c9]))) ab (.inl (G.2 0, 3744, .inr (.inl f)))) av (.inl (G.2 2, 26, .inl v))) md ab av c1 c2 c3 c4 c5 c6 c7 c8 c9 fl st f v 1 ((mu_n ne0_2).trans ((mu_n ne0_1).trans (mu_s _ _ _))) ((mu_n ((mp_ne hab hav (by simp)))).trans (mu_s _ _ _)) (mu_s _ _ _) (by omega)) (cwV 1 hts gX7_meet_X7_refused rfl rfl rfl (by decide +kernel) ⟨Nat.le_of_ble_eq_true rfl, Nat.le_of_ble_eq_true rfl⟩) ⟨KW.blind, hP.recv hK rfl ((mu_n ne0_2).trans ((mu_n ne0_1).trans (mu_s _ _ _))), fun U9 hU9 hW9 => ⟨rfl, KW.pre hBs hKK hS hP U9 hU9 hW9⟩⟩ rfl rfl hl.1 rfl (lv_room (Nat.le_of_ble_eq_true rfl)) dX7_meet_15 ⟨(Nat.le_of_ble_eq_true rfl), (Nat.le_of_ble_eq_true rfl)⟩) hS (fun r15 m15 H locs hq9 hP hz9 hS => ?_)
    obtain ⟨he9, hw0, hw1⟩ := hq9
    rw [he9] at hP
    have hP : mw G.1 vwCl B (mu (mu (mu μ md (.inr (7, [.int (nI 1), .ref ab, .ref av, .int (nI st), .ref c1, .ref c2, .ref c3, .ref c4, .ref c5, .ref c6, .ref c7, .ref c8, .ref c9]))) ab (.inl (G.2 0, 3744, .inr (.inl f)))) av (.inl (G.2 2, 26, .inl v))) _ := mw_eq ((mu_c _ _ ((Ne.symm ne0_2))).trans (congrArg (fun z => mu z av (.inl (G.2 2, 26, .inl v))) ((mu_c _ _ ((Ne.symm ne0_1))).trans (congrArg (fun z => mu z ab (.inl (G.2 0, 3744, .inr (.inl f)))) (mu_u _ _ _ _))))) hP
    obtain rfl : r15 = nI 1 := hw1 (by decide)
    refine lv_if_eq (tgt := 23) hx hb dX7_meet_18 (by decide) (fun hc18 => ?_) (fun hc18 => ?_)
    · exact absurd hc18 (by decide)
    · refine lv_iconst (v := nI 0) hx hb dX7_meet_21 (by decide) ?_
      rw [hQ]
      exact W.zret (v := nI 0) (ty := .boolean) hx hb hr (by first | rfl | decide) (fun t99 ht99 hW99 => ⟨⟨nI 0, mu (mu (mu μ md (.inr (7, [.int (nI 1), .ref ab, .ref av, .int (nI st), .ref c1, .ref c2, .ref c3, .ref c4, .ref c5, .ref c6, .ref c7, .ref c8, .ref c9]))) ab (.inl (G.2 0, 3744, .inr (.inl f)))) av (.inl (G.2 2, 26, .inl v)), rfl, (⟨_, _, _, rfl, Or.inr ⟨rfl, fun h9 => by first | exact yn_f hy4 hc7 h9⟩⟩), by show mw _ _ _ _ t99.heap; rw [ht99]; exact hP⟩, hS.F ht99⟩) hS.2.2 dX7_meet_22
  · refine lv_iconst (v := nI 0) hx hb dX7_meet_10 (by decide) ?_
    refine lv_goto (tgt := 15) hx hb dX7_meet_11 (by decide) ?_
    refine kc_i (va_runV (As := [.int (nI 0)]) (rest := []) ⟨hx, hb, hml, hown, hts⟩ (c_X7_refused l G B (mu (mu (mu μ md (.inr (7, [.int (nI fl), .ref ab, .ref av, .int (nI st), .ref c1, .ref c2, .ref c3, .ref c4, .ref c5, .ref c6, .ref c7, .ref c8, .ref c9]))) ab (.inl (G.2 0, 3744, .inr (.inl f)))) av (.inl (G.2 2, 26, .inl v))) md ab av c1 c2 c3 c4 c5 c6 c7 c8 c9 fl st f v 0 ((mu_n ne0_2).trans ((mu_n ne0_1).trans (mu_s _ _ _))) ((mu_n ((mp_ne hab hav (by simp)))).trans (mu_s _ _ _)) (mu_s _ _ _) (by omega)) (cwV 1 hts gX7_meet_X7_refused rfl rfl rfl (by decide +kernel) ⟨Nat.le_of_ble_eq_true rfl, Nat.le_of_ble_eq_true rfl⟩) ⟨KW.blind, hP.recv hK rfl ((mu_n ne0_2).trans ((mu_n ne0_1).trans (mu_s _ _ _))), fun U9 hU9 hW9 => ⟨rfl, KW.pre hBs hKK hS hP U9 hU9 hW9⟩⟩ rfl rfl hl.1 rfl (lv_room (Nat.le_of_ble_eq_true rfl)) dX7_meet_15 ⟨(Nat.le_of_ble_eq_true rfl), (Nat.le_of_ble_eq_true rfl)⟩) hS (fun r15 m15 H locs hq9 hP hz9 hS => ?_)
    obtain ⟨he9, hw0, hw1⟩ := hq9
    rw [he9] at hP
    have hP : mw G.1 vwCl B (mu (mu (mu μ md (.inr (7, [.int (nI 0), .ref ab, .ref av, .int (nI st), .ref c1, .ref c2, .ref c3, .ref c4, .ref c5, .ref c6, .ref c7, .ref c8, .ref c9]))) ab (.inl (G.2 0, 3744, .inr (.inl f)))) av (.inl (G.2 2, 26, .inl v))) _ := mw_eq ((mu_c _ _ ((Ne.symm ne0_2))).trans (congrArg (fun z => mu z av (.inl (G.2 2, 26, .inl v))) ((mu_c _ _ ((Ne.symm ne0_1))).trans (congrArg (fun z => mu z ab (.inl (G.2 0, 3744, .inr (.inl f)))) (mu_u _ _ _ _))))) hP
    obtain rfl : r15 = nI 0 := hw0 rfl
    refine lv_if_eq (tgt := 23) hx hb dX7_meet_18 (by decide) (fun hc18 => ?_) (fun hc18 => ?_)
    · have hok : okS x9 ∧ okS y9 ∧ okS z9 := yn_t hy4 hc7
      obtain ⟨nx9, hnx9, enx9⟩ := ok_nat (n := 6) (by decide) hok.1
      subst enx9
      obtain ⟨ny9, hny9, eny9⟩ := ok_nat (n := 6) (by decide) hok.2.1
      subst eny9
      obtain ⟨nz9, hnz9, enz9⟩ := ok_nat (n := 6) (by decide) hok.2.2
      subst enz9
      refine lv_aload_n hx hb dX7_meet_23 rfl (lv_at hl 0 rfl) ?_
      refine lv_bipush (v := nI 22) hx hb dX7_meet_24 (by decide) ?_
      refine lv_iload_n hx hb dX7_meet_26 rfl (lv_at hl 2 rfl) ?_
      refine kc_v (va_runV (As := [.int (nI 22), .int (nI ny9)]) (rest := []) ⟨hx, hb, hml, hown, hts⟩ (c_X7_load l G B (mu (mu (mu μ md (.inr (7, [.int (nI 0), .ref ab, .ref av, .int (nI st), .ref c1, .ref c2, .ref c3, .ref c4, .ref c5, .ref c6, .ref c7, .ref c8, .ref c9]))) ab (.inl (G.2 0, 3744, .inr (.inl f)))) av (.inl (G.2 2, 26, .inl v))) md ab av c1 c2 c3 c4 c5 c6 c7 c8 c9 0 st f v 22 ny9 ((mu_n ne0_2).trans ((mu_n ne0_1).trans (mu_s _ _ _))) ((mu_n ((mp_ne hab hav (by simp)))).trans (mu_s _ _ _)) (mu_s _ _ _) (by omega) (by omega) (hNM.2.2.2 ny9)) (cwV 2 hts gX7_meet_X7_load rfl rfl rfl (by decide +kernel) ⟨Nat.le_of_ble_eq_true rfl, Nat.le_of_ble_eq_true rfl⟩) ⟨KW.blind, hP.recv hK rfl ((mu_n ne0_2).trans ((mu_n ne0_1).trans (mu_s _ _ _))), fun U9 hU9 hW9 => ⟨rfl, KW.pre hBs hKK hS hP U9 hU9 hW9⟩⟩ rfl rfl hl.1 rfl (lv_room (Nat.le_of_ble_eq_true rfl)) dX7_meet_27 ⟨(Nat.le_of_ble_eq_true rfl), (Nat.le_of_ble_eq_true rfl)⟩) hS (fun m27 H locs hq9 hP hz9 hS => ?_)
      obtain ⟨g27, rfl, hL27⟩ := hq9
      have hP : mw G.1 vwCl B (mu (mu (mu μ md (.inr (7, [.int (nI 0), .ref ab, .ref av, .int (nI st), .ref c1, .ref c2, .ref c3, .ref c4, .ref c5, .ref c6, .ref c7, .ref c8, .ref c9]))) ab (.inl (G.2 0, 3744, .inr (.inl g27)))) av (.inl (G.2 2, 26, .inl (upd v 22 (v ny9))))) _ := mw_eq ((congrArg (fun z => mu z av (.inl (G.2 2, 26, .inl (upd v 22 (v ny9))))) ((mu_c _ _ ((mp_ne hav hab (by simp)))).trans (congrArg (fun z => mu z av (.inl (G.2 2, 26, .inl v))) (mu_u _ _ _ _)))).trans (mu_u _ _ _ _)) hP
      refine lv_iconst (v := nI 0) hx hb dX7_meet_30 (by decide) ?_
      refine lv_istore (lv' := [(4, .int (nI 0)), (0, .ref md), (1, .int (nI nx9)), (2, .int (nI ny9)), (3, .int (nI nz9))]) hx hb dX7_meet_31 hl (by decide) rfl (fun ls hl => ?_)
      exact L33 _ 0 nx9 ny9 nz9 g27 (Nat.lt_succ_self _) (by omega) (by omega) (by omega) (by omega) (hok) (AA.ld hNM.1 hL27 (by omega)) _ _ hP hS ls (lv_sub hl [1, 2, 3, 4, 0] rfl)
    · exact absurd rfl hc18

abbrev rm_X7_places : Room := { frames := 2, cells := 0, slots := 0, locals := 42 }
set_option maxHeartbeats 4000000 in
set_option maxRecDepth 100000 in
theorem c_X7_places (l : Launch) (G : GG) (B : Nat) (μ : mp) (md ab av c1 c2 c3 c4 c5 c6 c7 c8 c9 fl st : Nat) (f : Nat → Int64) (v : Nat → Int32) (x9 : Int32) (hm : μ md = some (.inr (7, [.int (nI fl), .ref ab, .ref av, .int (nI st), .ref c1, .ref c2, .ref c3, .ref c4, .ref c5, .ref c6, .ref c7, .ref c8, .ref c9]))) (hab : μ ab = some (.inl (G.2 0, 3744, .inr (.inl f)))) (hav : μ av = some (.inl (G.2 2, 26, .inl v))) (hNM : NM f v) : Met l yX7_places wsX7_places rm_X7_places (va_Pc [.ref md, .int x9] (KW G B μ)) (va_Qi (fun r μ2 => ∃ (fl9 : Nat) (g9 : Nat → Int64) (w9 : Nat → Int32), μ2 = mu (mu (mu μ md (.inr (7, [.int (nI fl9), .ref ab, .ref av, .int (nI st), .ref c1, .ref c2, .ref c3, .ref c4, .ref c5, .ref c6, .ref c7, .ref c8, .ref c9]))) ab (.inl (G.2 0, 3744, .inr (.inl g9)))) av (.inl (G.2 2, 26, .inl w9)) ∧ ((fl9 = 0 ∧ (okS x9) ∧ r = -1) ∨ (fl9 = 1 ∧ ¬ (okS x9)))) (BB G B) (fun q => B ≤ q)) 0 0 (fun q => B ≤ q) := by
  refine Met.ofW (cc := cX7_places) (maxL := 9) (ret := (some .int)) (by decide) rfl ?_
  intro p e s m args below meth c s₁ B9 hml hv
  obtain ⟨hargs, hBs, hP, hKK⟩ := hv
  have hx := B9.exec
  have hb := B9.bytes
  have hr := B9.returns
  have hts := atoms_spec (ws := wsX7_places) B9.pre
  have hown : s.vm.findClass RX7 = some m.cls := findClass_of_methodNamed B9.named
  have hlocks := B9.notSynchronized
  have hK := hKK.k
  have hS : va_S (fun q => B ≤ q) s.heap s.heap [] := va_S.rf
  obtain ⟨Q, hQ⟩ : ∃ Q, Q = MQ below (va_Qi (fun r μ2 => ∃ (fl9 : Nat) (g9 : Nat → Int64) (w9 : Nat → Int32), μ2 = mu (mu (mu μ md (.inr (7, [.int (nI fl9), .ref ab, .ref av, .int (nI st), .ref c1, .ref c2, .ref c3, .ref c4, .ref c5, .ref c6, .ref c7, .ref c8, .ref c9]))) ab (.inl (G.2 0, 3744, .inr (.inl g9)))) av (.inl (G.2 2, 26, .inl w9)) ∧ ((fl9 = 0 ∧ (okS x9) ∧ r = -1) ∨ (fl9 = 1 ∧ ¬ (okS x9)))) (BB G B) (fun q => B ≤ q)) args s 0 0 (fun q => B ≤ q) := ⟨_, rfl⟩
  rw [← hQ]
  have ne0_1 : md ≠ ab := mp_ne hm hab (by simp)
  have ne0_2 : md ≠ av := mp_ne hm hav (by simp)
  have in_X7_places_X7 : ∀ w ∈ wsX70, w ∈ wsX7_places := by decide +kernel
  have hP : mw G.1 vwCl B (mu (mu (mu μ md (.inr (7, [.int (nI fl), .ref ab, .ref av, .int (nI st), .ref c1, .ref c2, .ref c3, .ref c4, .ref c5, .ref c6, .ref c7, .ref c8, .ref c9]))) ab (.inl (G.2 0, 3744, .inr (.inl f)))) av (.inl (G.2 2, 26, .inl v))) s.heap := mw_eq ((congrArg (fun z => mu z av (.inl (G.2 2, 26, .inl v))) ((congrArg (fun z => mu z ab (.inl (G.2 0, 3744, .inr (.inl f)))) (mu_i hm)).trans (mu_i hab))).trans (mu_i hav)).symm hP
  have hl := lv_entry ([.ref md, .int x9]) (n := 9) (Nat.le_of_ble_eq_true rfl)
  have he9 : entryFrame m args 9 = entryFrame m ([.ref md, .int x9] : List Value).toArray 9 := by rw [hargs]
  rw [he9, lg_entry_eq]
  generalize (lg_sl ([.ref md, .int x9]) ++ List.replicate (9 - (lg_sl ([.ref md, .int x9])).length) Slot.unset).toArray = ls at hl ⊢
  have hl : lv_has ls 9 [(0, .ref md), (1, .int x9)] := hl
  refine lv_aload_n hx hb dX7_places_0 rfl (lv_at hl 0 rfl) ?_
  refine lv_iload_n hx hb dX7_places_1 rfl (lv_at hl 1 rfl) ?_
  refine kc_i (va_runS (As := [.int x9]) (rest := [.ref md]) ⟨hx, hb, hml, hown, hts⟩ (c_X7_isSlot l G B (mu (mu (mu μ md (.inr (7, [.int (nI fl), .ref ab, .ref av, .int (nI st), .ref c1, .ref c2, .ref c3, .ref c4, .ref c5, .ref c6, .ref c7, .ref c8, .ref c9]))) ab (.inl (G.2 0, 3744, .inr (.inl f)))) av (.inl (G.2 2, 26, .inl v))) x9) (va_cwS 1 hts gX7_places_X7_isSlot rfl rfl rfl (by decide +kernel) ⟨Nat.le_of_ble_eq_true rfl, Nat.le_of_ble_eq_true rfl⟩) ⟨KW.blind, fun U9 hU9 hW9 => ⟨rfl, KW.pre hBs hKK hS hP U9 hU9 hW9⟩⟩ rfl rfl hl.1 rfl (lv_room (Nat.le_of_ble_eq_true rfl)) dX7_places_2 ⟨(Nat.le_of_ble_eq_true rfl), (Nat.le_of_ble_eq_true rfl)⟩) hS (fun r2 m2 H locs hq9 hP hz9 hS => ?_)
  obtain ⟨he9, hy2⟩ := hq9
  rw [he9] at hP
  refine lv_if_eq (tgt := 12) hx hb dX7_places_5 (by decide) (fun hc5 => ?_) (fun hc5 => ?_)
  · refine lv_iconst (v := nI 1) hx hb dX7_places_12 (by decide) ?_
    refine kc_i (va_runV (As := [.int (nI 1)]) (rest := []) ⟨hx, hb, hml, hown, hts⟩ (c_X7_refused l G B (mu (mu (mu μ md (.inr (7, [.int (nI fl), .ref ab, .ref av, .int (nI st), .ref c1, .ref c2, .ref c3, .ref c4, .ref c5, .ref c6, .ref c7, .ref c8, .ref c9]))) ab (.inl (G.2 0, 3744, .inr (.inl f)))) av (.inl (G.2 2, 26, .inl v))) md ab av c1 c2 c3 c4 c5 c6 c7 c8 c9 fl st f v 1 ((mu_n ne0_2).trans ((mu_n ne0_1).trans (mu_s _ _ _))) ((mu_n ((mp_ne hab hav (by simp)))).trans (mu_s _ _ _)) (mu_s _ _ _) (by omega)) (cwV 1 hts gX7_places_X7_refused rfl rfl rfl (by decide +kernel) ⟨Nat.le_of_ble_eq_true rfl, Nat.le_of_ble_eq_true rfl⟩) ⟨KW.blind, hP.recv hK rfl ((mu_n ne0_2).trans ((mu_n ne0_1).trans (mu_s _ _ _))), fun U9 hU9 hW9 => ⟨rfl, KW.pre hBs hKK hS hP U9 hU9 hW9⟩⟩ rfl rfl hl.1 rfl (lv_room (Nat.le_of_ble_eq_true rfl)) dX7_places_13 ⟨(Nat.le_of_ble_eq_true rfl), (Nat.le_of_ble_eq_true rfl)⟩) hS (fun r13 m13 H locs hq9 hP hz9 hS => ?_)
    obtain ⟨he9, hw0, hw1⟩ := hq9
    rw [he9] at hP
    have hP : mw G.1 vwCl B (mu (mu (mu μ md (.inr (7, [.int (nI 1), .ref ab, .ref av, .int (nI st), .ref c1, .ref c2, .ref c3, .ref c4, .ref c5, .ref c6, .ref c7, .ref c8, .ref c9]))) ab (.inl (G.2 0, 3744, .inr (.inl f)))) av (.inl (G.2 2, 26, .inl v))) _ := mw_eq ((mu_c _ _ ((Ne.symm ne0_2))).trans (congrArg (fun z => mu z av (.inl (G.2 2, 26, .inl v))) ((mu_c _ _ ((Ne.symm ne0_1))).trans (congrArg (fun z => mu z ab (.inl (G.2 0, 3744, .inr (.inl f)))) (mu_u _ _ _ _))))) hP
    obtain rfl : r13 = nI 1 := hw1 (by decide)
    refine lv_if_eq (tgt := 21) hx hb dX7_places_16 (by decide) (fun hc16 => ?_) (fun hc16 => ?_)
    · exact absurd hc16 (by decide)
    · refine lv_iconst (v := nI 0) hx hb dX7_places_19 (by decide) ?_
      rw [hQ]
      exact W.iret (v := nI 0) hx hb hr (fun t99 ht99 hW99 => ⟨⟨nI 0, mu (mu (mu μ md (.inr (7, [.int (nI 1), .ref ab, .ref av, .int (nI st), .ref c1, .ref c2, .ref c3, .ref c4, .ref c5, .ref c6, .ref c7, .ref c8, .ref c9]))) ab (.inl (G.2 0, 3744, .inr (.inl f)))) av (.inl (G.2 2, 26, .inl v)), rfl, (⟨_, _, _, rfl, Or.inr ⟨rfl, fun h9 => by first | exact yn_f hy2 hc5 h9⟩⟩), by show mw _ _ _ _ t99.heap; rw [ht99]; exact hP⟩, hS.F ht99⟩) hS.2.2 dX7_places_20
  · refine lv_iconst (v := nI 0) hx hb dX7_places_8 (by decide) ?_
    refine lv_goto (tgt := 13) hx hb dX7_places_9 (by decide) ?_
    refine kc_i (va_runV (As := [.int (nI 0)]) (rest := []) ⟨hx, hb, hml, hown, hts⟩ (c_X7_refused l G B (mu (mu (mu μ md (.inr (7, [.int (nI fl), .ref ab, .ref av, .int (nI st), .ref c1, .ref c2, .ref c3, .ref c4, .ref c5, .ref c6, .ref c7, .ref c8, .ref c9]))) ab (.inl (G.2 0, 3744, .inr (.inl f)))) av (.inl (G.2 2, 26, .inl v))) md ab av c1 c2 c3 c4 c5 c6 c7 c8 c9 fl st f v 0 ((mu_n ne0_2).trans ((mu_n ne0_1).trans (mu_s _ _ _))) ((mu_n ((mp_ne hab hav (by simp)))).trans (mu_s _ _ _)) (mu_s _ _ _) (by omega)) (cwV 1 hts gX7_places_X7_refused rfl rfl rfl (by decide +kernel) ⟨Nat.le_of_ble_eq_true rfl, Nat.le_of_ble_eq_true rfl⟩) ⟨KW.blind, hP.recv hK rfl ((mu_n ne0_2).trans ((mu_n ne0_1).trans (mu_s _ _ _))), fun U9 hU9 hW9 => ⟨rfl, KW.pre hBs hKK hS hP U9 hU9 hW9⟩⟩ rfl rfl hl.1 rfl (lv_room (Nat.le_of_ble_eq_true rfl)) dX7_places_13 ⟨(Nat.le_of_ble_eq_true rfl), (Nat.le_of_ble_eq_true rfl)⟩) hS (fun r13 m13 H locs hq9 hP hz9 hS => ?_)
    obtain ⟨he9, hw0, hw1⟩ := hq9
    rw [he9] at hP
    have hP : mw G.1 vwCl B (mu (mu (mu μ md (.inr (7, [.int (nI 0), .ref ab, .ref av, .int (nI st), .ref c1, .ref c2, .ref c3, .ref c4, .ref c5, .ref c6, .ref c7, .ref c8, .ref c9]))) ab (.inl (G.2 0, 3744, .inr (.inl f)))) av (.inl (G.2 2, 26, .inl v))) _ := mw_eq ((mu_c _ _ ((Ne.symm ne0_2))).trans (congrArg (fun z => mu z av (.inl (G.2 2, 26, .inl v))) ((mu_c _ _ ((Ne.symm ne0_1))).trans (congrArg (fun z => mu z ab (.inl (G.2 0, 3744, .inr (.inl f)))) (mu_u _ _ _ _))))) hP
    obtain rfl : r13 = nI 0 := hw0 rfl
    refine lv_if_eq (tgt := 21) hx hb dX7_places_16 (by decide) (fun hc16 => ?_) (fun hc16 => ?_)
    · have hok : okS x9 := yn_t hy2 hc5
      obtain ⟨nx9, hnx9, enx9⟩ := ok_nat (n := 6) (by decide) hok
      subst enx9
      refine lv_aload_n hx hb dX7_places_21 rfl (lv_at hl 0 rfl) ?_
      refine mw_get (C := RX7) (T := TX7) (N := 13) hx hb hts in_X7_places_X7 hown hK hP ((mu_n ne0_2).trans ((mu_n ne0_1).trans (mu_s _ _ _))) rfl 2 (by decide) (hts (.fieldLink RX7 13 "OctagonDeskModel" "isVoid" "[Z") (by decide +kernel)) (fun _ h9 => h9) rfl dX7_places_22 ?_
      refine lv_iload_n hx hb dX7_places_25 rfl (lv_at hl 1 rfl) ?_
      refine mw_zald hx hb hK hP 2 (mu_s _ _ _) rfl (by omega) (by omega) dX7_places_26 ?_
      refine lv_if_eq (tgt := 32) hx hb dX7_places_27 (by decide) (fun hc27 => ?_) (fun hc27 => ?_)
      · refine lv_lconst (v := 1) hx hb dX7_places_32 (by decide) ?_
        refine lv_lstore_n (lv' := [(2, .long 1), (0, .ref md), (1, .int (nI nx9))]) hx hb dX7_places_33 rfl hl (by decide) rfl (fun ls hl => ?_)
        refine lv_iconst (v := nI 0) hx hb dX7_places_34 (by decide) ?_
        refine lv_istore (lv' := [(4, .int (nI 0)), (2, .long 1), (0, .ref md), (1, .int (nI nx9))]) hx hb dX7_places_35 hl (by decide) rfl (fun ls hl => ?_)
        refine lv_iload hx hb dX7_places_37 (lv_at hl 0 rfl) ?_
        refine lv_bipush (v := nI 6) hx hb dX7_places_39 (by decide) ?_
        refine nv_icmp_ge (tgt := 155) hx hb (by omega) (by omega) dX7_places_41 (by decide) (fun hc41 => ?_) (fun hc41 => ?_)
        · exact absurd hc41 (by omega)
        · refine lv_aload_n hx hb dX7_places_44 rfl (lv_at hl 2 rfl) ?_
          refine lv_iload_n hx hb dX7_places_45 rfl (lv_at hl 3 rfl) ?_
          refine lv_iconst (v := nI 2) hx hb dX7_places_46 (by decide) ?_
          refine lv_iload hx hb dX7_places_47 (lv_at hl 0 rfl) ?_
          refine nv_imul hx hb dX7_places_49 ?_
          refine lv_iconst (v := nI 2) hx hb dX7_places_50 (by decide) ?_
          refine lv_iload hx hb dX7_places_51 (lv_at hl 0 rfl) ?_
          refine nv_imul hx hb dX7_places_53 ?_
          refine kc_l (va_runV (As := [.int (nI nx9), .int (nI 0), .int (nI 0)]) (rest := []) ⟨hx, hb, hml, hown, hts⟩ (c_X7_get l G B (mu (mu (mu μ md (.inr (7, [.int (nI 0), .ref ab, .ref av, .int (nI st), .ref c1, .ref c2, .ref c3, .ref c4, .ref c5, .ref c6, .ref c7, .ref c8, .ref c9]))) ab (.inl (G.2 0, 3744, .inr (.inl f)))) av (.inl (G.2 2, 26, .inl v))) md ab av c1 c2 c3 c4 c5 c6 c7 c8 c9 0 st f v nx9 0 0 ((mu_n ne0_2).trans ((mu_n ne0_1).trans (mu_s _ _ _))) ((mu_n ((mp_ne hab hav (by simp)))).trans (mu_s _ _ _)) (mu_s _ _ _) (by omega) (by omega) (by omega)) (cwV 3 hts gX7_places_X7_get rfl rfl rfl (by decide +kernel) ⟨Nat.le_of_ble_eq_true rfl, Nat.le_of_ble_eq_true rfl⟩) ⟨KW.blind, hP.recv hK rfl ((mu_n ne0_2).trans ((mu_n ne0_1).trans (mu_s _ _ _))), fun U9 hU9 hW9 => ⟨rfl, KW.pre hBs hKK hS hP U9 hU9 hW9⟩⟩ rfl rfl hl.1 rfl (lv_room (Nat.le_of_ble_eq_true rfl)) dX7_places_54 ⟨(Nat.le_of_ble_eq_true rfl), (Nat.le_of_ble_eq_true rfl)⟩) hS (fun r54 m54 H locs hq9 hP hz9 hS => ?_)
          obtain ⟨he9, hr54⟩ := hq9
          rw [he9] at hP
          refine lv_lstore (lv' := [(5, .long r54), (4, .int (nI 0)), (2, .long 1), (0, .ref md), (1, .int (nI nx9))]) hx hb dX7_places_57 hl (by decide) rfl (fun ls hl => ?_)
          refine lv_aload_n hx hb dX7_places_59 rfl (lv_at hl 3 rfl) ?_
          refine lv_iload_n hx hb dX7_places_60 rfl (lv_at hl 4 rfl) ?_
          refine lv_iconst (v := nI 2) hx hb dX7_places_61 (by decide) ?_
          refine lv_iload hx hb dX7_places_62 (lv_at hl 1 rfl) ?_
          refine nv_imul hx hb dX7_places_64 ?_
          refine lv_iconst (v := nI 1) hx hb dX7_places_65 (by decide) ?_
          refine nv_iadd hx hb dX7_places_66 ?_
          refine lv_iconst (v := nI 2) hx hb dX7_places_67 (by decide) ?_
          refine lv_iload hx hb dX7_places_68 (lv_at hl 1 rfl) ?_
          refine nv_imul hx hb dX7_places_70 ?_
          refine lv_iconst (v := nI 1) hx hb dX7_places_71 (by decide) ?_
          refine nv_iadd hx hb dX7_places_72 ?_
          refine kc_l (va_runV (As := [.int (nI nx9), .int (nI 1), .int (nI 1)]) (rest := []) ⟨hx, hb, hml, hown, hts⟩ (c_X7_get l G B (mu (mu (mu μ md (.inr (7, [.int (nI 0), .ref ab, .ref av, .int (nI st), .ref c1, .ref c2, .ref c3, .ref c4, .ref c5, .ref c6, .ref c7, .ref c8, .ref c9]))) ab (.inl (G.2 0, 3744, .inr (.inl f)))) av (.inl (G.2 2, 26, .inl v))) md ab av c1 c2 c3 c4 c5 c6 c7 c8 c9 0 st f v nx9 1 1 ((mu_n ne0_2).trans ((mu_n ne0_1).trans (mu_s _ _ _))) ((mu_n ((mp_ne hab hav (by simp)))).trans (mu_s _ _ _)) (mu_s _ _ _) (by omega) (by omega) (by omega)) (cwV 3 hts gX7_places_X7_get rfl rfl rfl (by decide +kernel) ⟨Nat.le_of_ble_eq_true rfl, Nat.le_of_ble_eq_true rfl⟩) ⟨KW.blind, hP.recv hK rfl ((mu_n ne0_2).trans ((mu_n ne0_1).trans (mu_s _ _ _))), fun U9 hU9 hW9 => ⟨rfl, KW.pre hBs hKK hS hP U9 hU9 hW9⟩⟩ rfl rfl hl.1 rfl (lv_room (Nat.le_of_ble_eq_true rfl)) dX7_places_73 ⟨(Nat.le_of_ble_eq_true rfl), (Nat.le_of_ble_eq_true rfl)⟩) hS (fun r73 m73 H locs hq9 hP hz9 hS => ?_)
          obtain ⟨he9, hr73⟩ := hq9
          rw [he9] at hP
          refine lv_lstore (lv' := [(7, .long r73), (5, .long r54), (4, .int (nI 0)), (2, .long 1), (0, .ref md), (1, .int (nI nx9))]) hx hb dX7_places_76 hl (by decide) rfl (fun ls hl => ?_)
          refine lv_lload hx hb dX7_places_78 (lv_at hl 1 rfl) ?_
          refine lv_ldc2 (v := (9223372036854775807)) hx hb hown (hts (.constantLong RX7 45 (9223372036854775807)) (by decide +kernel)) dX7_places_80 ?_
          refine nl_if_eq (tgt := 108) hx hb dX7_places_83 dX7_places_84 (by decide) (fun hc83 => ?_) (fun hc83 => ?_)
          · refine lv_iconst (v := (-1)) hx hb dX7_places_108 (by decide) ?_
            rw [hQ]
            exact W.iret (v := (-1)) hx hb hr (fun t99 ht99 hW99 => ⟨⟨(-1), mu (mu (mu μ md (.inr (7, [.int (nI 0), .ref ab, .ref av, .int (nI st), .ref c1, .ref c2, .ref c3, .ref c4, .ref c5, .ref c6, .ref c7, .ref c8, .ref c9]))) ab (.inl (G.2 0, 3744, .inr (.inl f)))) av (.inl (G.2 2, 26, .inl v)), rfl, (⟨_, _, _, rfl, Or.inl ⟨rfl, hok, rfl⟩⟩), by show mw _ _ _ _ t99.heap; rw [ht99]; exact hP⟩, hS.F ht99⟩) hS.2.2 dX7_places_109
          · exact absurd (hr54.trans ((hNM.1 nx9 (by omega)).g (by omega) (by omega))) hc83
      · exact absurd (hNM.2.1 nx9 (by omega)) hc27
    · exact absurd rfl hc16

abbrev rm_X7_first : Room := { frames := 3, cells := 0, slots := 0, locals := 79 }
set_option maxHeartbeats 4000000 in
set_option maxRecDepth 100000 in
theorem c_X7_first (l : Launch) (G : GG) (B : Nat) (μ : mp) (md ab av c1 c2 c3 c4 c5 c6 c7 c8 c9 fl st : Nat) (f : Nat → Int64) (v : Nat → Int32) (x9 y9 : Int32) (hm : μ md = some (.inr (7, [.int (nI fl), .ref ab, .ref av, .int (nI st), .ref c1, .ref c2, .ref c3, .ref c4, .ref c5, .ref c6, .ref c7, .ref c8, .ref c9]))) (hab : μ ab = some (.inl (G.2 0, 3744, .inr (.inl f)))) (hav : μ av = some (.inl (G.2 2, 26, .inl v))) (hNM : NM f v) : Met l yX7_first wsX7_first rm_X7_first (va_Pc [.ref md, .int x9, .int y9] (KW G B μ)) (va_Ql (fun r μ2 => ∃ (fl9 : Nat) (g9 : Nat → Int64) (w9 : Nat → Int32), μ2 = mu (mu (mu μ md (.inr (7, [.int (nI fl9), .ref ab, .ref av, .int (nI st), .ref c1, .ref c2, .ref c3, .ref c4, .ref c5, .ref c6, .ref c7, .ref c8, .ref c9]))) ab (.inl (G.2 0, 3744, .inr (.inl g9)))) av (.inl (G.2 2, 26, .inl w9)) ∧ ((fl9 = 0 ∧ (okS x9 ∧ okS y9) ∧ r = 0) ∨ (fl9 = 1 ∧ ¬ (okS x9 ∧ okS y9)))) (BB G B) (fun q => B ≤ q)) 0 0 (fun q => B ≤ q) := by
  refine Met.ofW (cc := cX7_first) (maxL := 10) (ret := (some .long)) (by decide) rfl ?_
  intro p e s m args below meth c s₁ B9 hml hv
  obtain ⟨hargs, hBs, hP, hKK⟩ := hv
  have hx := B9.exec
  have hb := B9.bytes
  have hr := B9.returns
  have hts := atoms_spec (ws := wsX7_first) B9.pre
  have hown : s.vm.findClass RX7 = some m.cls := findClass_of_methodNamed B9.named
  have hlocks := B9.notSynchronized
  have hK := hKK.k
  have hS : va_S (fun q => B ≤ q) s.heap s.heap [] := va_S.rf
  obtain ⟨Q, hQ⟩ : ∃ Q, Q = MQ below (va_Ql (fun r μ2 => ∃ (fl9 : Nat) (g9 : Nat → Int64) (w9 : Nat → Int32), μ2 = mu (mu (mu μ md (.inr (7, [.int (nI fl9), .ref ab, .ref av, .int (nI st), .ref c1, .ref c2, .ref c3, .ref c4, .ref c5, .ref c6, .ref c7, .ref c8, .ref c9]))) ab (.inl (G.2 0, 3744, .inr (.inl g9)))) av (.inl (G.2 2, 26, .inl w9)) ∧ ((fl9 = 0 ∧ (okS x9 ∧ okS y9) ∧ r = 0) ∨ (fl9 = 1 ∧ ¬ (okS x9 ∧ okS y9)))) (BB G B) (fun q => B ≤ q)) args s 0 0 (fun q => B ≤ q) := ⟨_, rfl⟩
  rw [← hQ]
  have ne0_1 : md ≠ ab := mp_ne hm hab (by simp)
  have ne0_2 : md ≠ av := mp_ne hm hav (by simp)
  have in_X7_first_X7 : ∀ w ∈ wsX70, w ∈ wsX7_first := by decide +kernel
  have hP : mw G.1 vwCl B (mu (mu (mu μ md (.inr (7, [.int (nI fl), .ref ab, .ref av, .int (nI st), .ref c1, .ref c2, .ref c3, .ref c4, .ref c5, .ref c6, .ref c7, .ref c8, .ref c9]))) ab (.inl (G.2 0, 3744, .inr (.inl f)))) av (.inl (G.2 2, 26, .inl v))) s.heap := mw_eq ((congrArg (fun z => mu z av (.inl (G.2 2, 26, .inl v))) ((congrArg (fun z => mu z ab (.inl (G.2 0, 3744, .inr (.inl f)))) (mu_i hm)).trans (mu_i hab))).trans (mu_i hav)).symm hP
  have L55 : ∀ (N55 : Nat) (k1 : Nat) (n0 : Nat) (n1 : Nat) (g1 : Nat → Int64) (hN55 : n1 + 1 - k1 < N55) (hk1 : k1 ≤ n1 + 1) (hn0 : n0 < 6) (hn1 : n1 < 6) (hok : okS x9 ∧ okS y9) (hz : Zs g1 22), ∀ (H : Heap) (locs : List Loc), mw G.1 vwCl B (mu (mu (mu μ md (.inr (7, [.int (nI 0), .ref ab, .ref av, .int (nI st), .ref c1, .ref c2, .ref c3, .ref c4, .ref c5, .ref c6, .ref c7, .ref c8, .ref c9]))) ab (.inl (G.2 0, 3744, .inr (.inl g1)))) av (.inl (G.2 2, 26, .inl (upd v 22 (v n0))))) H → va_S (fun q => B ≤ q) s.heap H locs → ∀ ls : Array Slot, lv_has ls 10 [(0, .ref md), (1, .int (nI n0)), (2, .int (nI n1)), (3, .long 0), (5, .int (nI k1))] → W p l e rm_X7_first s m args below meth c H locs 0 0 Q (F0 m 55 ls []) := by
    intro N55
    induction N55 with
    | zero => intro k1 n0 n1 g1 hN55; exact absurd hN55 (Nat.not_lt_zero _)
    | succ N55 ih55 =>
      intro k1 n0 n1 g1 hN55 hk1 hn0 hn1 hok hz H locs hP hS ls hl
      refine lv_iload hx hb dX7_first_55 (lv_at hl 4 rfl) ?_
      refine lv_iload_n hx hb dX7_first_57 rfl (lv_at hl 2 rfl) ?_
      refine nv_icmp_gt (tgt := 175) hx hb (by omega) (by omega) dX7_first_58 (by decide) (fun hc58 => ?_) (fun hc58 => ?_)
      · refine lv_lload_n hx hb dX7_first_175 rfl (lv_at hl 3 rfl) ?_
        rw [hQ]
        exact W.lret (v := 0) hx hb hr (fun t99 ht99 hW99 => ⟨⟨0, mu (mu (mu μ md (.inr (7, [.int (nI 0), .ref ab, .ref av, .int (nI st), .ref c1, .ref c2, .ref c3, .ref c4, .ref c5, .ref c6, .ref c7, .ref c8, .ref c9]))) ab (.inl (G.2 0, 3744, .inr (.inl g1)))) av (.inl (G.2 2, 26, .inl (upd v 22 (v n0)))), rfl, (⟨_, _, _, rfl, Or.inl ⟨rfl, hok, rfl⟩⟩), by show mw _ _ _ _ t99.heap; rw [ht99]; exact hP⟩, hS.F ht99⟩) hS.2.2 dX7_first_176
      · refine lv_aload_n hx hb dX7_first_61 rfl (lv_at hl 0 rfl) ?_
        refine lv_bipush (v := nI 22) hx hb dX7_first_62 (by decide) ?_
        refine lv_iconst (v := nI 2) hx hb dX7_first_64 (by decide) ?_
        refine lv_iload hx hb dX7_first_65 (lv_at hl 4 rfl) ?_
        refine nv_imul hx hb dX7_first_67 ?_
        refine lv_iconst (v := nI 2) hx hb dX7_first_68 (by decide) ?_
        refine lv_iload hx hb dX7_first_69 (lv_at hl 4 rfl) ?_
        refine nv_imul hx hb dX7_first_71 ?_
        refine kc_l (va_runV (As := [.int (nI 22), .int (nI (2 * k1)), .int (nI (2 * k1))]) (rest := []) ⟨hx, hb, hml, hown, hts⟩ (c_X7_get l G B (mu (mu (mu μ md (.inr (7, [.int (nI 0), .ref ab, .ref av, .int (nI st), .ref c1, .ref c2, .ref c3, .ref c4, .ref c5, .ref c6, .ref c7, .ref c8, .ref c9]))) ab (.inl (G.2 0, 3744, .inr (.inl g1)))) av (.inl (G.2 2, 26, .inl (upd v 22 (v n0))))) md ab av c1 c2 c3 c4 c5 c6 c7 c8 c9 0 st g1 (upd v 22 (v n0)) 22 (2 * k1) (2 * k1) ((mu_n ne0_2).trans ((mu_n ne0_1).trans (mu_s _ _ _))) ((mu_n ((mp_ne hab hav (by simp)))).trans (mu_s _ _ _)) (mu_s _ _ _) (by omega) (by omega) (by omega)) (cwV 3 hts gX7_first_X7_get rfl rfl rfl (by decide +kernel) ⟨Nat.le_of_ble_eq_true rfl, Nat.le_of_ble_eq_true rfl⟩) ⟨KW.blind, hP.recv hK rfl ((mu_n ne0_2).trans ((mu_n ne0_1).trans (mu_s _ _ _))), fun U9 hU9 hW9 => ⟨rfl, KW.pre hBs hKK hS hP U9 hU9 hW9⟩⟩ rfl rfl hl.1 rfl (lv_room (Nat.le_of_ble_eq_true rfl)) dX7_first_72 ⟨(Nat.le_of_ble_eq_true rfl), (Nat.le_of_ble_eq_true rfl)⟩) hS (fun r72 m72 H locs hq9 hP hz9 hS => ?_)
        obtain ⟨he9, hr72⟩ := hq9
        rw [he9] at hP
        refine lv_lstore (lv' := [(6, .long r72), (0, .ref md), (1, .int (nI n0)), (2, .int (nI n1)), (3, .long 0), (5, .int (nI k1))]) hx hb dX7_first_75 hl (by decide) rfl (fun ls hl => ?_)
        refine lv_aload_n hx hb dX7_first_77 rfl (lv_at hl 1 rfl) ?_
        refine lv_bipush (v := nI 22) hx hb dX7_first_78 (by decide) ?_
        refine lv_iconst (v := nI 2) hx hb dX7_first_80 (by decide) ?_
        refine lv_iload hx hb dX7_first_81 (lv_at hl 5 rfl) ?_
        refine nv_imul hx hb dX7_first_83 ?_
        refine lv_iconst (v := nI 1) hx hb dX7_first_84 (by decide) ?_
        refine nv_iadd hx hb dX7_first_85 ?_
        refine lv_iconst (v := nI 2) hx hb dX7_first_86 (by decide) ?_
        refine lv_iload hx hb dX7_first_87 (lv_at hl 5 rfl) ?_
        refine nv_imul hx hb dX7_first_89 ?_
        refine lv_iconst (v := nI 1) hx hb dX7_first_90 (by decide) ?_
        refine nv_iadd hx hb dX7_first_91 ?_
        refine kc_l (va_runV (As := [.int (nI 22), .int (nI ((2 * k1) + 1)), .int (nI ((2 * k1) + 1))]) (rest := []) ⟨hx, hb, hml, hown, hts⟩ (c_X7_get l G B (mu (mu (mu μ md (.inr (7, [.int (nI 0), .ref ab, .ref av, .int (nI st), .ref c1, .ref c2, .ref c3, .ref c4, .ref c5, .ref c6, .ref c7, .ref c8, .ref c9]))) ab (.inl (G.2 0, 3744, .inr (.inl g1)))) av (.inl (G.2 2, 26, .inl (upd v 22 (v n0))))) md ab av c1 c2 c3 c4 c5 c6 c7 c8 c9 0 st g1 (upd v 22 (v n0)) 22 ((2 * k1) + 1) ((2 * k1) + 1) ((mu_n ne0_2).trans ((mu_n ne0_1).trans (mu_s _ _ _))) ((mu_n ((mp_ne hab hav (by simp)))).trans (mu_s _ _ _)) (mu_s _ _ _) (by omega) (by omega) (by omega)) (cwV 3 hts gX7_first_X7_get rfl rfl rfl (by decide +kernel) ⟨Nat.le_of_ble_eq_true rfl, Nat.le_of_ble_eq_true rfl⟩) ⟨KW.blind, hP.recv hK rfl ((mu_n ne0_2).trans ((mu_n ne0_1).trans (mu_s _ _ _))), fun U9 hU9 hW9 => ⟨rfl, KW.pre hBs hKK hS hP U9 hU9 hW9⟩⟩ rfl rfl hl.1 rfl (lv_room (Nat.le_of_ble_eq_true rfl)) dX7_first_92 ⟨(Nat.le_of_ble_eq_true rfl), (Nat.le_of_ble_eq_true rfl)⟩) hS (fun r92 m92 H locs hq9 hP hz9 hS => ?_)
        obtain ⟨he9, hr92⟩ := hq9
        rw [he9] at hP
        refine lv_lstore (lv' := [(8, .long r92), (6, .long r72), (0, .ref md), (1, .int (nI n0)), (2, .int (nI n1)), (3, .long 0), (5, .int (nI k1))]) hx hb dX7_first_95 hl (by decide) rfl (fun ls hl => ?_)
        refine lv_lload hx hb dX7_first_97 (lv_at hl 0 rfl) ?_
        refine lv_ldc2 (v := (9223372036854775807)) hx hb hown (hts (.constantLong RX7 45 (9223372036854775807)) (by decide +kernel)) dX7_first_99 ?_
        refine nl_if_ge (tgt := 112) hx hb dX7_first_102 dX7_first_103 (by decide) (fun hc102 => ?_) (fun hc102 => ?_)
        · refine lv_lload hx hb dX7_first_112 (lv_at hl 1 rfl) ?_
          refine lv_ldc2 (v := (9223372036854775807)) hx hb hown (hts (.constantLong RX7 45 (9223372036854775807)) (by decide +kernel)) dX7_first_114 ?_
          refine nl_if_ge (tgt := 126) hx hb dX7_first_117 dX7_first_118 (by decide) (fun hc117 => ?_) (fun hc117 => ?_)
          · refine lv_lconst (v := 0) hx hb dX7_first_126 (by decide) ?_
            refine lv_lstore_n (lv' := [(3, .long 0), (8, .long r92), (6, .long r72), (0, .ref md), (1, .int (nI n0)), (2, .int (nI n1)), (5, .int (nI k1))]) hx hb dX7_first_127 rfl hl (by decide) rfl (fun ls hl => ?_)
            refine lv_aload_n hx hb dX7_first_128 rfl (lv_at hl 3 rfl) ?_
            refine lv_bipush (v := nI 22) hx hb dX7_first_129 (by decide) ?_
            refine lv_iconst (v := nI 2) hx hb dX7_first_131 (by decide) ?_
            refine lv_iload hx hb dX7_first_132 (lv_at hl 6 rfl) ?_
            refine nv_imul hx hb dX7_first_134 ?_
            refine lv_iconst (v := nI 2) hx hb dX7_first_135 (by decide) ?_
            refine lv_iload hx hb dX7_first_136 (lv_at hl 6 rfl) ?_
            refine nv_imul hx hb dX7_first_138 ?_
            refine lv_lload_n hx hb dX7_first_139 rfl (lv_at hl 0 rfl) ?_
            refine kc_v (va_runV (As := [.int (nI 22), .int (nI (2 * k1)), .int (nI (2 * k1)), .long 0]) (rest := []) ⟨hx, hb, hml, hown, hts⟩ (c_X7_set l G B (mu (mu (mu μ md (.inr (7, [.int (nI 0), .ref ab, .ref av, .int (nI st), .ref c1, .ref c2, .ref c3, .ref c4, .ref c5, .ref c6, .ref c7, .ref c8, .ref c9]))) ab (.inl (G.2 0, 3744, .inr (.inl g1)))) av (.inl (G.2 2, 26, .inl (upd v 22 (v n0))))) md ab av c1 c2 c3 c4 c5 c6 c7 c8 c9 0 st g1 (upd v 22 (v n0)) 22 (2 * k1) (2 * k1) 0 ((mu_n ne0_2).trans ((mu_n ne0_1).trans (mu_s _ _ _))) ((mu_n ((mp_ne hab hav (by simp)))).trans (mu_s _ _ _)) (mu_s _ _ _) (by omega) (by omega) (by omega)) (cwV 4 hts gX7_first_X7_set rfl rfl rfl (by decide +kernel) ⟨Nat.le_of_ble_eq_true rfl, Nat.le_of_ble_eq_true rfl⟩) ⟨KW.blind, hP.recv hK rfl ((mu_n ne0_2).trans ((mu_n ne0_1).trans (mu_s _ _ _))), fun U9 hU9 hW9 => ⟨rfl, KW.pre hBs hKK hS hP U9 hU9 hW9⟩⟩ rfl rfl hl.1 rfl (lv_room (Nat.le_of_ble_eq_true rfl)) dX7_first_140 ⟨(Nat.le_of_ble_eq_true rfl), (Nat.le_of_ble_eq_true rfl)⟩) hS (fun m140 H locs hq9 hP hz9 hS => ?_)
            rw [hq9] at hP
            have hP : mw G.1 vwCl B (mu (mu (mu μ md (.inr (7, [.int (nI 0), .ref ab, .ref av, .int (nI st), .ref c1, .ref c2, .ref c3, .ref c4, .ref c5, .ref c6, .ref c7, .ref c8, .ref c9]))) ab (.inl (G.2 0, 3744, .inr (.inl (stf g1 22 (2 * k1) (2 * k1) 0))))) av (.inl (G.2 2, 26, .inl (upd v 22 (v n0))))) _ := mw_eq ((mu_c _ _ ((mp_ne hav hab (by simp)))).trans (congrArg (fun z => mu z av (.inl (G.2 2, 26, .inl (upd v 22 (v n0))))) (mu_u _ _ _ _))) hP
            refine lv_aload_n hx hb dX7_first_143 rfl (lv_at hl 3 rfl) ?_
            refine lv_bipush (v := nI 22) hx hb dX7_first_144 (by decide) ?_
            refine lv_iconst (v := nI 2) hx hb dX7_first_146 (by decide) ?_
            refine lv_iload hx hb dX7_first_147 (lv_at hl 6 rfl) ?_
            refine nv_imul hx hb dX7_first_149 ?_
            refine lv_iconst (v := nI 1) hx hb dX7_first_150 (by decide) ?_
            refine nv_iadd hx hb dX7_first_151 ?_
            refine lv_iconst (v := nI 2) hx hb dX7_first_152 (by decide) ?_
            refine lv_iload hx hb dX7_first_153 (lv_at hl 6 rfl) ?_
            refine nv_imul hx hb dX7_first_155 ?_
            refine lv_iconst (v := nI 1) hx hb dX7_first_156 (by decide) ?_
            refine nv_iadd hx hb dX7_first_157 ?_
            refine lv_lload_n hx hb dX7_first_158 rfl (lv_at hl 0 rfl) ?_
            refine lv_lneg hx hb dX7_first_159 ?_
            refine kc_v (va_runV (As := [.int (nI 22), .int (nI ((2 * k1) + 1)), .int (nI ((2 * k1) + 1)), .long (-0)]) (rest := []) ⟨hx, hb, hml, hown, hts⟩ (c_X7_set l G B (mu (mu (mu μ md (.inr (7, [.int (nI 0), .ref ab, .ref av, .int (nI st), .ref c1, .ref c2, .ref c3, .ref c4, .ref c5, .ref c6, .ref c7, .ref c8, .ref c9]))) ab (.inl (G.2 0, 3744, .inr (.inl (stf g1 22 (2 * k1) (2 * k1) 0))))) av (.inl (G.2 2, 26, .inl (upd v 22 (v n0))))) md ab av c1 c2 c3 c4 c5 c6 c7 c8 c9 0 st (stf g1 22 (2 * k1) (2 * k1) 0) (upd v 22 (v n0)) 22 ((2 * k1) + 1) ((2 * k1) + 1) (-0) ((mu_n ne0_2).trans ((mu_n ne0_1).trans (mu_s _ _ _))) ((mu_n ((mp_ne hab hav (by simp)))).trans (mu_s _ _ _)) (mu_s _ _ _) (by omega) (by omega) (by omega)) (cwV 4 hts gX7_first_X7_set rfl rfl rfl (by decide +kernel) ⟨Nat.le_of_ble_eq_true rfl, Nat.le_of_ble_eq_true rfl⟩) ⟨KW.blind, hP.recv hK rfl ((mu_n ne0_2).trans ((mu_n ne0_1).trans (mu_s _ _ _))), fun U9 hU9 hW9 => ⟨rfl, KW.pre hBs hKK hS hP U9 hU9 hW9⟩⟩ rfl rfl hl.1 rfl (lv_room (Nat.le_of_ble_eq_true rfl)) dX7_first_160 ⟨(Nat.le_of_ble_eq_true rfl), (Nat.le_of_ble_eq_true rfl)⟩) hS (fun m160 H locs hq9 hP hz9 hS => ?_)
            rw [hq9] at hP
            have hP : mw G.1 vwCl B (mu (mu (mu μ md (.inr (7, [.int (nI 0), .ref ab, .ref av, .int (nI st), .ref c1, .ref c2, .ref c3, .ref c4, .ref c5, .ref c6, .ref c7, .ref c8, .ref c9]))) ab (.inl (G.2 0, 3744, .inr (.inl (stf (stf g1 22 (2 * k1) (2 * k1) 0) 22 ((2 * k1) + 1) ((2 * k1) + 1) (-0)))))) av (.inl (G.2 2, 26, .inl (upd v 22 (v n0))))) _ := mw_eq ((mu_c _ _ ((mp_ne hav hab (by simp)))).trans (congrArg (fun z => mu z av (.inl (G.2 2, 26, .inl (upd v 22 (v n0))))) (mu_u _ _ _ _))) hP
            refine lv_aload_n hx hb dX7_first_163 rfl (lv_at hl 3 rfl) ?_
            refine lv_bipush (v := nI 22) hx hb dX7_first_164 (by decide) ?_
            refine kc_v (va_runV (As := [.int (nI 22)]) (rest := []) ⟨hx, hb, hml, hown, hts⟩ (c_X7_close_z l G B (mu (mu (mu μ md (.inr (7, [.int (nI 0), .ref ab, .ref av, .int (nI st), .ref c1, .ref c2, .ref c3, .ref c4, .ref c5, .ref c6, .ref c7, .ref c8, .ref c9]))) ab (.inl (G.2 0, 3744, .inr (.inl (stf (stf g1 22 (2 * k1) (2 * k1) 0) 22 ((2 * k1) + 1) ((2 * k1) + 1) (-0)))))) av (.inl (G.2 2, 26, .inl (upd v 22 (v n0))))) md ab av c1 c2 c3 c4 c5 c6 c7 c8 c9 0 st (stf (stf g1 22 (2 * k1) (2 * k1) 0) 22 ((2 * k1) + 1) ((2 * k1) + 1) (-0)) (upd v 22 (v n0)) 22 ((mu_n ne0_2).trans ((mu_n ne0_1).trans (mu_s _ _ _))) ((mu_n ((mp_ne hab hav (by simp)))).trans (mu_s _ _ _)) (mu_s _ _ _) (by omega) (by rw [upd_s]; exact hNM.2.1 n0 (by omega)) ((hz.st (Or.inr rfl)).st (Or.inr (by decide)))) (cwV 1 hts gX7_first_X7_close rfl rfl rfl (by decide +kernel) ⟨Nat.le_of_ble_eq_true rfl, Nat.le_of_ble_eq_true rfl⟩) ⟨KW.blind, hP.recv hK rfl ((mu_n ne0_2).trans ((mu_n ne0_1).trans (mu_s _ _ _))), fun U9 hU9 hW9 => ⟨rfl, KW.pre hBs hKK hS hP U9 hU9 hW9⟩⟩ rfl rfl hl.1 rfl (lv_room (Nat.le_of_ble_eq_true rfl)) dX7_first_166 ⟨(Nat.le_of_ble_eq_true rfl), (Nat.le_of_ble_eq_true rfl)⟩) hS (fun m166 H locs hq9 hP hz9 hS => ?_)
            obtain ⟨g166, rfl, hZ166⟩ := hq9
            have hP : mw G.1 vwCl B (mu (mu (mu μ md (.inr (7, [.int (nI 0), .ref ab, .ref av, .int (nI st), .ref c1, .ref c2, .ref c3, .ref c4, .ref c5, .ref c6, .ref c7, .ref c8, .ref c9]))) ab (.inl (G.2 0, 3744, .inr (.inl g166)))) av (.inl (G.2 2, 26, .inl (upd v 22 (v n0))))) _ := mw_eq ((mu_c _ _ ((mp_ne hav hab (by simp)))).trans (congrArg (fun z => mu z av (.inl (G.2 2, 26, .inl (upd v 22 (v n0))))) (mu_u _ _ _ _))) hP
            refine lv_iinc (v := nI (k1 + 1)) (lv' := [(5, .int (nI (k1 + 1))), (3, .long 0), (8, .long r92), (6, .long r72), (0, .ref md), (1, .int (nI n0)), (2, .int (nI n1))]) hx hb dX7_first_169 hl (k := 6) rfl (nI_add _ _) (by decide) rfl (fun ls hl => ?_)
            refine lv_goto (tgt := 55) hx hb dX7_first_172 (by decide) ?_
            exact ih55 (k1 + 1) n0 n1 g166 (by omega) (by omega) (by omega) (by omega) (hok) (hZ166) _ _ hP hS ls (lv_sub hl [4, 5, 6, 1, 0] rfl)
          · refine lv_lload hx hb dX7_first_121 (lv_at hl 1 rfl) ?_
            refine lv_goto (tgt := 127) hx hb dX7_first_123 (by decide) ?_
            refine lv_topl (fun v127 ev127 => ?_)
            have hx0 : v127 = 0 := by
              have h9 : r72 = INF ∨ r72 = 0 := by rw [hr72]; exact hz.g (by omega) (by omega)
              rcases h9 with e9 | e9
              · rw [e9] at hc117; exact absurd (Int64.le_refl _) hc117
              · rw [ev127, e9]
            subst hx0
            refine lv_lstore_n (lv' := [(3, .long 0), (8, .long r92), (6, .long r72), (0, .ref md), (1, .int (nI n0)), (2, .int (nI n1)), (5, .int (nI k1))]) hx hb dX7_first_127 rfl hl (by decide) rfl (fun ls hl => ?_)
            refine lv_aload_n hx hb dX7_first_128 rfl (lv_at hl 3 rfl) ?_
            refine lv_bipush (v := nI 22) hx hb dX7_first_129 (by decide) ?_
            refine lv_iconst (v := nI 2) hx hb dX7_first_131 (by decide) ?_
            refine lv_iload hx hb dX7_first_132 (lv_at hl 6 rfl) ?_
            refine nv_imul hx hb dX7_first_134 ?_
            refine lv_iconst (v := nI 2) hx hb dX7_first_135 (by decide) ?_
            refine lv_iload hx hb dX7_first_136 (lv_at hl 6 rfl) ?_
            refine nv_imul hx hb dX7_first_138 ?_
            refine lv_lload_n hx hb dX7_first_139 rfl (lv_at hl 0 rfl) ?_
            refine kc_v (va_runV (As := [.int (nI 22), .int (nI (2 * k1)), .int (nI (2 * k1)), .long 0]) (rest := []) ⟨hx, hb, hml, hown, hts⟩ (c_X7_set l G B (mu (mu (mu μ md (.inr (7, [.int (nI 0), .ref ab, .ref av, .int (nI st), .ref c1, .ref c2, .ref c3, .ref c4, .ref c5, .ref c6, .ref c7, .ref c8, .ref c9]))) ab (.inl (G.2 0, 3744, .inr (.inl g1)))) av (.inl (G.2 2, 26, .inl (upd v 22 (v n0))))) md ab av c1 c2 c3 c4 c5 c6 c7 c8 c9 0 st g1 (upd v 22 (v n0)) 22 (2 * k1) (2 * k1) 0 ((mu_n ne0_2).trans ((mu_n ne0_1).trans (mu_s _ _ _))) ((mu_n ((mp_ne hab hav (by simp)))).trans (mu_s _ _ _)) (mu_s _ _ _) (by omega) (by omega) (by omega)) (cwV 4 hts gX7_first_X7_set rfl rfl rfl (by decide +kernel) ⟨Nat.le_of_ble_eq_true rfl, Nat.le_of_ble_eq_true rfl⟩) ⟨KW.blind, hP.recv hK rfl ((mu_n ne0_2).trans ((mu_n ne0_1).trans (mu_s _ _ _))), fun U9 hU9 hW9 => ⟨rfl, KW.pre hBs hKK hS hP U9 hU9 hW9⟩⟩ rfl rfl hl.1 rfl (lv_room (Nat.le_of_ble_eq_true rfl)) dX7_first_140 ⟨(Nat.le_of_ble_eq_true rfl), (Nat.le_of_ble_eq_true rfl)⟩) hS (fun m140 H locs hq9 hP hz9 hS => ?_)
            rw [hq9] at hP
            have hP : mw G.1 vwCl B (mu (mu (mu μ md (.inr (7, [.int (nI 0), .ref ab, .ref av, .int (nI st), .ref c1, .ref c2, .ref c3, .ref c4, .ref c5, .ref c6, .ref c7, .ref c8, .ref c9]))) ab (.inl (G.2 0, 3744, .inr (.inl (stf g1 22 (2 * k1) (2 * k1) 0))))) av (.inl (G.2 2, 26, .inl (upd v 22 (v n0))))) _ := mw_eq ((mu_c _ _ ((mp_ne hav hab (by simp)))).trans (congrArg (fun z => mu z av (.inl (G.2 2, 26, .inl (upd v 22 (v n0))))) (mu_u _ _ _ _))) hP
            refine lv_aload_n hx hb dX7_first_143 rfl (lv_at hl 3 rfl) ?_
            refine lv_bipush (v := nI 22) hx hb dX7_first_144 (by decide) ?_
            refine lv_iconst (v := nI 2) hx hb dX7_first_146 (by decide) ?_
            refine lv_iload hx hb dX7_first_147 (lv_at hl 6 rfl) ?_
            refine nv_imul hx hb dX7_first_149 ?_
            refine lv_iconst (v := nI 1) hx hb dX7_first_150 (by decide) ?_
            refine nv_iadd hx hb dX7_first_151 ?_
            refine lv_iconst (v := nI 2) hx hb dX7_first_152 (by decide) ?_
            refine lv_iload hx hb dX7_first_153 (lv_at hl 6 rfl) ?_
            refine nv_imul hx hb dX7_first_155 ?_
            refine lv_iconst (v := nI 1) hx hb dX7_first_156 (by decide) ?_
            refine nv_iadd hx hb dX7_first_157 ?_
            refine lv_lload_n hx hb dX7_first_158 rfl (lv_at hl 0 rfl) ?_
            refine lv_lneg hx hb dX7_first_159 ?_
            refine kc_v (va_runV (As := [.int (nI 22), .int (nI ((2 * k1) + 1)), .int (nI ((2 * k1) + 1)), .long (-0)]) (rest := []) ⟨hx, hb, hml, hown, hts⟩ (c_X7_set l G B (mu (mu (mu μ md (.inr (7, [.int (nI 0), .ref ab, .ref av, .int (nI st), .ref c1, .ref c2, .ref c3, .ref c4, .ref c5, .ref c6, .ref c7, .ref c8, .ref c9]))) ab (.inl (G.2 0, 3744, .inr (.inl (stf g1 22 (2 * k1) (2 * k1) 0))))) av (.inl (G.2 2, 26, .inl (upd v 22 (v n0))))) md ab av c1 c2 c3 c4 c5 c6 c7 c8 c9 0 st (stf g1 22 (2 * k1) (2 * k1) 0) (upd v 22 (v n0)) 22 ((2 * k1) + 1) ((2 * k1) + 1) (-0) ((mu_n ne0_2).trans ((mu_n ne0_1).trans (mu_s _ _ _))) ((mu_n ((mp_ne hab hav (by simp)))).trans (mu_s _ _ _)) (mu_s _ _ _) (by omega) (by omega) (by omega)) (cwV 4 hts gX7_first_X7_set rfl rfl rfl (by decide +kernel) ⟨Nat.le_of_ble_eq_true rfl, Nat.le_of_ble_eq_true rfl⟩) ⟨KW.blind, hP.recv hK rfl ((mu_n ne0_2).trans ((mu_n ne0_1).trans (mu_s _ _ _))), fun U9 hU9 hW9 => ⟨rfl, KW.pre hBs hKK hS hP U9 hU9 hW9⟩⟩ rfl rfl hl.1 rfl (lv_room (Nat.le_of_ble_eq_true rfl)) dX7_first_160 ⟨(Nat.le_of_ble_eq_true rfl), (Nat.le_of_ble_eq_true rfl)⟩) hS (fun m160 H locs hq9 hP hz9 hS => ?_)
            rw [hq9] at hP
            have hP : mw G.1 vwCl B (mu (mu (mu μ md (.inr (7, [.int (nI 0), .ref ab, .ref av, .int (nI st), .ref c1, .ref c2, .ref c3, .ref c4, .ref c5, .ref c6, .ref c7, .ref c8, .ref c9]))) ab (.inl (G.2 0, 3744, .inr (.inl (stf (stf g1 22 (2 * k1) (2 * k1) 0) 22 ((2 * k1) + 1) ((2 * k1) + 1) (-0)))))) av (.inl (G.2 2, 26, .inl (upd v 22 (v n0))))) _ := mw_eq ((mu_c _ _ ((mp_ne hav hab (by simp)))).trans (congrArg (fun z => mu z av (.inl (G.2 2, 26, .inl (upd v 22 (v n0))))) (mu_u _ _ _ _))) hP
            refine lv_aload_n hx hb dX7_first_163 rfl (lv_at hl 3 rfl) ?_
            refine lv_bipush (v := nI 22) hx hb dX7_first_164 (by decide) ?_
            refine kc_v (va_runV (As := [.int (nI 22)]) (rest := []) ⟨hx, hb, hml, hown, hts⟩ (c_X7_close_z l G B (mu (mu (mu μ md (.inr (7, [.int (nI 0), .ref ab, .ref av, .int (nI st), .ref c1, .ref c2, .ref c3, .ref c4, .ref c5, .ref c6, .ref c7, .ref c8, .ref c9]))) ab (.inl (G.2 0, 3744, .inr (.inl (stf (stf g1 22 (2 * k1) (2 * k1) 0) 22 ((2 * k1) + 1) ((2 * k1) + 1) (-0)))))) av (.inl (G.2 2, 26, .inl (upd v 22 (v n0))))) md ab av c1 c2 c3 c4 c5 c6 c7 c8 c9 0 st (stf (stf g1 22 (2 * k1) (2 * k1) 0) 22 ((2 * k1) + 1) ((2 * k1) + 1) (-0)) (upd v 22 (v n0)) 22 ((mu_n ne0_2).trans ((mu_n ne0_1).trans (mu_s _ _ _))) ((mu_n ((mp_ne hab hav (by simp)))).trans (mu_s _ _ _)) (mu_s _ _ _) (by omega) (by rw [upd_s]; exact hNM.2.1 n0 (by omega)) ((hz.st (Or.inr rfl)).st (Or.inr (by decide)))) (cwV 1 hts gX7_first_X7_close rfl rfl rfl (by decide +kernel) ⟨Nat.le_of_ble_eq_true rfl, Nat.le_of_ble_eq_true rfl⟩) ⟨KW.blind, hP.recv hK rfl ((mu_n ne0_2).trans ((mu_n ne0_1).trans (mu_s _ _ _))), fun U9 hU9 hW9 => ⟨rfl, KW.pre hBs hKK hS hP U9 hU9 hW9⟩⟩ rfl rfl hl.1 rfl (lv_room (Nat.le_of_ble_eq_true rfl)) dX7_first_166 ⟨(Nat.le_of_ble_eq_true rfl), (Nat.le_of_ble_eq_true rfl)⟩) hS (fun m166 H locs hq9 hP hz9 hS => ?_)
            obtain ⟨g166, rfl, hZ166⟩ := hq9
            have hP : mw G.1 vwCl B (mu (mu (mu μ md (.inr (7, [.int (nI 0), .ref ab, .ref av, .int (nI st), .ref c1, .ref c2, .ref c3, .ref c4, .ref c5, .ref c6, .ref c7, .ref c8, .ref c9]))) ab (.inl (G.2 0, 3744, .inr (.inl g166)))) av (.inl (G.2 2, 26, .inl (upd v 22 (v n0))))) _ := mw_eq ((mu_c _ _ ((mp_ne hav hab (by simp)))).trans (congrArg (fun z => mu z av (.inl (G.2 2, 26, .inl (upd v 22 (v n0))))) (mu_u _ _ _ _))) hP
            refine lv_iinc (v := nI (k1 + 1)) (lv' := [(5, .int (nI (k1 + 1))), (3, .long 0), (8, .long r92), (6, .long r72), (0, .ref md), (1, .int (nI n0)), (2, .int (nI n1))]) hx hb dX7_first_169 hl (k := 6) rfl (nI_add _ _) (by decide) rfl (fun ls hl => ?_)
            refine lv_goto (tgt := 55) hx hb dX7_first_172 (by decide) ?_
            exact ih55 (k1 + 1) n0 n1 g166 (by omega) (by omega) (by omega) (by omega) (hok) (hZ166) _ _ hP hS ls (lv_sub hl [4, 5, 6, 1, 0] rfl)
        · refine lv_lload hx hb dX7_first_106 (lv_at hl 0 rfl) ?_
          refine lv_lneg hx hb dX7_first_108 ?_
          refine lv_goto (tgt := 127) hx hb dX7_first_109 (by decide) ?_
          refine lv_topl (fun v127 ev127 => ?_)
          have hx0 : v127 = 0 := by
            have h9 : r92 = INF ∨ r92 = 0 := by rw [hr92]; exact hz.g (by omega) (by omega)
            rcases h9 with e9 | e9
            · rw [e9] at hc102; exact absurd (Int64.le_refl _) hc102
            · rw [ev127, e9]; decide
          subst hx0
          refine lv_lstore_n (lv' := [(3, .long 0), (8, .long r92), (6, .long r72), (0, .ref md), (1, .int (nI n0)), (2, .int (nI n1)), (5, .int (nI k1))]) hx hb dX7_first_127 rfl hl (by decide) rfl (fun ls hl => ?_)
          refine lv_aload_n hx hb dX7_first_128 rfl (lv_at hl 3 rfl) ?_
          refine lv_bipush (v := nI 22) hx hb dX7_first_129 (by decide) ?_
          refine lv_iconst (v := nI 2) hx hb dX7_first_131 (by decide) ?_
          refine lv_iload hx hb dX7_first_132 (lv_at hl 6 rfl) ?_
          refine nv_imul hx hb dX7_first_134 ?_
          refine lv_iconst (v := nI 2) hx hb dX7_first_135 (by decide) ?_
          refine lv_iload hx hb dX7_first_136 (lv_at hl 6 rfl) ?_
          refine nv_imul hx hb dX7_first_138 ?_
          refine lv_lload_n hx hb dX7_first_139 rfl (lv_at hl 0 rfl) ?_
          refine kc_v (va_runV (As := [.int (nI 22), .int (nI (2 * k1)), .int (nI (2 * k1)), .long 0]) (rest := []) ⟨hx, hb, hml, hown, hts⟩ (c_X7_set l G B (mu (mu (mu μ md (.inr (7, [.int (nI 0), .ref ab, .ref av, .int (nI st), .ref c1, .ref c2, .ref c3, .ref c4, .ref c5, .ref c6, .ref c7, .ref c8, .ref c9]))) ab (.inl (G.2 0, 3744, .inr (.inl g1)))) av (.inl (G.2 2, 26, .inl (upd v 22 (v n0))))) md ab av c1 c2 c3 c4 c5 c6 c7 c8 c9 0 st g1 (upd v 22 (v n0)) 22 (2 * k1) (2 * k1) 0 ((mu_n ne0_2).trans ((mu_n ne0_1).trans (mu_s _ _ _))) ((mu_n ((mp_ne hab hav (by simp)))).trans (mu_s _ _ _)) (mu_s _ _ _) (by omega) (by omega) (by omega)) (cwV 4 hts gX7_first_X7_set rfl rfl rfl (by decide +kernel) ⟨Nat.le_of_ble_eq_true rfl, Nat.le_of_ble_eq_true rfl⟩) ⟨KW.blind, hP.recv hK rfl ((mu_n ne0_2).trans ((mu_n ne0_1).trans (mu_s _ _ _))), fun U9 hU9 hW9 => ⟨rfl, KW.pre hBs hKK hS hP U9 hU9 hW9⟩⟩ rfl rfl hl.1 rfl (lv_room (Nat.le_of_ble_eq_true rfl)) dX7_first_140 ⟨(Nat.le_of_ble_eq_true rfl), (Nat.le_of_ble_eq_true rfl)⟩) hS (fun m140 H locs hq9 hP hz9 hS => ?_)
          rw [hq9] at hP
          have hP : mw G.1 vwCl B (mu (mu (mu μ md (.inr (7, [.int (nI 0), .ref ab, .ref av, .int (nI st), .ref c1, .ref c2, .ref c3, .ref c4, .ref c5, .ref c6, .ref c7, .ref c8, .ref c9]))) ab (.inl (G.2 0, 3744, .inr (.inl (stf g1 22 (2 * k1) (2 * k1) 0))))) av (.inl (G.2 2, 26, .inl (upd v 22 (v n0))))) _ := mw_eq ((mu_c _ _ ((mp_ne hav hab (by simp)))).trans (congrArg (fun z => mu z av (.inl (G.2 2, 26, .inl (upd v 22 (v n0))))) (mu_u _ _ _ _))) hP
          refine lv_aload_n hx hb dX7_first_143 rfl (lv_at hl 3 rfl) ?_
          refine lv_bipush (v := nI 22) hx hb dX7_first_144 (by decide) ?_
          refine lv_iconst (v := nI 2) hx hb dX7_first_146 (by decide) ?_
          refine lv_iload hx hb dX7_first_147 (lv_at hl 6 rfl) ?_
          refine nv_imul hx hb dX7_first_149 ?_
          refine lv_iconst (v := nI 1) hx hb dX7_first_150 (by decide) ?_
          refine nv_iadd hx hb dX7_first_151 ?_
          refine lv_iconst (v := nI 2) hx hb dX7_first_152 (by decide) ?_
          refine lv_iload hx hb dX7_first_153 (lv_at hl 6 rfl) ?_
          refine nv_imul hx hb dX7_first_155 ?_
          refine lv_iconst (v := nI 1) hx hb dX7_first_156 (by decide) ?_
          refine nv_iadd hx hb dX7_first_157 ?_
          refine lv_lload_n hx hb dX7_first_158 rfl (lv_at hl 0 rfl) ?_
          refine lv_lneg hx hb dX7_first_159 ?_
          refine kc_v (va_runV (As := [.int (nI 22), .int (nI ((2 * k1) + 1)), .int (nI ((2 * k1) + 1)), .long (-0)]) (rest := []) ⟨hx, hb, hml, hown, hts⟩ (c_X7_set l G B (mu (mu (mu μ md (.inr (7, [.int (nI 0), .ref ab, .ref av, .int (nI st), .ref c1, .ref c2, .ref c3, .ref c4, .ref c5, .ref c6, .ref c7, .ref c8, .ref c9]))) ab (.inl (G.2 0, 3744, .inr (.inl (stf g1 22 (2 * k1) (2 * k1) 0))))) av (.inl (G.2 2, 26, .inl (upd v 22 (v n0))))) md ab av c1 c2 c3 c4 c5 c6 c7 c8 c9 0 st (stf g1 22 (2 * k1) (2 * k1) 0) (upd v 22 (v n0)) 22 ((2 * k1) + 1) ((2 * k1) + 1) (-0) ((mu_n ne0_2).trans ((mu_n ne0_1).trans (mu_s _ _ _))) ((mu_n ((mp_ne hab hav (by simp)))).trans (mu_s _ _ _)) (mu_s _ _ _) (by omega) (by omega) (by omega)) (cwV 4 hts gX7_first_X7_set rfl rfl rfl (by decide +kernel) ⟨Nat.le_of_ble_eq_true rfl, Nat.le_of_ble_eq_true rfl⟩) ⟨KW.blind, hP.recv hK rfl ((mu_n ne0_2).trans ((mu_n ne0_1).trans (mu_s _ _ _))), fun U9 hU9 hW9 => ⟨rfl, KW.pre hBs hKK hS hP U9 hU9 hW9⟩⟩ rfl rfl hl.1 rfl (lv_room (Nat.le_of_ble_eq_true rfl)) dX7_first_160 ⟨(Nat.le_of_ble_eq_true rfl), (Nat.le_of_ble_eq_true rfl)⟩) hS (fun m160 H locs hq9 hP hz9 hS => ?_)
          rw [hq9] at hP
          have hP : mw G.1 vwCl B (mu (mu (mu μ md (.inr (7, [.int (nI 0), .ref ab, .ref av, .int (nI st), .ref c1, .ref c2, .ref c3, .ref c4, .ref c5, .ref c6, .ref c7, .ref c8, .ref c9]))) ab (.inl (G.2 0, 3744, .inr (.inl (stf (stf g1 22 (2 * k1) (2 * k1) 0) 22 ((2 * k1) + 1) ((2 * k1) + 1) (-0)))))) av (.inl (G.2 2, 26, .inl (upd v 22 (v n0))))) _ := mw_eq ((mu_c _ _ ((mp_ne hav hab (by simp)))).trans (congrArg (fun z => mu z av (.inl (G.2 2, 26, .inl (upd v 22 (v n0))))) (mu_u _ _ _ _))) hP
          refine lv_aload_n hx hb dX7_first_163 rfl (lv_at hl 3 rfl) ?_
          refine lv_bipush (v := nI 22) hx hb dX7_first_164 (by decide) ?_
          refine kc_v (va_runV (As := [.int (nI 22)]) (rest := []) ⟨hx, hb, hml, hown, hts⟩ (c_X7_close_z l G B (mu (mu (mu μ md (.inr (7, [.int (nI 0), .ref ab, .ref av, .int (nI st), .ref c1, .ref c2, .ref c3, .ref c4, .ref c5, .ref c6, .ref c7, .ref c8, .ref c9]))) ab (.inl (G.2 0, 3744, .inr (.inl (stf (stf g1 22 (2 * k1) (2 * k1) 0) 22 ((2 * k1) + 1) ((2 * k1) + 1) (-0)))))) av (.inl (G.2 2, 26, .inl (upd v 22 (v n0))))) md ab av c1 c2 c3 c4 c5 c6 c7 c8 c9 0 st (stf (stf g1 22 (2 * k1) (2 * k1) 0) 22 ((2 * k1) + 1) ((2 * k1) + 1) (-0)) (upd v 22 (v n0)) 22 ((mu_n ne0_2).trans ((mu_n ne0_1).trans (mu_s _ _ _))) ((mu_n ((mp_ne hab hav (by simp)))).trans (mu_s _ _ _)) (mu_s _ _ _) (by omega) (by rw [upd_s]; exact hNM.2.1 n0 (by omega)) ((hz.st (Or.inr rfl)).st (Or.inr (by decide)))) (cwV 1 hts gX7_first_X7_close rfl rfl rfl (by decide +kernel) ⟨Nat.le_of_ble_eq_true rfl, Nat.le_of_ble_eq_true rfl⟩) ⟨KW.blind, hP.recv hK rfl ((mu_n ne0_2).trans ((mu_n ne0_1).trans (mu_s _ _ _))), fun U9 hU9 hW9 => ⟨rfl, KW.pre hBs hKK hS hP U9 hU9 hW9⟩⟩ rfl rfl hl.1 rfl (lv_room (Nat.le_of_ble_eq_true rfl)) dX7_first_166 ⟨(Nat.le_of_ble_eq_true rfl), (Nat.le_of_ble_eq_true rfl)⟩) hS (fun m166 H locs hq9 hP hz9 hS => ?_)
          obtain ⟨g166, rfl, hZ166⟩ := hq9
          have hP : mw G.1 vwCl B (mu (mu (mu μ md (.inr (7, [.int (nI 0), .ref ab, .ref av, .int (nI st), .ref c1, .ref c2, .ref c3, .ref c4, .ref c5, .ref c6, .ref c7, .ref c8, .ref c9]))) ab (.inl (G.2 0, 3744, .inr (.inl g166)))) av (.inl (G.2 2, 26, .inl (upd v 22 (v n0))))) _ := mw_eq ((mu_c _ _ ((mp_ne hav hab (by simp)))).trans (congrArg (fun z => mu z av (.inl (G.2 2, 26, .inl (upd v 22 (v n0))))) (mu_u _ _ _ _))) hP
          refine lv_iinc (v := nI (k1 + 1)) (lv' := [(5, .int (nI (k1 + 1))), (3, .long 0), (8, .long r92), (6, .long r72), (0, .ref md), (1, .int (nI n0)), (2, .int (nI n1))]) hx hb dX7_first_169 hl (k := 6) rfl (nI_add _ _) (by decide) rfl (fun ls hl => ?_)
          refine lv_goto (tgt := 55) hx hb dX7_first_172 (by decide) ?_
          exact ih55 (k1 + 1) n0 n1 g166 (by omega) (by omega) (by omega) (by omega) (hok) (hZ166) _ _ hP hS ls (lv_sub hl [4, 5, 6, 1, 0] rfl)
  have hl := lv_entry ([.ref md, .int x9, .int y9]) (n := 10) (Nat.le_of_ble_eq_true rfl)
  have he9 : entryFrame m args 10 = entryFrame m ([.ref md, .int x9, .int y9] : List Value).toArray 10 := by rw [hargs]
  rw [he9, lg_entry_eq]
  generalize (lg_sl ([.ref md, .int x9, .int y9]) ++ List.replicate (10 - (lg_sl ([.ref md, .int x9, .int y9])).length) Slot.unset).toArray = ls at hl ⊢
  have hl : lv_has ls 10 [(0, .ref md), (1, .int x9), (2, .int y9)] := hl
  refine lv_aload_n hx hb dX7_first_0 rfl (lv_at hl 0 rfl) ?_
  refine lv_iload_n hx hb dX7_first_1 rfl (lv_at hl 1 rfl) ?_
  refine kc_i (va_runS (As := [.int x9]) (rest := [.ref md]) ⟨hx, hb, hml, hown, hts⟩ (c_X7_isSlot l G B (mu (mu (mu μ md (.inr (7, [.int (nI fl), .ref ab, .ref av, .int (nI st), .ref c1, .ref c2, .ref c3, .ref c4, .ref c5, .ref c6, .ref c7, .ref c8, .ref c9]))) ab (.inl (G.2 0, 3744, .inr (.inl f)))) av (.inl (G.2 2, 26, .inl v))) x9) (va_cwS 1 hts gX7_first_X7_isSlot rfl rfl rfl (by decide +kernel) ⟨Nat.le_of_ble_eq_true rfl, Nat.le_of_ble_eq_true rfl⟩) ⟨KW.blind, fun U9 hU9 hW9 => ⟨rfl, KW.pre hBs hKK hS hP U9 hU9 hW9⟩⟩ rfl rfl hl.1 rfl (lv_room (Nat.le_of_ble_eq_true rfl)) dX7_first_2 ⟨(Nat.le_of_ble_eq_true rfl), (Nat.le_of_ble_eq_true rfl)⟩) hS (fun r2 m2 H locs hq9 hP hz9 hS => ?_)
  obtain ⟨he9, hy2⟩ := hq9
  rw [he9] at hP
  refine lv_if_eq (tgt := 17) hx hb dX7_first_5 (by decide) (fun hc5 => ?_) (fun hc5 => ?_)
  · refine lv_iconst (v := nI 1) hx hb dX7_first_17 (by decide) ?_
    refine lv_goto (tgt := 35) hx hb dX7_first_18 (by decide) ?_
    refine kc_i (va_runV (As := [.int (nI 1)]) (rest := []) ⟨hx, hb, hml, hown, hts⟩ (c_X7_refused l G B (mu (mu (mu μ md (.inr (7, [.int (nI fl), .ref ab, .ref av, .int (nI st), .ref c1, .ref c2, .ref c3, .ref c4, .ref c5, .ref c6, .ref c7, .ref c8, .ref c9]))) ab (.inl (G.2 0, 3744, .inr (.inl f)))) av (.inl (G.2 2, 26, .inl v))) md ab av c1 c2 c3 c4 c5 c6 c7 c8 c9 fl st f v 1 ((mu_n ne0_2).trans ((mu_n ne0_1).trans (mu_s _ _ _))) ((mu_n ((mp_ne hab hav (by simp)))).trans (mu_s _ _ _)) (mu_s _ _ _) (by omega)) (cwV 1 hts gX7_first_X7_refused rfl rfl rfl (by decide +kernel) ⟨Nat.le_of_ble_eq_true rfl, Nat.le_of_ble_eq_true rfl⟩) ⟨KW.blind, hP.recv hK rfl ((mu_n ne0_2).trans ((mu_n ne0_1).trans (mu_s _ _ _))), fun U9 hU9 hW9 => ⟨rfl, KW.pre hBs hKK hS hP U9 hU9 hW9⟩⟩ rfl rfl hl.1 rfl (lv_room (Nat.le_of_ble_eq_true rfl)) dX7_first_35 ⟨(Nat.le_of_ble_eq_true rfl), (Nat.le_of_ble_eq_true rfl)⟩) hS (fun r35 m35 H locs hq9 hP hz9 hS => ?_)
    obtain ⟨he9, hw0, hw1⟩ := hq9
    rw [he9] at hP
    have hP : mw G.1 vwCl B (mu (mu (mu μ md (.inr (7, [.int (nI 1), .ref ab, .ref av, .int (nI st), .ref c1, .ref c2, .ref c3, .ref c4, .ref c5, .ref c6, .ref c7, .ref c8, .ref c9]))) ab (.inl (G.2 0, 3744, .inr (.inl f)))) av (.inl (G.2 2, 26, .inl v))) _ := mw_eq ((mu_c _ _ ((Ne.symm ne0_2))).trans (congrArg (fun z => mu z av (.inl (G.2 2, 26, .inl v))) ((mu_c _ _ ((Ne.symm ne0_1))).trans (congrArg (fun z => mu z ab (.inl (G.2 0, 3744, .inr (.inl f)))) (mu_u _ _ _ _))))) hP
    obtain rfl : r35 = nI 1 := hw1 (by decide)
    refine lv_if_eq (tgt := 43) hx hb dX7_first_38 (by decide) (fun hc38 => ?_) (fun hc38 => ?_)
    · exact absurd hc38 (by decide)
    · refine lv_lconst (v := 0) hx hb dX7_first_41 (by decide) ?_
      rw [hQ]
      exact W.lret (v := 0) hx hb hr (fun t99 ht99 hW99 => ⟨⟨0, mu (mu (mu μ md (.inr (7, [.int (nI 1), .ref ab, .ref av, .int (nI st), .ref c1, .ref c2, .ref c3, .ref c4, .ref c5, .ref c6, .ref c7, .ref c8, .ref c9]))) ab (.inl (G.2 0, 3744, .inr (.inl f)))) av (.inl (G.2 2, 26, .inl v)), rfl, (⟨_, _, _, rfl, Or.inr ⟨rfl, fun h9 => by first | exact yn_f hy2 hc5 h9.1 | exact yn_f hy11 hc14 (isI_S.mpr h9.2)⟩⟩), by show mw _ _ _ _ t99.heap; rw [ht99]; exact hP⟩, hS.F ht99⟩) hS.2.2 dX7_first_42
  · refine lv_iload_n hx hb dX7_first_8 rfl (lv_at hl 2 rfl) ?_
    refine lv_iconst (v := nI 0) hx hb dX7_first_9 (by decide) ?_
    refine lv_iconst (v := nI 5) hx hb dX7_first_10 (by decide) ?_
    refine kc_i (va_runS (As := [.int y9, .int (nI 0), .int (nI 5)]) (rest := [.ref md]) ⟨hx, hb, hml, hown, hts⟩ (c_X7_isIn l G B (mu (mu (mu μ md (.inr (7, [.int (nI fl), .ref ab, .ref av, .int (nI st), .ref c1, .ref c2, .ref c3, .ref c4, .ref c5, .ref c6, .ref c7, .ref c8, .ref c9]))) ab (.inl (G.2 0, 3744, .inr (.inl f)))) av (.inl (G.2 2, 26, .inl v))) y9 (nI 0) (nI 5)) (va_cwS 3 hts gX7_first_X7_isIn rfl rfl rfl (by decide +kernel) ⟨Nat.le_of_ble_eq_true rfl, Nat.le_of_ble_eq_true rfl⟩) ⟨KW.blind, fun U9 hU9 hW9 => ⟨rfl, KW.pre hBs hKK hS hP U9 hU9 hW9⟩⟩ rfl rfl hl.1 rfl (lv_room (Nat.le_of_ble_eq_true rfl)) dX7_first_11 ⟨(Nat.le_of_ble_eq_true rfl), (Nat.le_of_ble_eq_true rfl)⟩) hS (fun r11 m11 H locs hq9 hP hz9 hS => ?_)
    obtain ⟨he9, hy11⟩ := hq9
    rw [he9] at hP
    refine lv_if_ne (tgt := 21) hx hb dX7_first_14 (by decide) (fun hc14 => ?_) (fun hc14 => ?_)
    · have hok : okS x9 ∧ okS y9 := ⟨yn_t hy2 hc5, isI_S.mp (yn_t hy11 hc14)⟩
      obtain ⟨nx9, hnx9, enx9⟩ := ok_nat (n := 6) (by decide) hok.1
      subst enx9
      obtain ⟨ny9, hny9, eny9⟩ := ok_nat (n := 6) (by decide) hok.2
      subst eny9
      refine lv_aload_n hx hb dX7_first_21 rfl (lv_at hl 0 rfl) ?_
      refine mw_get (C := RX7) (T := TX7) (N := 13) hx hb hts in_X7_first_X7 hown hK hP ((mu_n ne0_2).trans ((mu_n ne0_1).trans (mu_s _ _ _))) rfl 2 (by decide) (hts (.fieldLink RX7 13 "OctagonDeskModel" "isVoid" "[Z") (by decide +kernel)) (fun _ h9 => h9) rfl dX7_first_22 ?_
      refine lv_iload_n hx hb dX7_first_25 rfl (lv_at hl 1 rfl) ?_
      refine mw_zald hx hb hK hP 2 (mu_s _ _ _) rfl (by omega) (by omega) dX7_first_26 ?_
      refine lv_if_eq (tgt := 34) hx hb dX7_first_27 (by decide) (fun hc27 => ?_) (fun hc27 => ?_)
      · refine lv_iconst (v := nI 0) hx hb dX7_first_34 (by decide) ?_
        refine kc_i (va_runV (As := [.int (nI 0)]) (rest := []) ⟨hx, hb, hml, hown, hts⟩ (c_X7_refused l G B (mu (mu (mu μ md (.inr (7, [.int (nI fl), .ref ab, .ref av, .int (nI st), .ref c1, .ref c2, .ref c3, .ref c4, .ref c5, .ref c6, .ref c7, .ref c8, .ref c9]))) ab (.inl (G.2 0, 3744, .inr (.inl f)))) av (.inl (G.2 2, 26, .inl v))) md ab av c1 c2 c3 c4 c5 c6 c7 c8 c9 fl st f v 0 ((mu_n ne0_2).trans ((mu_n ne0_1).trans (mu_s _ _ _))) ((mu_n ((mp_ne hab hav (by simp)))).trans (mu_s _ _ _)) (mu_s _ _ _) (by omega)) (cwV 1 hts gX7_first_X7_refused rfl rfl rfl (by decide +kernel) ⟨Nat.le_of_ble_eq_true rfl, Nat.le_of_ble_eq_true rfl⟩) ⟨KW.blind, hP.recv hK rfl ((mu_n ne0_2).trans ((mu_n ne0_1).trans (mu_s _ _ _))), fun U9 hU9 hW9 => ⟨rfl, KW.pre hBs hKK hS hP U9 hU9 hW9⟩⟩ rfl rfl hl.1 rfl (lv_room (Nat.le_of_ble_eq_true rfl)) dX7_first_35 ⟨(Nat.le_of_ble_eq_true rfl), (Nat.le_of_ble_eq_true rfl)⟩) hS (fun r35 m35 H locs hq9 hP hz9 hS => ?_)
        obtain ⟨he9, hw0, hw1⟩ := hq9
        rw [he9] at hP
        have hP : mw G.1 vwCl B (mu (mu (mu μ md (.inr (7, [.int (nI 0), .ref ab, .ref av, .int (nI st), .ref c1, .ref c2, .ref c3, .ref c4, .ref c5, .ref c6, .ref c7, .ref c8, .ref c9]))) ab (.inl (G.2 0, 3744, .inr (.inl f)))) av (.inl (G.2 2, 26, .inl v))) _ := mw_eq ((mu_c _ _ ((Ne.symm ne0_2))).trans (congrArg (fun z => mu z av (.inl (G.2 2, 26, .inl v))) ((mu_c _ _ ((Ne.symm ne0_1))).trans (congrArg (fun z => mu z ab (.inl (G.2 0, 3744, .inr (.inl f)))) (mu_u _ _ _ _))))) hP
        obtain rfl : r35 = nI 0 := hw0 rfl
        refine lv_if_eq (tgt := 43) hx hb dX7_first_38 (by decide) (fun hc38 => ?_) (fun hc38 => ?_)
        · refine lv_aload_n hx hb dX7_first_43 rfl (lv_at hl 0 rfl) ?_
          refine lv_bipush (v := nI 22) hx hb dX7_first_44 (by decide) ?_
          refine lv_iload_n hx hb dX7_first_46 rfl (lv_at hl 1 rfl) ?_
          refine kc_v (va_runV (As := [.int (nI 22), .int (nI nx9)]) (rest := []) ⟨hx, hb, hml, hown, hts⟩ (c_X7_load l G B (mu (mu (mu μ md (.inr (7, [.int (nI 0), .ref ab, .ref av, .int (nI st), .ref c1, .ref c2, .ref c3, .ref c4, .ref c5, .ref c6, .ref c7, .ref c8, .ref c9]))) ab (.inl (G.2 0, 3744, .inr (.inl f)))) av (.inl (G.2 2, 26, .inl v))) md ab av c1 c2 c3 c4 c5 c6 c7 c8 c9 0 st f v 22 nx9 ((mu_n ne0_2).trans ((mu_n ne0_1).trans (mu_s _ _ _))) ((mu_n ((mp_ne hab hav (by simp)))).trans (mu_s _ _ _)) (mu_s _ _ _) (by omega) (by omega) (hNM.2.2.2 nx9)) (cwV 2 hts gX7_first_X7_load rfl rfl rfl (by decide +kernel) ⟨Nat.le_of_ble_eq_true rfl, Nat.le_of_ble_eq_true rfl⟩) ⟨KW.blind, hP.recv hK rfl ((mu_n ne0_2).trans ((mu_n ne0_1).trans (mu_s _ _ _))), fun U9 hU9 hW9 => ⟨rfl, KW.pre hBs hKK hS hP U9 hU9 hW9⟩⟩ rfl rfl hl.1 rfl (lv_room (Nat.le_of_ble_eq_true rfl)) dX7_first_47 ⟨(Nat.le_of_ble_eq_true rfl), (Nat.le_of_ble_eq_true rfl)⟩) hS (fun m47 H locs hq9 hP hz9 hS => ?_)
          obtain ⟨g47, rfl, hL47⟩ := hq9
          have hP : mw G.1 vwCl B (mu (mu (mu μ md (.inr (7, [.int (nI 0), .ref ab, .ref av, .int (nI st), .ref c1, .ref c2, .ref c3, .ref c4, .ref c5, .ref c6, .ref c7, .ref c8, .ref c9]))) ab (.inl (G.2 0, 3744, .inr (.inl g47)))) av (.inl (G.2 2, 26, .inl (upd v 22 (v nx9))))) _ := mw_eq ((congrArg (fun z => mu z av (.inl (G.2 2, 26, .inl (upd v 22 (v nx9))))) ((mu_c _ _ ((mp_ne hav hab (by simp)))).trans (congrArg (fun z => mu z av (.inl (G.2 2, 26, .inl v))) (mu_u _ _ _ _)))).trans (mu_u _ _ _ _)) hP
          refine lv_lconst (v := 0) hx hb dX7_first_50 (by decide) ?_
          refine lv_lstore_n (lv' := [(3, .long 0), (0, .ref md), (1, .int (nI nx9)), (2, .int (nI ny9))]) hx hb dX7_first_51 rfl hl (by decide) rfl (fun ls hl => ?_)
          refine lv_iconst (v := nI 0) hx hb dX7_first_52 (by decide) ?_
          refine lv_istore (lv' := [(5, .int (nI 0)), (3, .long 0), (0, .ref md), (1, .int (nI nx9)), (2, .int (nI ny9))]) hx hb dX7_first_53 hl (by decide) rfl (fun ls hl => ?_)
          exact L55 _ 0 nx9 ny9 g47 (Nat.lt_succ_self _) (by omega) (by omega) (by omega) (hok) (Zs.ld hL47 (hNM.1 nx9 (by omega))) _ _ hP hS ls (lv_sub hl [2, 3, 4, 1, 0] rfl)
        · exact absurd rfl hc38
      · exact absurd (hNM.2.1 nx9 (by omega)) hc27
    · refine lv_iconst (v := nI 1) hx hb dX7_first_17 (by decide) ?_
      refine lv_goto (tgt := 35) hx hb dX7_first_18 (by decide) ?_
      refine kc_i (va_runV (As := [.int (nI 1)]) (rest := []) ⟨hx, hb, hml, hown, hts⟩ (c_X7_refused l G B (mu (mu (mu μ md (.inr (7, [.int (nI fl), .ref ab, .ref av, .int (nI st), .ref c1, .ref c2, .ref c3, .ref c4, .ref c5, .ref c6, .ref c7, .ref c8, .ref c9]))) ab (.inl (G.2 0, 3744, .inr (.inl f)))) av (.inl (G.2 2, 26, .inl v))) md ab av c1 c2 c3 c4 c5 c6 c7 c8 c9 fl st f v 1 ((mu_n ne0_2).trans ((mu_n ne0_1).trans (mu_s _ _ _))) ((mu_n ((mp_ne hab hav (by simp)))).trans (mu_s _ _ _)) (mu_s _ _ _) (by omega)) (cwV 1 hts gX7_first_X7_refused rfl rfl rfl (by decide +kernel) ⟨Nat.le_of_ble_eq_true rfl, Nat.le_of_ble_eq_true rfl⟩) ⟨KW.blind, hP.recv hK rfl ((mu_n ne0_2).trans ((mu_n ne0_1).trans (mu_s _ _ _))), fun U9 hU9 hW9 => ⟨rfl, KW.pre hBs hKK hS hP U9 hU9 hW9⟩⟩ rfl rfl hl.1 rfl (lv_room (Nat.le_of_ble_eq_true rfl)) dX7_first_35 ⟨(Nat.le_of_ble_eq_true rfl), (Nat.le_of_ble_eq_true rfl)⟩) hS (fun r35 m35 H locs hq9 hP hz9 hS => ?_)
      obtain ⟨he9, hw0, hw1⟩ := hq9
      rw [he9] at hP
      have hP : mw G.1 vwCl B (mu (mu (mu μ md (.inr (7, [.int (nI 1), .ref ab, .ref av, .int (nI st), .ref c1, .ref c2, .ref c3, .ref c4, .ref c5, .ref c6, .ref c7, .ref c8, .ref c9]))) ab (.inl (G.2 0, 3744, .inr (.inl f)))) av (.inl (G.2 2, 26, .inl v))) _ := mw_eq ((mu_c _ _ ((Ne.symm ne0_2))).trans (congrArg (fun z => mu z av (.inl (G.2 2, 26, .inl v))) ((mu_c _ _ ((Ne.symm ne0_1))).trans (congrArg (fun z => mu z ab (.inl (G.2 0, 3744, .inr (.inl f)))) (mu_u _ _ _ _))))) hP
      obtain rfl : r35 = nI 1 := hw1 (by decide)
      refine lv_if_eq (tgt := 43) hx hb dX7_first_38 (by decide) (fun hc38 => ?_) (fun hc38 => ?_)
      · exact absurd hc38 (by decide)
      · refine lv_lconst (v := 0) hx hb dX7_first_41 (by decide) ?_
        rw [hQ]
        exact W.lret (v := 0) hx hb hr (fun t99 ht99 hW99 => ⟨⟨0, mu (mu (mu μ md (.inr (7, [.int (nI 1), .ref ab, .ref av, .int (nI st), .ref c1, .ref c2, .ref c3, .ref c4, .ref c5, .ref c6, .ref c7, .ref c8, .ref c9]))) ab (.inl (G.2 0, 3744, .inr (.inl f)))) av (.inl (G.2 2, 26, .inl v)), rfl, (⟨_, _, _, rfl, Or.inr ⟨rfl, fun h9 => by first | exact yn_f hy2 hc5 h9.1 | exact yn_f hy11 hc14 (isI_S.mpr h9.2)⟩⟩), by show mw _ _ _ _ t99.heap; rw [ht99]; exact hP⟩, hS.F ht99⟩) hS.2.2 dX7_first_42

abbrev rm_X7_run : Room := { frames := 2, cells := 0, slots := 0, locals := 42 }
set_option maxHeartbeats 4000000 in
set_option maxRecDepth 100000 in
theorem c_X7_run (l : Launch) (G : GG) (B : Nat) (μ : mp) (md ab av c1 c2 c3 c4 c5 c6 c7 c8 c9 fl st : Nat) (f : Nat → Int64) (v : Nat → Int32) (x9 : Int32) (hm : μ md = some (.inr (7, [.int (nI fl), .ref ab, .ref av, .int (nI st), .ref c1, .ref c2, .ref c3, .ref c4, .ref c5, .ref c6, .ref c7, .ref c8, .ref c9]))) (hab : μ ab = some (.inl (G.2 0, 3744, .inr (.inl f)))) (hav : μ av = some (.inl (G.2 2, 26, .inl v))) (hNM : NM f v) (hst : st = 0) : Met l yX7_run wsX7_run rm_X7_run (va_Pc [.ref md, .int x9] (KW G B μ)) (va_Qi (fun r μ2 => ∃ (fl9 : Nat) (g9 : Nat → Int64) (w9 : Nat → Int32), μ2 = mu (mu (mu μ md (.inr (7, [.int (nI fl9), .ref ab, .ref av, .int (nI st), .ref c1, .ref c2, .ref c3, .ref c4, .ref c5, .ref c6, .ref c7, .ref c8, .ref c9]))) ab (.inl (G.2 0, 3744, .inr (.inl g9)))) av (.inl (G.2 2, 26, .inl w9)) ∧ ((fl9 = 0 ∧ (okS x9) ∧ r = 1) ∨ (fl9 = 1 ∧ ¬ (okS x9)))) (BB G B) (fun q => B ≤ q)) 0 0 (fun q => B ≤ q) := by
  refine Met.ofW (cc := cX7_run) (maxL := 6) (ret := (some .int)) (by decide) rfl ?_
  intro p e s m args below meth c s₁ B9 hml hv
  obtain ⟨hargs, hBs, hP, hKK⟩ := hv
  have hx := B9.exec
  have hb := B9.bytes
  have hr := B9.returns
  have hts := atoms_spec (ws := wsX7_run) B9.pre
  have hown : s.vm.findClass RX7 = some m.cls := findClass_of_methodNamed B9.named
  have hlocks := B9.notSynchronized
  have hK := hKK.k
  have hS : va_S (fun q => B ≤ q) s.heap s.heap [] := va_S.rf
  obtain ⟨Q, hQ⟩ : ∃ Q, Q = MQ below (va_Qi (fun r μ2 => ∃ (fl9 : Nat) (g9 : Nat → Int64) (w9 : Nat → Int32), μ2 = mu (mu (mu μ md (.inr (7, [.int (nI fl9), .ref ab, .ref av, .int (nI st), .ref c1, .ref c2, .ref c3, .ref c4, .ref c5, .ref c6, .ref c7, .ref c8, .ref c9]))) ab (.inl (G.2 0, 3744, .inr (.inl g9)))) av (.inl (G.2 2, 26, .inl w9)) ∧ ((fl9 = 0 ∧ (okS x9) ∧ r = 1) ∨ (fl9 = 1 ∧ ¬ (okS x9)))) (BB G B) (fun q => B ≤ q)) args s 0 0 (fun q => B ≤ q) := ⟨_, rfl⟩
  rw [← hQ]
  have ne0_1 : md ≠ ab := mp_ne hm hab (by simp)
  have ne0_2 : md ≠ av := mp_ne hm hav (by simp)
  have in_X7_run_X7 : ∀ w ∈ wsX70, w ∈ wsX7_run := by decide +kernel
  have hP : mw G.1 vwCl B (mu (mu (mu μ md (.inr (7, [.int (nI fl), .ref ab, .ref av, .int (nI st), .ref c1, .ref c2, .ref c3, .ref c4, .ref c5, .ref c6, .ref c7, .ref c8, .ref c9]))) ab (.inl (G.2 0, 3744, .inr (.inl f)))) av (.inl (G.2 2, 26, .inl v))) s.heap := mw_eq ((congrArg (fun z => mu z av (.inl (G.2 2, 26, .inl v))) ((congrArg (fun z => mu z ab (.inl (G.2 0, 3744, .inr (.inl f)))) (mu_i hm)).trans (mu_i hab))).trans (mu_i hav)).symm hP
  have L133 : ∀ (N133 : Nat) (p1 : Nat) (g1 : Nat → Int64) (w1 : Nat → Int32) (hN133 : 8 - p1 < N133) (hp1 : p1 ≤ 8) (hok : okS x9) (hVB : VB w1), ∀ (H : Heap) (locs : List Loc), mw G.1 vwCl B (mu (mu (mu μ md (.inr (7, [.int (nI 0), .ref ab, .ref av, .int (nI st), .ref c1, .ref c2, .ref c3, .ref c4, .ref c5, .ref c6, .ref c7, .ref c8, .ref c9]))) ab (.inl (G.2 0, 3744, .inr (.inl g1)))) av (.inl (G.2 2, 26, .inl w1))) H → va_S (fun q => B ≤ q) s.heap H locs → ∀ ls : Array Slot, lv_has ls 6 [(0, .ref md), (2, .int (nI 1)), (4, .int (nI p1))] → W p l e rm_X7_run s m args below meth c H locs 0 0 Q (F0 m 133 ls []) := by
    intro N133
    induction N133 with
    | zero => intro p1 g1 w1 hN133; exact absurd hN133 (Nat.not_lt_zero _)
    | succ N133 ih133 =>
      intro p1 g1 w1 hN133 hp1 hok hVB H locs hP hS ls hl
      refine lv_iload hx hb dX7_run_133 (lv_at hl 2 rfl) ?_
      refine lv_bipush (v := nI 8) hx hb dX7_run_135 (by decide) ?_
      refine nv_icmp_ge (tgt := 160) hx hb (by omega) (by omega) dX7_run_137 (by decide) (fun hc137 => ?_) (fun hc137 => ?_)
      · refine lv_iload_n hx hb dX7_run_160 rfl (lv_at hl 1 rfl) ?_
        rw [hQ]
        exact W.iret (v := nI 1) hx hb hr (fun t99 ht99 hW99 => ⟨⟨nI 1, mu (mu (mu μ md (.inr (7, [.int (nI 0), .ref ab, .ref av, .int (nI st), .ref c1, .ref c2, .ref c3, .ref c4, .ref c5, .ref c6, .ref c7, .ref c8, .ref c9]))) ab (.inl (G.2 0, 3744, .inr (.inl g1)))) av (.inl (G.2 2, 26, .inl w1)), rfl, (⟨_, _, _, rfl, Or.inl ⟨rfl, hok, rfl⟩⟩), by show mw _ _ _ _ t99.heap; rw [ht99]; exact hP⟩, hS.F ht99⟩) hS.2.2 dX7_run_161
      · refine lv_aload_n hx hb dX7_run_140 rfl (lv_at hl 0 rfl) ?_
        refine lv_bipush (v := nI 6) hx hb dX7_run_141 (by decide) ?_
        refine lv_iload hx hb dX7_run_143 (lv_at hl 2 rfl) ?_
        refine nv_iadd hx hb dX7_run_145 ?_
        refine lv_bipush (v := nI 14) hx hb dX7_run_146 (by decide) ?_
        refine lv_iload hx hb dX7_run_148 (lv_at hl 2 rfl) ?_
        refine nv_iadd hx hb dX7_run_150 ?_
        refine kc_v (va_runV (As := [.int (nI (6 + p1)), .int (nI (14 + p1))]) (rest := []) ⟨hx, hb, hml, hown, hts⟩ (c_X7_load l G B (mu (mu (mu μ md (.inr (7, [.int (nI 0), .ref ab, .ref av, .int (nI st), .ref c1, .ref c2, .ref c3, .ref c4, .ref c5, .ref c6, .ref c7, .ref c8, .ref c9]))) ab (.inl (G.2 0, 3744, .inr (.inl g1)))) av (.inl (G.2 2, 26, .inl w1))) md ab av c1 c2 c3 c4 c5 c6 c7 c8 c9 0 st g1 w1 (6 + p1) (14 + p1) ((mu_n ne0_2).trans ((mu_n ne0_1).trans (mu_s _ _ _))) ((mu_n ((mp_ne hab hav (by simp)))).trans (mu_s _ _ _)) (mu_s _ _ _) (by omega) (by omega) (hVB (14 + p1))) (cwV 2 hts gX7_run_X7_load rfl rfl rfl (by decide +kernel) ⟨Nat.le_of_ble_eq_true rfl, Nat.le_of_ble_eq_true rfl⟩) ⟨KW.blind, hP.recv hK rfl ((mu_n ne0_2).trans ((mu_n ne0_1).trans (mu_s _ _ _))), fun U9 hU9 hW9 => ⟨rfl, KW.pre hBs hKK hS hP U9 hU9 hW9⟩⟩ rfl rfl hl.1 rfl (lv_room (Nat.le_of_ble_eq_true rfl)) dX7_run_151 ⟨(Nat.le_of_ble_eq_true rfl), (Nat.le_of_ble_eq_true rfl)⟩) hS (fun m151 H locs hq9 hP hz9 hS => ?_)
        obtain ⟨g151, rfl, hL151⟩ := hq9
        have hP : mw G.1 vwCl B (mu (mu (mu μ md (.inr (7, [.int (nI 0), .ref ab, .ref av, .int (nI st), .ref c1, .ref c2, .ref c3, .ref c4, .ref c5, .ref c6, .ref c7, .ref c8, .ref c9]))) ab (.inl (G.2 0, 3744, .inr (.inl g151)))) av (.inl (G.2 2, 26, .inl (upd w1 (6 + p1) (w1 (14 + p1)))))) _ := mw_eq ((congrArg (fun z => mu z av (.inl (G.2 2, 26, .inl (upd w1 (6 + p1) (w1 (14 + p1)))))) ((mu_c _ _ ((mp_ne hav hab (by simp)))).trans (congrArg (fun z => mu z av (.inl (G.2 2, 26, .inl w1))) (mu_u _ _ _ _)))).trans (mu_u _ _ _ _)) hP
        refine lv_iinc (v := nI (p1 + 1)) (lv' := [(4, .int (nI (p1 + 1))), (0, .ref md), (2, .int (nI 1))]) hx hb dX7_run_154 hl (k := 2) rfl (nI_add _ _) (by decide) rfl (fun ls hl => ?_)
        refine lv_goto (tgt := 133) hx hb dX7_run_157 (by decide) ?_
        exact ih133 (p1 + 1) g151 (upd w1 (6 + p1) (w1 (14 + p1))) (by omega) (by omega) (hok) ((VB.u hVB (hVB (14 + p1)))) _ _ hP hS ls (lv_sub hl [1, 2, 0] rfl)
  have L23 : ∀ (N23 : Nat) (p1 : Nat) (n0 : Nat) (g1 : Nat → Int64) (w1 : Nat → Int32) (hN23 : 8 - p1 < N23) (hp1 : p1 ≤ 8) (hn0 : n0 < 6) (hok : okS x9) (hVB : VB w1), ∀ (H : Heap) (locs : List Loc), mw G.1 vwCl B (mu (mu (mu μ md (.inr (7, [.int (nI 0), .ref ab, .ref av, .int (nI st), .ref c1, .ref c2, .ref c3, .ref c4, .ref c5, .ref c6, .ref c7, .ref c8, .ref c9]))) ab (.inl (G.2 0, 3744, .inr (.inl g1)))) av (.inl (G.2 2, 26, .inl w1))) H → va_S (fun q => B ≤ q) s.heap H locs → ∀ ls : Array Slot, lv_has ls 6 [(0, .ref md), (1, .int (nI n0)), (2, .int (nI p1))] → W p l e rm_X7_run s m args below meth c H locs 0 0 Q (F0 m 23 ls []) := by
    intro N23
    induction N23 with
    | zero => intro p1 n0 g1 w1 hN23; exact absurd hN23 (Nat.not_lt_zero _)
    | succ N23 ih23 =>
      intro p1 n0 g1 w1 hN23 hp1 hn0 hok hVB H locs hP hS ls hl
      refine lv_iload_n hx hb dX7_run_23 rfl (lv_at hl 2 rfl) ?_
      refine lv_bipush (v := nI 8) hx hb dX7_run_24 (by decide) ?_
      refine nv_icmp_ge (tgt := 53) hx hb (by omega) (by omega) dX7_run_26 (by decide) (fun hc26 => ?_) (fun hc26 => ?_)
      · refine lv_aload_n hx hb dX7_run_53 rfl (lv_at hl 0 rfl) ?_
        refine lv_bipush (v := nI 14) hx hb dX7_run_54 (by decide) ?_
        refine lv_iload_n hx hb dX7_run_56 rfl (lv_at hl 1 rfl) ?_
        refine kc_v (va_runV (As := [.int (nI 14), .int (nI n0)]) (rest := []) ⟨hx, hb, hml, hown, hts⟩ (c_X7_load l G B (mu (mu (mu μ md (.inr (7, [.int (nI 0), .ref ab, .ref av, .int (nI st), .ref c1, .ref c2, .ref c3, .ref c4, .ref c5, .ref c6, .ref c7, .ref c8, .ref c9]))) ab (.inl (G.2 0, 3744, .inr (.inl g1)))) av (.inl (G.2 2, 26, .inl w1))) md ab av c1 c2 c3 c4 c5 c6 c7 c8 c9 0 st g1 w1 14 n0 ((mu_n ne0_2).trans ((mu_n ne0_1).trans (mu_s _ _ _))) ((mu_n ((mp_ne hab hav (by simp)))).trans (mu_s _ _ _)) (mu_s _ _ _) (by omega) (by omega) (hVB n0)) (cwV 2 hts gX7_run_X7_load rfl rfl rfl (by decide +kernel) ⟨Nat.le_of_ble_eq_true rfl, Nat.le_of_ble_eq_true rfl⟩) ⟨KW.blind, hP.recv hK rfl ((mu_n ne0_2).trans ((mu_n ne0_1).trans (mu_s _ _ _))), fun U9 hU9 hW9 => ⟨rfl, KW.pre hBs hKK hS hP U9 hU9 hW9⟩⟩ rfl rfl hl.1 rfl (lv_room (Nat.le_of_ble_eq_true rfl)) dX7_run_57 ⟨(Nat.le_of_ble_eq_true rfl), (Nat.le_of_ble_eq_true rfl)⟩) hS (fun m57 H locs hq9 hP hz9 hS => ?_)
        obtain ⟨g57, rfl, hL57⟩ := hq9
        have hP : mw G.1 vwCl B (mu (mu (mu μ md (.inr (7, [.int (nI 0), .ref ab, .ref av, .int (nI st), .ref c1, .ref c2, .ref c3, .ref c4, .ref c5, .ref c6, .ref c7, .ref c8, .ref c9]))) ab (.inl (G.2 0, 3744, .inr (.inl g57)))) av (.inl (G.2 2, 26, .inl (upd w1 14 (w1 n0))))) _ := mw_eq ((congrArg (fun z => mu z av (.inl (G.2 2, 26, .inl (upd w1 14 (w1 n0))))) ((mu_c _ _ ((mp_ne hav hab (by simp)))).trans (congrArg (fun z => mu z av (.inl (G.2 2, 26, .inl w1))) (mu_u _ _ _ _)))).trans (mu_u _ _ _ _)) hP
        refine lv_iconst (v := nI 0) hx hb dX7_run_60 (by decide) ?_
        refine lv_istore_n (lv' := [(2, .int (nI 0)), (0, .ref md), (1, .int (nI n0))]) hx hb dX7_run_61 rfl hl (by decide) rfl (fun ls hl => ?_)
        refine lv_iconst (v := nI 1) hx hb dX7_run_62 (by decide) ?_
        refine lv_istore_n (lv' := [(3, .int (nI 1)), (2, .int (nI 0)), (0, .ref md), (1, .int (nI n0))]) hx hb dX7_run_63 rfl hl (by decide) rfl (fun ls hl => ?_)
        refine lv_iload_n hx hb dX7_run_64 rfl (lv_at hl 0 rfl) ?_
        refine lv_if_eq (tgt := 124) hx hb dX7_run_65 (by decide) (fun hc65 => ?_) (fun hc65 => ?_)
        · exact absurd hc65 (by decide)
        · refine lv_iload_n hx hb dX7_run_68 rfl (lv_at hl 1 rfl) ?_
          refine lv_bipush (v := nI 30) hx hb dX7_run_69 (by decide) ?_
          refine nv_icmp_ge (tgt := 124) hx hb (by omega) (by omega) dX7_run_71 (by decide) (fun hc71 => ?_) (fun hc71 => ?_)
          · exact absurd hc71 (by omega)
          · refine lv_iinc (v := nI (0 + 1)) (lv' := [(2, .int (nI (0 + 1))), (3, .int (nI 1)), (0, .ref md), (1, .int (nI n0))]) hx hb dX7_run_74 hl (k := 1) rfl (nI_add _ _) (by decide) rfl (fun ls hl => ?_)
            refine lv_iconst (v := nI 0) hx hb dX7_run_77 (by decide) ?_
            refine lv_istore_n (lv' := [(3, .int (nI 0)), (2, .int (nI (0 + 1))), (0, .ref md), (1, .int (nI n0))]) hx hb dX7_run_78 rfl hl (by decide) rfl (fun ls hl => ?_)
            refine lv_iconst (v := nI 0) hx hb dX7_run_79 (by decide) ?_
            refine lv_istore (lv' := [(4, .int (nI 0)), (3, .int (nI 0)), (2, .int (nI (0 + 1))), (0, .ref md), (1, .int (nI n0))]) hx hb dX7_run_80 hl (by decide) rfl (fun ls hl => ?_)
            refine lv_iload hx hb dX7_run_82 (lv_at hl 0 rfl) ?_
            refine lv_aload_n hx hb dX7_run_84 rfl (lv_at hl 3 rfl) ?_
            refine mw_get (C := RX7) (T := TX7) (N := 13) hx hb hts in_X7_run_X7 hown hK hP ((mu_n ne0_2).trans ((mu_n ne0_1).trans (mu_s _ _ _))) rfl 3 (by decide) (hts (.fieldLink RX7 136 "OctagonDeskModel" "steps" "I") (by decide +kernel)) (fun _ h9 => h9) rfl dX7_run_85 ?_
            refine nv_icmp_ge (tgt := 121) hx hb (by omega) (by omega) dX7_run_88 (by decide) (fun hc88 => ?_) (fun hc88 => ?_)
            · refine lv_goto (tgt := 64) hx hb dX7_run_121 (by decide) ?_
              refine lv_iload_n hx hb dX7_run_64 rfl (lv_at hl 1 rfl) ?_
              refine lv_if_eq (tgt := 124) hx hb dX7_run_65 (by decide) (fun hc65 => ?_) (fun hc65 => ?_)
              · refine lv_iload_n hx hb dX7_run_124 rfl (lv_at hl 1 rfl) ?_
                refine lv_if_eq (tgt := 130) hx hb dX7_run_125 (by decide) (fun hc125 => ?_) (fun hc125 => ?_)
                · refine lv_iconst (v := nI 0) hx hb dX7_run_130 (by decide) ?_
                  refine lv_istore (lv' := [(4, .int (nI 0)), (3, .int (nI 0)), (2, .int (nI (0 + 1))), (0, .ref md), (1, .int (nI n0))]) hx hb dX7_run_131 hl (by decide) rfl (fun ls hl => ?_)
                  exact L133 _ 0 g57 (upd w1 14 (w1 n0)) (Nat.lt_succ_self _) (by omega) (hok) ((VB.u hVB (hVB n0))) _ _ hP hS ls (lv_sub hl [3, 2, 0] rfl)
                · exact absurd rfl hc125
              · exact absurd rfl hc65
            · exact absurd hc88 (by omega)
      · refine lv_aload_n hx hb dX7_run_29 rfl (lv_at hl 0 rfl) ?_
        refine lv_bipush (v := nI 14) hx hb dX7_run_30 (by decide) ?_
        refine lv_iload_n hx hb dX7_run_32 rfl (lv_at hl 2 rfl) ?_
        refine nv_iadd hx hb dX7_run_33 ?_
        refine kc_v (va_runV (As := [.int (nI (14 + p1))]) (rest := []) ⟨hx, hb, hml, hown, hts⟩ (c_X7_all l G B (mu (mu (mu μ md (.inr (7, [.int (nI 0), .ref ab, .ref av, .int (nI st), .ref c1, .ref c2, .ref c3, .ref c4, .ref c5, .ref c6, .ref c7, .ref c8, .ref c9]))) ab (.inl (G.2 0, 3744, .inr (.inl g1)))) av (.inl (G.2 2, 26, .inl w1))) md ab av c1 c2 c3 c4 c5 c6 c7 c8 c9 0 st g1 w1 (14 + p1) ((mu_n ne0_2).trans ((mu_n ne0_1).trans (mu_s _ _ _))) ((mu_n ((mp_ne hab hav (by simp)))).trans (mu_s _ _ _)) (mu_s _ _ _) (by omega)) (cwV 1 hts gX7_run_X7_all rfl rfl rfl (by decide +kernel) ⟨Nat.le_of_ble_eq_true rfl, Nat.le_of_ble_eq_true rfl⟩) ⟨KW.blind, hP.recv hK rfl ((mu_n ne0_2).trans ((mu_n ne0_1).trans (mu_s _ _ _))), fun U9 hU9 hW9 => ⟨rfl, KW.pre hBs hKK hS hP U9 hU9 hW9⟩⟩ rfl rfl hl.1 rfl (lv_room (Nat.le_of_ble_eq_true rfl)) dX7_run_34 ⟨(Nat.le_of_ble_eq_true rfl), (Nat.le_of_ble_eq_true rfl)⟩) hS (fun m34 H locs hq9 hP hz9 hS => ?_)
        obtain ⟨g34, rfl, hL34⟩ := hq9
        have hP : mw G.1 vwCl B (mu (mu (mu μ md (.inr (7, [.int (nI 0), .ref ab, .ref av, .int (nI st), .ref c1, .ref c2, .ref c3, .ref c4, .ref c5, .ref c6, .ref c7, .ref c8, .ref c9]))) ab (.inl (G.2 0, 3744, .inr (.inl g34)))) av (.inl (G.2 2, 26, .inl (upd w1 (14 + p1) (nI 0))))) _ := mw_eq ((congrArg (fun z => mu z av (.inl (G.2 2, 26, .inl (upd w1 (14 + p1) (nI 0))))) ((mu_c _ _ ((mp_ne hav hab (by simp)))).trans (congrArg (fun z => mu z av (.inl (G.2 2, 26, .inl w1))) (mu_u _ _ _ _)))).trans (mu_u _ _ _ _)) hP
        refine lv_aload_n hx hb dX7_run_37 rfl (lv_at hl 0 rfl) ?_
        refine mw_get (C := RX7) (T := TX7) (N := 13) hx hb hts in_X7_run_X7 hown hK hP ((mu_n ne0_2).trans ((mu_n ne0_1).trans (mu_s _ _ _))) rfl 2 (by decide) (hts (.fieldLink RX7 13 "OctagonDeskModel" "isVoid" "[Z") (by decide +kernel)) (fun _ h9 => h9) rfl dX7_run_38 ?_
        refine lv_bipush (v := nI 14) hx hb dX7_run_41 (by decide) ?_
        refine lv_iload_n hx hb dX7_run_43 rfl (lv_at hl 2 rfl) ?_
        refine nv_iadd hx hb dX7_run_44 ?_
        refine lv_iconst (v := nI 1) hx hb dX7_run_45 (by decide) ?_
        refine mw_zast hx hb hK hP hS 2 (mu_s _ _ _) rfl (by decide) (by omega) (by omega) dX7_run_46 (fun H locs hP hS => ?_)
        have hP : mw G.1 vwCl B (mu (mu (mu μ md (.inr (7, [.int (nI 0), .ref ab, .ref av, .int (nI st), .ref c1, .ref c2, .ref c3, .ref c4, .ref c5, .ref c6, .ref c7, .ref c8, .ref c9]))) ab (.inl (G.2 0, 3744, .inr (.inl g34)))) av (.inl (G.2 2, 26, .inl (upd (upd w1 (14 + p1) (nI 0)) (14 + p1) (nI 1))))) _ := mw_eq (mu_u _ _ _ _) hP
        refine lv_iinc (v := nI (p1 + 1)) (lv' := [(2, .int (nI (p1 + 1))), (0, .ref md), (1, .int (nI n0))]) hx hb dX7_run_47 hl (k := 2) rfl (nI_add _ _) (by decide) rfl (fun ls hl => ?_)
        refine lv_goto (tgt := 23) hx hb dX7_run_50 (by decide) ?_
        exact ih23 (p1 + 1) n0 g34 (upd (upd w1 (14 + p1) (nI 0)) (14 + p1) (nI 1)) (by omega) (by omega) (by omega) (hok) ((VB.u (VB.u hVB (Or.inl rfl)) (Or.inr rfl))) _ _ hP hS ls (lv_sub hl [1, 2, 0] rfl)
  have hl := lv_entry ([.ref md, .int x9]) (n := 6) (Nat.le_of_ble_eq_true rfl)
  have he9 : entryFrame m args 6 = entryFrame m ([.ref md, .int x9] : List Value).toArray 6 := by rw [hargs]
  rw [he9, lg_entry_eq]
  generalize (lg_sl ([.ref md, .int x9]) ++ List.replicate (6 - (lg_sl ([.ref md, .int x9])).length) Slot.unset).toArray = ls at hl ⊢
  have hl : lv_has ls 6 [(0, .ref md), (1, .int x9)] := hl
  refine lv_aload_n hx hb dX7_run_0 rfl (lv_at hl 0 rfl) ?_
  refine lv_iload_n hx hb dX7_run_1 rfl (lv_at hl 1 rfl) ?_
  refine kc_i (va_runS (As := [.int x9]) (rest := [.ref md]) ⟨hx, hb, hml, hown, hts⟩ (c_X7_isSlot l G B (mu (mu (mu μ md (.inr (7, [.int (nI fl), .ref ab, .ref av, .int (nI st), .ref c1, .ref c2, .ref c3, .ref c4, .ref c5, .ref c6, .ref c7, .ref c8, .ref c9]))) ab (.inl (G.2 0, 3744, .inr (.inl f)))) av (.inl (G.2 2, 26, .inl v))) x9) (va_cwS 1 hts gX7_run_X7_isSlot rfl rfl rfl (by decide +kernel) ⟨Nat.le_of_ble_eq_true rfl, Nat.le_of_ble_eq_true rfl⟩) ⟨KW.blind, fun U9 hU9 hW9 => ⟨rfl, KW.pre hBs hKK hS hP U9 hU9 hW9⟩⟩ rfl rfl hl.1 rfl (lv_room (Nat.le_of_ble_eq_true rfl)) dX7_run_2 ⟨(Nat.le_of_ble_eq_true rfl), (Nat.le_of_ble_eq_true rfl)⟩) hS (fun r2 m2 H locs hq9 hP hz9 hS => ?_)
  obtain ⟨he9, hy2⟩ := hq9
  rw [he9] at hP
  refine lv_if_eq (tgt := 12) hx hb dX7_run_5 (by decide) (fun hc5 => ?_) (fun hc5 => ?_)
  · refine lv_iconst (v := nI 1) hx hb dX7_run_12 (by decide) ?_
    refine kc_i (va_runV (As := [.int (nI 1)]) (rest := []) ⟨hx, hb, hml, hown, hts⟩ (c_X7_refused l G B (mu (mu (mu μ md (.inr (7, [.int (nI fl), .ref ab, .ref av, .int (nI st), .ref c1, .ref c2, .ref c3, .ref c4, .ref c5, .ref c6, .ref c7, .ref c8, .ref c9]))) ab (.inl (G.2 0, 3744, .inr (.inl f)))) av (.inl (G.2 2, 26, .inl v))) md ab av c1 c2 c3 c4 c5 c6 c7 c8 c9 fl st f v 1 ((mu_n ne0_2).trans ((mu_n ne0_1).trans (mu_s _ _ _))) ((mu_n ((mp_ne hab hav (by simp)))).trans (mu_s _ _ _)) (mu_s _ _ _) (by omega)) (cwV 1 hts gX7_run_X7_refused rfl rfl rfl (by decide +kernel) ⟨Nat.le_of_ble_eq_true rfl, Nat.le_of_ble_eq_true rfl⟩) ⟨KW.blind, hP.recv hK rfl ((mu_n ne0_2).trans ((mu_n ne0_1).trans (mu_s _ _ _))), fun U9 hU9 hW9 => ⟨rfl, KW.pre hBs hKK hS hP U9 hU9 hW9⟩⟩ rfl rfl hl.1 rfl (lv_room (Nat.le_of_ble_eq_true rfl)) dX7_run_13 ⟨(Nat.le_of_ble_eq_true rfl), (Nat.le_of_ble_eq_true rfl)⟩) hS (fun r13 m13 H locs hq9 hP hz9 hS => ?_)
    obtain ⟨he9, hw0, hw1⟩ := hq9
    rw [he9] at hP
    have hP : mw G.1 vwCl B (mu (mu (mu μ md (.inr (7, [.int (nI 1), .ref ab, .ref av, .int (nI st), .ref c1, .ref c2, .ref c3, .ref c4, .ref c5, .ref c6, .ref c7, .ref c8, .ref c9]))) ab (.inl (G.2 0, 3744, .inr (.inl f)))) av (.inl (G.2 2, 26, .inl v))) _ := mw_eq ((mu_c _ _ ((Ne.symm ne0_2))).trans (congrArg (fun z => mu z av (.inl (G.2 2, 26, .inl v))) ((mu_c _ _ ((Ne.symm ne0_1))).trans (congrArg (fun z => mu z ab (.inl (G.2 0, 3744, .inr (.inl f)))) (mu_u _ _ _ _))))) hP
    obtain rfl : r13 = nI 1 := hw1 (by decide)
    refine lv_if_eq (tgt := 21) hx hb dX7_run_16 (by decide) (fun hc16 => ?_) (fun hc16 => ?_)
    · exact absurd hc16 (by decide)
    · refine lv_iconst (v := nI 0) hx hb dX7_run_19 (by decide) ?_
      rw [hQ]
      exact W.iret (v := nI 0) hx hb hr (fun t99 ht99 hW99 => ⟨⟨nI 0, mu (mu (mu μ md (.inr (7, [.int (nI 1), .ref ab, .ref av, .int (nI st), .ref c1, .ref c2, .ref c3, .ref c4, .ref c5, .ref c6, .ref c7, .ref c8, .ref c9]))) ab (.inl (G.2 0, 3744, .inr (.inl f)))) av (.inl (G.2 2, 26, .inl v)), rfl, (⟨_, _, _, rfl, Or.inr ⟨rfl, fun h9 => by first | exact yn_f hy2 hc5 h9⟩⟩), by show mw _ _ _ _ t99.heap; rw [ht99]; exact hP⟩, hS.F ht99⟩) hS.2.2 dX7_run_20
  · refine lv_iconst (v := nI 0) hx hb dX7_run_8 (by decide) ?_
    refine lv_goto (tgt := 13) hx hb dX7_run_9 (by decide) ?_
    refine kc_i (va_runV (As := [.int (nI 0)]) (rest := []) ⟨hx, hb, hml, hown, hts⟩ (c_X7_refused l G B (mu (mu (mu μ md (.inr (7, [.int (nI fl), .ref ab, .ref av, .int (nI st), .ref c1, .ref c2, .ref c3, .ref c4, .ref c5, .ref c6, .ref c7, .ref c8, .ref c9]))) ab (.inl (G.2 0, 3744, .inr (.inl f)))) av (.inl (G.2 2, 26, .inl v))) md ab av c1 c2 c3 c4 c5 c6 c7 c8 c9 fl st f v 0 ((mu_n ne0_2).trans ((mu_n ne0_1).trans (mu_s _ _ _))) ((mu_n ((mp_ne hab hav (by simp)))).trans (mu_s _ _ _)) (mu_s _ _ _) (by omega)) (cwV 1 hts gX7_run_X7_refused rfl rfl rfl (by decide +kernel) ⟨Nat.le_of_ble_eq_true rfl, Nat.le_of_ble_eq_true rfl⟩) ⟨KW.blind, hP.recv hK rfl ((mu_n ne0_2).trans ((mu_n ne0_1).trans (mu_s _ _ _))), fun U9 hU9 hW9 => ⟨rfl, KW.pre hBs hKK hS hP U9 hU9 hW9⟩⟩ rfl rfl hl.1 rfl (lv_room (Nat.le_of_ble_eq_true rfl)) dX7_run_13 ⟨(Nat.le_of_ble_eq_true rfl), (Nat.le_of_ble_eq_true rfl)⟩) hS (fun r13 m13 H locs hq9 hP hz9 hS => ?_)
    obtain ⟨he9, hw0, hw1⟩ := hq9
    rw [he9] at hP
    have hP : mw G.1 vwCl B (mu (mu (mu μ md (.inr (7, [.int (nI 0), .ref ab, .ref av, .int (nI st), .ref c1, .ref c2, .ref c3, .ref c4, .ref c5, .ref c6, .ref c7, .ref c8, .ref c9]))) ab (.inl (G.2 0, 3744, .inr (.inl f)))) av (.inl (G.2 2, 26, .inl v))) _ := mw_eq ((mu_c _ _ ((Ne.symm ne0_2))).trans (congrArg (fun z => mu z av (.inl (G.2 2, 26, .inl v))) ((mu_c _ _ ((Ne.symm ne0_1))).trans (congrArg (fun z => mu z ab (.inl (G.2 0, 3744, .inr (.inl f)))) (mu_u _ _ _ _))))) hP
    obtain rfl : r13 = nI 0 := hw0 rfl
    refine lv_if_eq (tgt := 21) hx hb dX7_run_16 (by decide) (fun hc16 => ?_) (fun hc16 => ?_)
    · have hok : okS x9 := yn_t hy2 hc5
      obtain ⟨nx9, hnx9, enx9⟩ := ok_nat (n := 6) (by decide) hok
      subst enx9
      refine lv_iconst (v := nI 0) hx hb dX7_run_21 (by decide) ?_
      refine lv_istore_n (lv' := [(2, .int (nI 0)), (0, .ref md), (1, .int (nI nx9))]) hx hb dX7_run_22 rfl hl (by decide) rfl (fun ls hl => ?_)
      exact L23 _ 0 nx9 f v (Nat.lt_succ_self _) (by omega) (by omega) (hok) (hNM.2.2.2) _ _ hP hS ls (lv_sub hl [1, 2, 0] rfl)
    · exact absurd rfl hc16

abbrev rm_X7_step : Room := { frames := 3, cells := 0, slots := 0, locals := 65 }
set_option maxHeartbeats 4000000 in
set_option maxRecDepth 100000 in
theorem c_X7_step (l : Launch) (G : GG) (B : Nat) (μ : mp) (md ab av c1 c2 c3 c4 c5 c6 c7 c8 c9 fl st : Nat) (f : Nat → Int64) (v : Nat → Int32) (i1 i2 i3 i4 i5 i6 : Nat → Int32) (x9 k9 a9 b9 y9 : Int32) (hm : μ md = some (.inr (7, [.int (nI fl), .ref ab, .ref av, .int (nI st), .ref c1, .ref c2, .ref c3, .ref c4, .ref c5, .ref c6, .ref c7, .ref c8, .ref c9]))) (hab : μ ab = some (.inl (G.2 0, 3744, .inr (.inl f)))) (hav : μ av = some (.inl (G.2 2, 26, .inl v))) (hc_1 : μ c1 = some (.inl (G.2 1, 20, .inl i1))) (hc_2 : μ c2 = some (.inl (G.2 1, 20, .inl i2))) (hc_3 : μ c3 = some (.inl (G.2 1, 20, .inl i3))) (hc_4 : μ c4 = some (.inl (G.2 1, 20, .inl i4))) (hc_5 : μ c5 = some (.inl (G.2 1, 20, .inl i5))) (hc_6 : μ c6 = some (.inl (G.2 1, 20, .inl i6))) (hst : st = 0) (n12 : c1 ≠ c2) (n13 : c1 ≠ c3) (n14 : c1 ≠ c4) (n15 : c1 ≠ c5) (n16 : c1 ≠ c6) (n23 : c2 ≠ c3) (n24 : c2 ≠ c4) (n25 : c2 ≠ c5) (n26 : c2 ≠ c6) (n34 : c3 ≠ c4) (n35 : c3 ≠ c5) (n36 : c3 ≠ c6) (n45 : c4 ≠ c5) (n46 : c4 ≠ c6) (n56 : c5 ≠ c6) : Met l yX7_step wsX7_step rm_X7_step (va_Pc [.ref md, .int x9, .int k9, .int a9, .int b9, .int y9] (KW G B μ)) (va_Qi (fun r μ2 => (∀ (a : Nat) (e : va_E), μ a = some e → a ≠ md → (a ≠ c1 ∧ a ≠ c2 ∧ a ≠ c3 ∧ a ≠ c4 ∧ a ≠ c5 ∧ a ≠ c6) → μ2 a = some e) ∧ ∃ fl9 st9 : Nat, μ2 md = some (.inr (7, [.int (nI fl9), .ref ab, .ref av, .int (nI st9), .ref c1, .ref c2, .ref c3, .ref c4, .ref c5, .ref c6, .ref c7, .ref c8, .ref c9])) ∧ ((fl9 = 0 ∧ (okW x9 ∧ okA k9 a9 b9 y9) ∧ r = 0) ∨ (fl9 = 1 ∧ ¬ (okW x9 ∧ okA k9 a9 b9 y9)))) (BB G B) (fun q => B ≤ q)) 0 0 (fun q => B ≤ q) := by
  refine Met.ofW (cc := cX7_step) (maxL := 6) (ret := (some .int)) (by decide) rfl ?_
  intro p e s m args below meth c s₁ B9 hml hv
  obtain ⟨hargs, hBs, hP, hKK⟩ := hv
  have hx := B9.exec
  have hb := B9.bytes
  have hr := B9.returns
  have hts := atoms_spec (ws := wsX7_step) B9.pre
  have hown : s.vm.findClass RX7 = some m.cls := findClass_of_methodNamed B9.named
  have hlocks := B9.notSynchronized
  have hK := hKK.k
  have hS : va_S (fun q => B ≤ q) s.heap s.heap [] := va_S.rf
  obtain ⟨Q, hQ⟩ : ∃ Q, Q = MQ below (va_Qi (fun r μ2 => (∀ (a : Nat) (e : va_E), μ a = some e → a ≠ md → (a ≠ c1 ∧ a ≠ c2 ∧ a ≠ c3 ∧ a ≠ c4 ∧ a ≠ c5 ∧ a ≠ c6) → μ2 a = some e) ∧ ∃ fl9 st9 : Nat, μ2 md = some (.inr (7, [.int (nI fl9), .ref ab, .ref av, .int (nI st9), .ref c1, .ref c2, .ref c3, .ref c4, .ref c5, .ref c6, .ref c7, .ref c8, .ref c9])) ∧ ((fl9 = 0 ∧ (okW x9 ∧ okA k9 a9 b9 y9) ∧ r = 0) ∨ (fl9 = 1 ∧ ¬ (okW x9 ∧ okA k9 a9 b9 y9)))) (BB G B) (fun q => B ≤ q)) args s 0 0 (fun q => B ≤ q) := ⟨_, rfl⟩
  rw [← hQ]
  have ne0_1 : md ≠ ab := mp_ne hm hab (by simp)
  have ne0_2 : md ≠ av := mp_ne hm hav (by simp)
  have ne0_3 : md ≠ c1 := mp_ne hm hc_1 (by simp)
  have ne0_4 : md ≠ c2 := mp_ne hm hc_2 (by simp)
  have ne0_5 : md ≠ c3 := mp_ne hm hc_3 (by simp)
  have ne0_6 : md ≠ c4 := mp_ne hm hc_4 (by simp)
  have ne0_7 : md ≠ c5 := mp_ne hm hc_5 (by simp)
  have ne0_8 : md ≠ c6 := mp_ne hm hc_6 (by simp)
  have in_X7_step_X7 : ∀ w ∈ wsX70, w ∈ wsX7_step := by decide +kernel
  have hP : mw G.1 vwCl B (mu μ md (.inr (7, [.int (nI fl), .ref ab, .ref av, .int (nI st), .ref c1, .ref c2, .ref c3, .ref c4, .ref c5, .ref c6, .ref c7, .ref c8, .ref c9]))) s.heap := mw_eq (mu_i hm).symm hP
  have hl := lv_entry ([.ref md, .int x9, .int k9, .int a9, .int b9, .int y9]) (n := 6) (Nat.le_of_ble_eq_true rfl)
  have he9 : entryFrame m args 6 = entryFrame m ([.ref md, .int x9, .int k9, .int a9, .int b9, .int y9] : List Value).toArray 6 := by rw [hargs]
  rw [he9, lg_entry_eq]
  generalize (lg_sl ([.ref md, .int x9, .int k9, .int a9, .int b9, .int y9]) ++ List.replicate (6 - (lg_sl ([.ref md, .int x9, .int k9, .int a9, .int b9, .int y9])).length) Slot.unset).toArray = ls at hl ⊢
  have hl : lv_has ls 6 [(0, .ref md), (1, .int x9), (2, .int k9), (3, .int a9), (4, .int b9), (5, .int y9)] := hl
  refine lv_aload_n hx hb dX7_step_0 rfl (lv_at hl 0 rfl) ?_
  refine lv_iload_n hx hb dX7_step_1 rfl (lv_at hl 1 rfl) ?_
  refine lv_iconst (v := nI 0) hx hb dX7_step_2 (by decide) ?_
  refine lv_bipush (v := nI 63) hx hb dX7_step_3 (by decide) ?_
  refine kc_i (va_runS (As := [.int x9, .int (nI 0), .int (nI 63)]) (rest := [.ref md]) ⟨hx, hb, hml, hown, hts⟩ (c_X7_isIn l G B (mu μ md (.inr (7, [.int (nI fl), .ref ab, .ref av, .int (nI st), .ref c1, .ref c2, .ref c3, .ref c4, .ref c5, .ref c6, .ref c7, .ref c8, .ref c9]))) x9 (nI 0) (nI 63)) (va_cwS 3 hts gX7_step_X7_isIn rfl rfl rfl (by decide +kernel) ⟨Nat.le_of_ble_eq_true rfl, Nat.le_of_ble_eq_true rfl⟩) ⟨KW.blind, fun U9 hU9 hW9 => ⟨rfl, KW.pre hBs hKK hS hP U9 hU9 hW9⟩⟩ rfl rfl hl.1 rfl (lv_room (Nat.le_of_ble_eq_true rfl)) dX7_step_5 ⟨(Nat.le_of_ble_eq_true rfl), (Nat.le_of_ble_eq_true rfl)⟩) hS (fun r5 m5 H locs hq9 hP hz9 hS => ?_)
  obtain ⟨he9, hy5⟩ := hq9
  rw [he9] at hP
  refine lv_if_eq (tgt := 23) hx hb dX7_step_8 (by decide) (fun hc8 => ?_) (fun hc8 => ?_)
  · refine lv_iconst (v := nI 1) hx hb dX7_step_23 (by decide) ?_
    refine lv_goto (tgt := 41) hx hb dX7_step_24 (by decide) ?_
    refine kc_i (va_runV (As := [.int (nI 1)]) (rest := []) ⟨hx, hb, hml, hown, hts⟩ (c_X7_refused l G B (mu μ md (.inr (7, [.int (nI fl), .ref ab, .ref av, .int (nI st), .ref c1, .ref c2, .ref c3, .ref c4, .ref c5, .ref c6, .ref c7, .ref c8, .ref c9]))) md ab av c1 c2 c3 c4 c5 c6 c7 c8 c9 fl st f v 1 (mu_s _ _ _) ((mu_n ((Ne.symm ne0_1))).trans (hab)) ((mu_n ((Ne.symm ne0_2))).trans (hav)) (by omega)) (cwV 1 hts gX7_step_X7_refused rfl rfl rfl (by decide +kernel) ⟨Nat.le_of_ble_eq_true rfl, Nat.le_of_ble_eq_true rfl⟩) ⟨KW.blind, hP.recv hK rfl (mu_s _ _ _), fun U9 hU9 hW9 => ⟨rfl, KW.pre hBs hKK hS hP U9 hU9 hW9⟩⟩ rfl rfl hl.1 rfl (lv_room (Nat.le_of_ble_eq_true rfl)) dX7_step_41 ⟨(Nat.le_of_ble_eq_true rfl), (Nat.le_of_ble_eq_true rfl)⟩) hS (fun r41 m41 H locs hq9 hP hz9 hS => ?_)
    obtain ⟨he9, hw0, hw1⟩ := hq9
    rw [he9] at hP
    have hP : mw G.1 vwCl B (mu μ md (.inr (7, [.int (nI 1), .ref ab, .ref av, .int (nI st), .ref c1, .ref c2, .ref c3, .ref c4, .ref c5, .ref c6, .ref c7, .ref c8, .ref c9]))) _ := mw_eq (mu_u _ _ _ _) hP
    obtain rfl : r41 = nI 1 := hw1 (by decide)
    refine lv_if_eq (tgt := 49) hx hb dX7_step_44 (by decide) (fun hc44 => ?_) (fun hc44 => ?_)
    · exact absurd hc44 (by decide)
    · refine lv_iconst (v := nI 0) hx hb dX7_step_47 (by decide) ?_
      rw [hQ]
      exact W.iret (v := nI 0) hx hb hr (fun t99 ht99 hW99 => ⟨⟨nI 0, mu μ md (.inr (7, [.int (nI 1), .ref ab, .ref av, .int (nI st), .ref c1, .ref c2, .ref c3, .ref c4, .ref c5, .ref c6, .ref c7, .ref c8, .ref c9])), rfl, (⟨fun a e h1 h2 h3 => (mu_n h2).trans (h1), _, _, (mu_s _ _ _), Or.inr ⟨rfl, fun h9 => by first | exact yn_f hy5 hc8 (isI_W.mpr h9.1) | exact yn_f hy17 hc20 h9.2⟩⟩), by show mw _ _ _ _ t99.heap; rw [ht99]; exact hP⟩, hS.F ht99⟩) hS.2.2 dX7_step_48
  · refine lv_iload_n hx hb dX7_step_11 rfl (lv_at hl 2 rfl) ?_
    refine lv_iload_n hx hb dX7_step_12 rfl (lv_at hl 3 rfl) ?_
    refine lv_iload hx hb dX7_step_13 (lv_at hl 4 rfl) ?_
    refine lv_iload hx hb dX7_step_15 (lv_at hl 5 rfl) ?_
    refine kc_i (va_runS (As := [.int k9, .int a9, .int b9, .int y9]) (rest := [.ref md]) ⟨hx, hb, hml, hown, hts⟩ (c_X7_isAction l G B (mu μ md (.inr (7, [.int (nI fl), .ref ab, .ref av, .int (nI st), .ref c1, .ref c2, .ref c3, .ref c4, .ref c5, .ref c6, .ref c7, .ref c8, .ref c9]))) k9 a9 b9 y9) (va_cwS 4 hts gX7_step_X7_isAction rfl rfl rfl (by decide +kernel) ⟨Nat.le_of_ble_eq_true rfl, Nat.le_of_ble_eq_true rfl⟩) ⟨KW.blind, fun U9 hU9 hW9 => ⟨rfl, KW.pre hBs hKK hS hP U9 hU9 hW9⟩⟩ rfl rfl hl.1 rfl (lv_room (Nat.le_of_ble_eq_true rfl)) dX7_step_17 ⟨(Nat.le_of_ble_eq_true rfl), (Nat.le_of_ble_eq_true rfl)⟩) hS (fun r17 m17 H locs hq9 hP hz9 hS => ?_)
    obtain ⟨he9, hy17⟩ := hq9
    rw [he9] at hP
    refine lv_if_ne (tgt := 27) hx hb dX7_step_20 (by decide) (fun hc20 => ?_) (fun hc20 => ?_)
    · have hok : okW x9 ∧ okA k9 a9 b9 y9 := ⟨isI_W.mp (yn_t hy5 hc8), yn_t hy17 hc20⟩
      obtain ⟨nx9, hnx9, enx9⟩ := ok_nat (n := 64) (by decide) hok.1
      subst enx9
      refine lv_aload_n hx hb dX7_step_27 rfl (lv_at hl 0 rfl) ?_
      refine mw_get (C := RX7) (T := TX7) (N := 13) hx hb hts in_X7_step_X7 hown hK hP (mu_s _ _ _) rfl 3 (by decide) (hts (.fieldLink RX7 136 "OctagonDeskModel" "steps" "I") (by decide +kernel)) (fun _ h9 => h9) rfl dX7_step_28 ?_
      refine lv_bipush (v := nI 20) hx hb dX7_step_31 (by decide) ?_
      refine nv_icmp_ne (tgt := 40) hx hb (by omega) (by omega) dX7_step_33 (by decide) (fun hc33 => ?_) (fun hc33 => ?_)
      · refine lv_iconst (v := nI 0) hx hb dX7_step_40 (by decide) ?_
        refine kc_i (va_runV (As := [.int (nI 0)]) (rest := []) ⟨hx, hb, hml, hown, hts⟩ (c_X7_refused l G B (mu μ md (.inr (7, [.int (nI fl), .ref ab, .ref av, .int (nI st), .ref c1, .ref c2, .ref c3, .ref c4, .ref c5, .ref c6, .ref c7, .ref c8, .ref c9]))) md ab av c1 c2 c3 c4 c5 c6 c7 c8 c9 fl st f v 0 (mu_s _ _ _) ((mu_n ((Ne.symm ne0_1))).trans (hab)) ((mu_n ((Ne.symm ne0_2))).trans (hav)) (by omega)) (cwV 1 hts gX7_step_X7_refused rfl rfl rfl (by decide +kernel) ⟨Nat.le_of_ble_eq_true rfl, Nat.le_of_ble_eq_true rfl⟩) ⟨KW.blind, hP.recv hK rfl (mu_s _ _ _), fun U9 hU9 hW9 => ⟨rfl, KW.pre hBs hKK hS hP U9 hU9 hW9⟩⟩ rfl rfl hl.1 rfl (lv_room (Nat.le_of_ble_eq_true rfl)) dX7_step_41 ⟨(Nat.le_of_ble_eq_true rfl), (Nat.le_of_ble_eq_true rfl)⟩) hS (fun r41 m41 H locs hq9 hP hz9 hS => ?_)
        obtain ⟨he9, hw0, hw1⟩ := hq9
        rw [he9] at hP
        have hP : mw G.1 vwCl B (mu μ md (.inr (7, [.int (nI 0), .ref ab, .ref av, .int (nI st), .ref c1, .ref c2, .ref c3, .ref c4, .ref c5, .ref c6, .ref c7, .ref c8, .ref c9]))) _ := mw_eq (mu_u _ _ _ _) hP
        obtain rfl : r41 = nI 0 := hw0 rfl
        refine lv_if_eq (tgt := 49) hx hb dX7_step_44 (by decide) (fun hc44 => ?_) (fun hc44 => ?_)
        · refine lv_aload_n hx hb dX7_step_49 rfl (lv_at hl 0 rfl) ?_
          refine mw_get (C := RX7) (T := TX7) (N := 13) hx hb hts in_X7_step_X7 hown hK hP (mu_s _ _ _) rfl 4 (by decide) (hts (.fieldLink RX7 17 "OctagonDeskModel" "fromPoint" "[I") (by decide +kernel)) (fun _ h9 => h9) rfl dX7_step_50 ?_
          refine lv_aload_n hx hb dX7_step_53 rfl (lv_at hl 0 rfl) ?_
          refine mw_get (C := RX7) (T := TX7) (N := 13) hx hb hts in_X7_step_X7 hown hK hP (mu_s _ _ _) rfl 3 (by decide) (hts (.fieldLink RX7 136 "OctagonDeskModel" "steps" "I") (by decide +kernel)) (fun _ h9 => h9) rfl dX7_step_54 ?_
          refine lv_iload_n hx hb dX7_step_57 rfl (lv_at hl 1 rfl) ?_
          refine lv_bipush (v := nI 8) hx hb dX7_step_58 (by decide) ?_
          refine nv_idiv hx hb (by omega) (by decide) (by decide) dX7_step_60 ?_
          refine mw_iast hx hb hK hP hS 1 ((mu_n ((Ne.symm ne0_3))).trans (hc_1)) rfl (by omega) (by omega) dX7_step_61 (fun H locs hP hS => ?_)
          have hP : mw G.1 vwCl B (mu (mu μ md (.inr (7, [.int (nI 0), .ref ab, .ref av, .int (nI st), .ref c1, .ref c2, .ref c3, .ref c4, .ref c5, .ref c6, .ref c7, .ref c8, .ref c9]))) c1 (.inl (G.2 1, 20, .inl (upd i1 st (nI (nx9 / 8)))))) _ := hP
          refine lv_aload_n hx hb dX7_step_62 rfl (lv_at hl 0 rfl) ?_
          refine mw_get (C := RX7) (T := TX7) (N := 13) hx hb hts in_X7_step_X7 hown hK hP ((mu_n ne0_3).trans (mu_s _ _ _)) rfl 5 (by decide) (hts (.fieldLink RX7 21 "OctagonDeskModel" "toPoint" "[I") (by decide +kernel)) (fun _ h9 => h9) rfl dX7_step_63 ?_
          refine lv_aload_n hx hb dX7_step_66 rfl (lv_at hl 0 rfl) ?_
          refine mw_get (C := RX7) (T := TX7) (N := 13) hx hb hts in_X7_step_X7 hown hK hP ((mu_n ne0_3).trans (mu_s _ _ _)) rfl 3 (by decide) (hts (.fieldLink RX7 136 "OctagonDeskModel" "steps" "I") (by decide +kernel)) (fun _ h9 => h9) rfl dX7_step_67 ?_
          refine lv_iload_n hx hb dX7_step_70 rfl (lv_at hl 1 rfl) ?_
          refine lv_bipush (v := nI 8) hx hb dX7_step_71 (by decide) ?_
          refine nv_irem hx hb (by omega) (by decide) (by decide) dX7_step_73 ?_
          refine mw_iast hx hb hK hP hS 1 ((mu_n ((Ne.symm n12))).trans ((mu_n ((Ne.symm ne0_4))).trans (hc_2))) rfl (by omega) (by omega) dX7_step_74 (fun H locs hP hS => ?_)
          have hP : mw G.1 vwCl B (mu (mu (mu μ md (.inr (7, [.int (nI 0), .ref ab, .ref av, .int (nI st), .ref c1, .ref c2, .ref c3, .ref c4, .ref c5, .ref c6, .ref c7, .ref c8, .ref c9]))) c1 (.inl (G.2 1, 20, .inl (upd i1 st (nI (nx9 / 8)))))) c2 (.inl (G.2 1, 20, .inl (upd i2 st (nI (nx9 % 8)))))) _ := hP
          refine lv_aload_n hx hb dX7_step_75 rfl (lv_at hl 0 rfl) ?_
          refine mw_get (C := RX7) (T := TX7) (N := 13) hx hb hts in_X7_step_X7 hown hK hP ((mu_n ne0_4).trans ((mu_n ne0_3).trans (mu_s _ _ _))) rfl 6 (by decide) (hts (.fieldLink RX7 24 "OctagonDeskModel" "kinds" "[I") (by decide +kernel)) (fun _ h9 => h9) rfl dX7_step_76 ?_
          refine lv_aload_n hx hb dX7_step_79 rfl (lv_at hl 0 rfl) ?_
          refine mw_get (C := RX7) (T := TX7) (N := 13) hx hb hts in_X7_step_X7 hown hK hP ((mu_n ne0_4).trans ((mu_n ne0_3).trans (mu_s _ _ _))) rfl 3 (by decide) (hts (.fieldLink RX7 136 "OctagonDeskModel" "steps" "I") (by decide +kernel)) (fun _ h9 => h9) rfl dX7_step_80 ?_
          refine lv_iload_n hx hb dX7_step_83 rfl (lv_at hl 2 rfl) ?_
          refine mw_iast hx hb hK hP hS 1 ((mu_n ((Ne.symm n23))).trans ((mu_n ((Ne.symm n13))).trans ((mu_n ((Ne.symm ne0_5))).trans (hc_3)))) rfl (by omega) (by omega) dX7_step_84 (fun H locs hP hS => ?_)
          have hP : mw G.1 vwCl B (mu (mu (mu (mu μ md (.inr (7, [.int (nI 0), .ref ab, .ref av, .int (nI st), .ref c1, .ref c2, .ref c3, .ref c4, .ref c5, .ref c6, .ref c7, .ref c8, .ref c9]))) c1 (.inl (G.2 1, 20, .inl (upd i1 st (nI (nx9 / 8)))))) c2 (.inl (G.2 1, 20, .inl (upd i2 st (nI (nx9 % 8)))))) c3 (.inl (G.2 1, 20, .inl (upd i3 st k9)))) _ := hP
          refine lv_aload_n hx hb dX7_step_85 rfl (lv_at hl 0 rfl) ?_
          refine mw_get (C := RX7) (T := TX7) (N := 13) hx hb hts in_X7_step_X7 hown hK hP ((mu_n ne0_5).trans ((mu_n ne0_4).trans ((mu_n ne0_3).trans (mu_s _ _ _)))) rfl 7 (by decide) (hts (.fieldLink RX7 27 "OctagonDeskModel" "firsts" "[I") (by decide +kernel)) (fun _ h9 => h9) rfl dX7_step_86 ?_
          refine lv_aload_n hx hb dX7_step_89 rfl (lv_at hl 0 rfl) ?_
          refine mw_get (C := RX7) (T := TX7) (N := 13) hx hb hts in_X7_step_X7 hown hK hP ((mu_n ne0_5).trans ((mu_n ne0_4).trans ((mu_n ne0_3).trans (mu_s _ _ _)))) rfl 3 (by decide) (hts (.fieldLink RX7 136 "OctagonDeskModel" "steps" "I") (by decide +kernel)) (fun _ h9 => h9) rfl dX7_step_90 ?_
          refine lv_iload_n hx hb dX7_step_93 rfl (lv_at hl 3 rfl) ?_
          refine mw_iast hx hb hK hP hS 1 ((mu_n ((Ne.symm n34))).trans ((mu_n ((Ne.symm n24))).trans ((mu_n ((Ne.symm n14))).trans ((mu_n ((Ne.symm ne0_6))).trans (hc_4))))) rfl (by omega) (by omega) dX7_step_94 (fun H locs hP hS => ?_)
          have hP : mw G.1 vwCl B (mu (mu (mu (mu (mu μ md (.inr (7, [.int (nI 0), .ref ab, .ref av, .int (nI st), .ref c1, .ref c2, .ref c3, .ref c4, .ref c5, .ref c6, .ref c7, .ref c8, .ref c9]))) c1 (.inl (G.2 1, 20, .inl (upd i1 st (nI (nx9 / 8)))))) c2 (.inl (G.2 1, 20, .inl (upd i2 st (nI (nx9 % 8)))))) c3 (.inl (G.2 1, 20, .inl (upd i3 st k9)))) c4 (.inl (G.2 1, 20, .inl (upd i4 st a9)))) _ := hP
          refine lv_aload_n hx hb dX7_step_95 rfl (lv_at hl 0 rfl) ?_
          refine mw_get (C := RX7) (T := TX7) (N := 13) hx hb hts in_X7_step_X7 hown hK hP ((mu_n ne0_6).trans ((mu_n ne0_5).trans ((mu_n ne0_4).trans ((mu_n ne0_3).trans (mu_s _ _ _))))) rfl 8 (by decide) (hts (.fieldLink RX7 30 "OctagonDeskModel" "seconds" "[I") (by decide +kernel)) (fun _ h9 => h9) rfl dX7_step_96 ?_
          refine lv_aload_n hx hb dX7_step_99 rfl (lv_at hl 0 rfl) ?_
          refine mw_get (C := RX7) (T := TX7) (N := 13) hx hb hts in_X7_step_X7 hown hK hP ((mu_n ne0_6).trans ((mu_n ne0_5).trans ((mu_n ne0_4).trans ((mu_n ne0_3).trans (mu_s _ _ _))))) rfl 3 (by decide) (hts (.fieldLink RX7 136 "OctagonDeskModel" "steps" "I") (by decide +kernel)) (fun _ h9 => h9) rfl dX7_step_100 ?_
          refine lv_iload hx hb dX7_step_103 (lv_at hl 4 rfl) ?_
          refine mw_iast hx hb hK hP hS 1 ((mu_n ((Ne.symm n45))).trans ((mu_n ((Ne.symm n35))).trans ((mu_n ((Ne.symm n25))).trans ((mu_n ((Ne.symm n15))).trans ((mu_n ((Ne.symm ne0_7))).trans (hc_5)))))) rfl (by omega) (by omega) dX7_step_105 (fun H locs hP hS => ?_)
          have hP : mw G.1 vwCl B (mu (mu (mu (mu (mu (mu μ md (.inr (7, [.int (nI 0), .ref ab, .ref av, .int (nI st), .ref c1, .ref c2, .ref c3, .ref c4, .ref c5, .ref c6, .ref c7, .ref c8, .ref c9]))) c1 (.inl (G.2 1, 20, .inl (upd i1 st (nI (nx9 / 8)))))) c2 (.inl (G.2 1, 20, .inl (upd i2 st (nI (nx9 % 8)))))) c3 (.inl (G.2 1, 20, .inl (upd i3 st k9)))) c4 (.inl (G.2 1, 20, .inl (upd i4 st a9)))) c5 (.inl (G.2 1, 20, .inl (upd i5 st b9)))) _ := hP
          refine lv_aload_n hx hb dX7_step_106 rfl (lv_at hl 0 rfl) ?_
          refine mw_get (C := RX7) (T := TX7) (N := 13) hx hb hts in_X7_step_X7 hown hK hP ((mu_n ne0_7).trans ((mu_n ne0_6).trans ((mu_n ne0_5).trans ((mu_n ne0_4).trans ((mu_n ne0_3).trans (mu_s _ _ _)))))) rfl 9 (by decide) (hts (.fieldLink RX7 33 "OctagonDeskModel" "thirds" "[I") (by decide +kernel)) (fun _ h9 => h9) rfl dX7_step_107 ?_
          refine lv_aload_n hx hb dX7_step_110 rfl (lv_at hl 0 rfl) ?_
          refine mw_get (C := RX7) (T := TX7) (N := 13) hx hb hts in_X7_step_X7 hown hK hP ((mu_n ne0_7).trans ((mu_n ne0_6).trans ((mu_n ne0_5).trans ((mu_n ne0_4).trans ((mu_n ne0_3).trans (mu_s _ _ _)))))) rfl 3 (by decide) (hts (.fieldLink RX7 136 "OctagonDeskModel" "steps" "I") (by decide +kernel)) (fun _ h9 => h9) rfl dX7_step_111 ?_
          refine lv_iload hx hb dX7_step_114 (lv_at hl 5 rfl) ?_
          refine mw_iast hx hb hK hP hS 1 ((mu_n ((Ne.symm n56))).trans ((mu_n ((Ne.symm n46))).trans ((mu_n ((Ne.symm n36))).trans ((mu_n ((Ne.symm n26))).trans ((mu_n ((Ne.symm n16))).trans ((mu_n ((Ne.symm ne0_8))).trans (hc_6))))))) rfl (by omega) (by omega) dX7_step_116 (fun H locs hP hS => ?_)
          have hP : mw G.1 vwCl B (mu (mu (mu (mu (mu (mu (mu μ md (.inr (7, [.int (nI 0), .ref ab, .ref av, .int (nI st), .ref c1, .ref c2, .ref c3, .ref c4, .ref c5, .ref c6, .ref c7, .ref c8, .ref c9]))) c1 (.inl (G.2 1, 20, .inl (upd i1 st (nI (nx9 / 8)))))) c2 (.inl (G.2 1, 20, .inl (upd i2 st (nI (nx9 % 8)))))) c3 (.inl (G.2 1, 20, .inl (upd i3 st k9)))) c4 (.inl (G.2 1, 20, .inl (upd i4 st a9)))) c5 (.inl (G.2 1, 20, .inl (upd i5 st b9)))) c6 (.inl (G.2 1, 20, .inl (upd i6 st y9)))) _ := hP
          refine lv_aload_n hx hb dX7_step_117 rfl (lv_at hl 0 rfl) ?_
          refine lv_dup hx hb dX7_step_118 rfl ?_
          refine mw_get (C := RX7) (T := TX7) (N := 13) hx hb hts in_X7_step_X7 hown hK hP ((mu_n ne0_8).trans ((mu_n ne0_7).trans ((mu_n ne0_6).trans ((mu_n ne0_5).trans ((mu_n ne0_4).trans ((mu_n ne0_3).trans (mu_s _ _ _))))))) rfl 3 (by decide) (hts (.fieldLink RX7 136 "OctagonDeskModel" "steps" "I") (by decide +kernel)) (fun _ h9 => h9) rfl dX7_step_119 ?_
          refine lv_iconst (v := nI 1) hx hb dX7_step_122 (by decide) ?_
          refine nv_iadd hx hb dX7_step_123 ?_
          refine mw_put (ty := .int) (v := .int (nI (st + 1))) (C := RX7) (T := TX7) (N := 13) hx hb hts in_X7_step_X7 tyX7 tyX7_ok nmX7 hown hK hP hS ((mu_n ne0_8).trans ((mu_n ne0_7).trans ((mu_n ne0_6).trans ((mu_n ne0_5).trans ((mu_n ne0_4).trans ((mu_n ne0_3).trans (mu_s _ _ _))))))) rfl 3 (by decide) (hts (.fieldLink RX7 136 "OctagonDeskModel" "steps" "I") (by decide +kernel)) (fun _ h9 => h9) rfl (by decide +kernel) (by first | rfl | decide +kernel) (by first | rfl | decide +kernel) (Nat.le_of_ble_eq_true rfl) dX7_step_124 (fun H locs hP hS => ?_)
          have hP : mw G.1 vwCl B (mu (mu (mu (mu (mu (mu (mu μ md (.inr (7, [.int (nI 0), .ref ab, .ref av, .int (nI (st + 1)), .ref c1, .ref c2, .ref c3, .ref c4, .ref c5, .ref c6, .ref c7, .ref c8, .ref c9]))) c1 (.inl (G.2 1, 20, .inl (upd i1 st (nI (nx9 / 8)))))) c2 (.inl (G.2 1, 20, .inl (upd i2 st (nI (nx9 % 8)))))) c3 (.inl (G.2 1, 20, .inl (upd i3 st k9)))) c4 (.inl (G.2 1, 20, .inl (upd i4 st a9)))) c5 (.inl (G.2 1, 20, .inl (upd i5 st b9)))) c6 (.inl (G.2 1, 20, .inl (upd i6 st y9)))) _ := mw_eq ((mu_c _ _ ((Ne.symm ne0_8))).trans (congrArg (fun z => mu z c6 (.inl (G.2 1, 20, .inl (upd i6 st y9)))) ((mu_c _ _ ((Ne.symm ne0_7))).trans (congrArg (fun z => mu z c5 (.inl (G.2 1, 20, .inl (upd i5 st b9)))) ((mu_c _ _ ((Ne.symm ne0_6))).trans (congrArg (fun z => mu z c4 (.inl (G.2 1, 20, .inl (upd i4 st a9)))) ((mu_c _ _ ((Ne.symm ne0_5))).trans (congrArg (fun z => mu z c3 (.inl (G.2 1, 20, .inl (upd i3 st k9)))) ((mu_c _ _ ((Ne.symm ne0_4))).trans (congrArg (fun z => mu z c2 (.inl (G.2 1, 20, .inl (upd i2 st (nI (nx9 % 8)))))) ((mu_c _ _ ((Ne.symm ne0_3))).trans (congrArg (fun z => mu z c1 (.inl (G.2 1, 20, .inl (upd i1 st (nI (nx9 / 8)))))) (mu_u _ _ _ _))))))))))))) hP
          refine lv_aload_n hx hb dX7_step_127 rfl (lv_at hl 0 rfl) ?_
          refine mw_get (C := RX7) (T := TX7) (N := 13) hx hb hts in_X7_step_X7 hown hK hP ((mu_n ne0_8).trans ((mu_n ne0_7).trans ((mu_n ne0_6).trans ((mu_n ne0_5).trans ((mu_n ne0_4).trans ((mu_n ne0_3).trans (mu_s _ _ _))))))) rfl 3 (by decide) (hts (.fieldLink RX7 136 "OctagonDeskModel" "steps" "I") (by decide +kernel)) (fun _ h9 => h9) rfl dX7_step_128 ?_
          refine lv_iconst (v := nI 1) hx hb dX7_step_131 (by decide) ?_
          refine nv_isub hx hb (by omega) dX7_step_132 ?_
          rw [hQ]
          exact W.iret (v := nI ((st + 1) - 1)) hx hb hr (fun t99 ht99 hW99 => ⟨⟨nI ((st + 1) - 1), mu (mu (mu (mu (mu (mu (mu μ md (.inr (7, [.int (nI 0), .ref ab, .ref av, .int (nI (st + 1)), .ref c1, .ref c2, .ref c3, .ref c4, .ref c5, .ref c6, .ref c7, .ref c8, .ref c9]))) c1 (.inl (G.2 1, 20, .inl (upd i1 st (nI (nx9 / 8)))))) c2 (.inl (G.2 1, 20, .inl (upd i2 st (nI (nx9 % 8)))))) c3 (.inl (G.2 1, 20, .inl (upd i3 st k9)))) c4 (.inl (G.2 1, 20, .inl (upd i4 st a9)))) c5 (.inl (G.2 1, 20, .inl (upd i5 st b9)))) c6 (.inl (G.2 1, 20, .inl (upd i6 st y9))), rfl, (⟨fun a e h1 h2 h3 => (mu_n h3.2.2.2.2.2).trans ((mu_n h3.2.2.2.2.1).trans ((mu_n h3.2.2.2.1).trans ((mu_n h3.2.2.1).trans ((mu_n h3.2.1).trans ((mu_n h3.1).trans ((mu_n h2).trans (h1))))))), _, _, ((mu_n ne0_8).trans ((mu_n ne0_7).trans ((mu_n ne0_6).trans ((mu_n ne0_5).trans ((mu_n ne0_4).trans ((mu_n ne0_3).trans (mu_s _ _ _))))))), Or.inl ⟨rfl, hok, by subst hst; rfl⟩⟩), by show mw _ _ _ _ t99.heap; rw [ht99]; exact hP⟩, hS.F ht99⟩) hS.2.2 dX7_step_133
        · exact absurd rfl hc44
      · exact absurd hc33 (by omega)
    · refine lv_iconst (v := nI 1) hx hb dX7_step_23 (by decide) ?_
      refine lv_goto (tgt := 41) hx hb dX7_step_24 (by decide) ?_
      refine kc_i (va_runV (As := [.int (nI 1)]) (rest := []) ⟨hx, hb, hml, hown, hts⟩ (c_X7_refused l G B (mu μ md (.inr (7, [.int (nI fl), .ref ab, .ref av, .int (nI st), .ref c1, .ref c2, .ref c3, .ref c4, .ref c5, .ref c6, .ref c7, .ref c8, .ref c9]))) md ab av c1 c2 c3 c4 c5 c6 c7 c8 c9 fl st f v 1 (mu_s _ _ _) ((mu_n ((Ne.symm ne0_1))).trans (hab)) ((mu_n ((Ne.symm ne0_2))).trans (hav)) (by omega)) (cwV 1 hts gX7_step_X7_refused rfl rfl rfl (by decide +kernel) ⟨Nat.le_of_ble_eq_true rfl, Nat.le_of_ble_eq_true rfl⟩) ⟨KW.blind, hP.recv hK rfl (mu_s _ _ _), fun U9 hU9 hW9 => ⟨rfl, KW.pre hBs hKK hS hP U9 hU9 hW9⟩⟩ rfl rfl hl.1 rfl (lv_room (Nat.le_of_ble_eq_true rfl)) dX7_step_41 ⟨(Nat.le_of_ble_eq_true rfl), (Nat.le_of_ble_eq_true rfl)⟩) hS (fun r41 m41 H locs hq9 hP hz9 hS => ?_)
      obtain ⟨he9, hw0, hw1⟩ := hq9
      rw [he9] at hP
      have hP : mw G.1 vwCl B (mu μ md (.inr (7, [.int (nI 1), .ref ab, .ref av, .int (nI st), .ref c1, .ref c2, .ref c3, .ref c4, .ref c5, .ref c6, .ref c7, .ref c8, .ref c9]))) _ := mw_eq (mu_u _ _ _ _) hP
      obtain rfl : r41 = nI 1 := hw1 (by decide)
      refine lv_if_eq (tgt := 49) hx hb dX7_step_44 (by decide) (fun hc44 => ?_) (fun hc44 => ?_)
      · exact absurd hc44 (by decide)
      · refine lv_iconst (v := nI 0) hx hb dX7_step_47 (by decide) ?_
        rw [hQ]
        exact W.iret (v := nI 0) hx hb hr (fun t99 ht99 hW99 => ⟨⟨nI 0, mu μ md (.inr (7, [.int (nI 1), .ref ab, .ref av, .int (nI st), .ref c1, .ref c2, .ref c3, .ref c4, .ref c5, .ref c6, .ref c7, .ref c8, .ref c9])), rfl, (⟨fun a e h1 h2 h3 => (mu_n h2).trans (h1), _, _, (mu_s _ _ _), Or.inr ⟨rfl, fun h9 => by first | exact yn_f hy5 hc8 (isI_W.mpr h9.1) | exact yn_f hy17 hc20 h9.2⟩⟩), by show mw _ _ _ _ t99.heap; rw [ht99]; exact hP⟩, hS.F ht99⟩) hS.2.2 dX7_step_48
