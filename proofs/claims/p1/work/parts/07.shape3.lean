theorem mu_none {μ : mp} {a q : Nat} {e : va_E} (h : mu μ a e q = none) : q ≠ a ∧ μ q = none := by
  by_cases h1 : q = a
  · subst h1; rw [mu_s] at h; cases h
  · exact ⟨h1, by rw [mu_n h1] at h; exact h⟩
theorem dJ7_copyOf_c38d5_0 : decode cJ7_copyOf_c38d5 0 = .ok (.iload_n 1, 1) := by decide +kernel
theorem dJ7_copyOf_c38d5_1 : decode cJ7_copyOf_c38d5 1 = .ok (.aload_n 0, 1) := by decide +kernel
theorem dJ7_copyOf_c38d5_2 : decode cJ7_copyOf_c38d5 2 = .ok (.arraylength, 1) := by decide +kernel
theorem dJ7_copyOf_c38d5_3 : decode cJ7_copyOf_c38d5 3 = .ok (.if_icmp .ne 11, 3) := by decide +kernel
theorem dJ7_copyOf_c38d5_6 : decode cJ7_copyOf_c38d5 6 = .ok (.aload_n 0, 1) := by decide +kernel
theorem dJ7_copyOf_c38d5_7 : decode cJ7_copyOf_c38d5 7 = .ok (.invokevirtual 319, 3) := by decide +kernel
theorem dJ7_copyOf_c38d5_10 : decode cJ7_copyOf_c38d5 10 = .ok (.checkcast 320, 3) := by decide +kernel
theorem dJ7_copyOf_c38d5_13 : decode cJ7_copyOf_c38d5 13 = .ok (.areturn, 1) := by decide +kernel
theorem dJ7_copyOf_c38d5_14 : decode cJ7_copyOf_c38d5 14 = .ok (.iload_n 1, 1) := by decide +kernel
theorem dJ7_copyOf_c38d5_15 : decode cJ7_copyOf_c38d5 15 = .ok (.newarray .long, 2) := by decide +kernel
theorem dJ7_copyOf_c38d5_17 : decode cJ7_copyOf_c38d5 17 = .ok (.astore_n 2, 1) := by decide +kernel
theorem dJ7_copyOf_c38d5_18 : decode cJ7_copyOf_c38d5 18 = .ok (.aload_n 0, 1) := by decide +kernel
theorem dJ7_copyOf_c38d5_19 : decode cJ7_copyOf_c38d5 19 = .ok (.iconst 0, 1) := by decide +kernel
theorem dJ7_copyOf_c38d5_20 : decode cJ7_copyOf_c38d5 20 = .ok (.aload_n 2, 1) := by decide +kernel
theorem dJ7_copyOf_c38d5_21 : decode cJ7_copyOf_c38d5 21 = .ok (.iconst 0, 1) := by decide +kernel
theorem dJ7_copyOf_c38d5_22 : decode cJ7_copyOf_c38d5 22 = .ok (.aload_n 0, 1) := by decide +kernel
theorem dJ7_copyOf_c38d5_23 : decode cJ7_copyOf_c38d5 23 = .ok (.arraylength, 1) := by decide +kernel
theorem dJ7_copyOf_c38d5_24 : decode cJ7_copyOf_c38d5 24 = .ok (.iload_n 1, 1) := by decide +kernel
theorem dJ7_copyOf_c38d5_25 : decode cJ7_copyOf_c38d5 25 = .ok (.invokestatic 304, 3) := by decide +kernel
theorem dJ7_copyOf_c38d5_28 : decode cJ7_copyOf_c38d5 28 = .ok (.invokestatic 150, 3) := by decide +kernel
theorem dJ7_copyOf_c38d5_31 : decode cJ7_copyOf_c38d5 31 = .ok (.aload_n 2, 1) := by decide +kernel
theorem dJ7_copyOf_c38d5_32 : decode cJ7_copyOf_c38d5 32 = .ok (.areturn, 1) := by decide +kernel
abbrev rm_J7_copyOf_c38d5 (n9 : Nat) : Room := { frames := 1, cells := 1, slots := 2 * n9, locals := 60 }
set_option maxHeartbeats 4000000 in
set_option maxRecDepth 100000 in
theorem c_J7_copyOf_c38d5 (l : Launch) (G : GG) (B : Nat) (μ : mp) (la n9 : Nat) (f : Nat → Int64) (ha : μ la = some (.inl (G.2 0, n9, .inr (.inl f)))) (h0n : 0 < n9) (hn9 : n9 < 200000) : Met l yJ7_copyOf_c38d5 wsJ7_copyOf_c38d5 (rm_J7_copyOf_c38d5 n9) (va_Pc [.ref la, .int (nI (2 * n9))] (KW G B μ)) (va_Qr (fun (_ : mp) => True) (fun μ2 ra t9 => (fun (μ2 : mp) (ra : Nat) => μ ra = none ∧ ∃ g9 : Nat → Int64, μ2 = mu μ ra (.inl (G.2 0, 2 * n9, .inr (.inl g9)))) μ2 ra ∧ BB G B μ2 t9) (fun q => B ≤ q)) 1 (2 * n9) (fun q => B ≤ q) := by
  refine Met.ofW (cc := cJ7_copyOf_c38d5) (maxL := 3) (ret := (some (.array .long))) (by decide) rfl ?_
  intro p e s m args below meth c s₁ B9 hml hv
  obtain ⟨hargs, hBs, hP, hKK⟩ := hv
  have hx := B9.exec
  have hb := B9.bytes
  have hr := B9.returns
  have hts := atoms_spec (ws := wsJ7_copyOf_c38d5) B9.pre
  have hown : s.vm.findClass RJ7 = some m.cls := findClass_of_methodNamed B9.named
  have hlocks := B9.notSynchronized
  have hK := hKK.k
  have hS : va_S (fun q => B ≤ q) s.heap s.heap [] := va_S.rf
  obtain ⟨Q, hQ⟩ : ∃ Q, Q = MQ below (va_Qr (fun (_ : mp) => True) (fun μ2 ra t9 => (fun (μ2 : mp) (ra : Nat) => μ ra = none ∧ ∃ g9 : Nat → Int64, μ2 = mu μ ra (.inl (G.2 0, 2 * n9, .inr (.inl g9)))) μ2 ra ∧ BB G B μ2 t9) (fun q => B ≤ q)) args s 1 (2 * n9) (fun q => B ≤ q) := ⟨_, rfl⟩
  rw [← hQ]
  have hl := lv_entry ([.ref la, .int (nI (2 * n9))]) (n := 3) (Nat.le_of_ble_eq_true rfl)
  have he9 : entryFrame m args 3 = entryFrame m ([.ref la, .int (nI (2 * n9))] : List Value).toArray 3 := by rw [hargs]
  rw [he9, lg_entry_eq]
  generalize (lg_sl ([.ref la, .int (nI (2 * n9))]) ++ List.replicate (3 - (lg_sl ([.ref la, .int (nI (2 * n9))])).length) Slot.unset).toArray = ls at hl ⊢
  have hl : lv_has ls 3 [(0, .ref la), (1, .int (nI (2 * n9)))] := hl
  refine lv_iload_n hx hb dJ7_copyOf_c38d5_0 rfl (lv_at hl 1 rfl) ?_
  refine lv_aload_n hx hb dJ7_copyOf_c38d5_1 rfl (lv_at hl 0 rfl) ?_
  refine mw_alen hx hb hK hP 0 (ha) rfl dJ7_copyOf_c38d5_2 ?_
  refine nv_icmp_ne (tgt := 14) hx hb (by omega) (by omega) dJ7_copyOf_c38d5_3 (by decide) (fun hc3 => ?_) (fun hc3 => ?_)
  · refine lv_iload_n hx hb dJ7_copyOf_c38d5_14 rfl (lv_at hl 1 rfl) ?_
    refine mw_newa (a0 := (2 * n9, .inr (.inl (fun _ => 0)))) (ty := .long) hx hb (hts (.arrayClass .long) (by decide +kernel)) rfl hK hP hS hBs 0 rfl (fun _ => rfl) (by omega) (by decide) Nat.le_of_ble_eq_true rfl (by show 0 + (2 * n9) ≤ 2 * n9; omega) dJ7_copyOf_c38d5_15 (fun q15 H hsq15 hzq15 hnq15 hP hS => ?_)
    have nqla_q15 : la ≠ q15 := mp_nn (ha) hnq15
    have hP : mw G.1 vwCl B (mu μ q15 (.inl (G.2 0, 2 * n9, .inr (.inl (fun _ => 0))))) _ := hP
    refine lv_astore_n (lv' := [(2, .ref q15), (0, .ref la), (1, .int (nI (2 * n9)))]) hx hb dJ7_copyOf_c38d5_17 rfl hl (by decide) rfl (fun ls hl => ?_)
    refine lv_aload_n hx hb dJ7_copyOf_c38d5_18 rfl (lv_at hl 1 rfl) ?_
    refine lv_iconst (v := nI 0) hx hb dJ7_copyOf_c38d5_19 (by decide) ?_
    refine lv_aload_n hx hb dJ7_copyOf_c38d5_20 rfl (lv_at hl 0 rfl) ?_
    refine lv_iconst (v := nI 0) hx hb dJ7_copyOf_c38d5_21 (by decide) ?_
    refine lv_aload_n hx hb dJ7_copyOf_c38d5_22 rfl (lv_at hl 1 rfl) ?_
    refine mw_alen hx hb hK hP 0 ((mu_n nqla_q15).trans (ha)) rfl dJ7_copyOf_c38d5_23 ?_
    refine lv_iload_n hx hb dJ7_copyOf_c38d5_24 rfl (lv_at hl 2 rfl) ?_
    refine va_mmin hx hb (hml.trans hl.1.symm) hown (hts (.methodLink RJ7 304 Lib.Math.min.name) (by decide +kernel)) (hts (.static Lib.Math.min.name) (by decide +kernel)) (hts (.initialized "java/lang/Math") (by decide +kernel)) (hts (.code Lib.Math.min.name Lib.Math.min.code 2 (some .int)) (by decide +kernel)) (Nat.le_of_ble_eq_true rfl) (Nat.le_of_ble_eq_true rfl) Nat.le_of_ble_eq_true rfl (by show 2 * n9 + (0) ≤ 2 * n9; omega) dJ7_copyOf_c38d5_25 ?_
    refine nv_eqi (y := nI n9) (if_neg (nI_nlt (by omega) (by omega))) ?_
    refine mw_copyl hx hb (hml.trans hl.1.symm) hown (hts (.methodLink RJ7 150 arraycopyName) (by decide +kernel)) (hts (.native arraycopyName) (by decide +kernel)) (hts (.static arraycopyName) (by decide +kernel)) (hts (.initialized "java/lang/System") (by decide +kernel)) hK hP hS 0 0 ((mu_n nqla_q15).trans (ha)) (mu_s _ _ _) rfl rfl (by omega) (by omega) (by omega) (Nat.le_of_ble_eq_true rfl) (Nat.le_of_ble_eq_true rfl) dJ7_copyOf_c38d5_28 (fun H locs hP hS => ?_)
    have hP : mw G.1 vwCl B (mu μ q15 (.inl (G.2 0, 2 * n9, .inr (.inl (va_cpy f (fun _ => 0) 0 0 n9))))) _ := mw_eq (mu_u _ _ _ _) hP
    refine lv_aload_n hx hb dJ7_copyOf_c38d5_31 rfl (lv_at hl 0 rfl) ?_
    rw [hQ]
    exact W.aret (v := .ref q15) hx hb hr (Or.inr ⟨_, rfl⟩) (Or.inr ⟨_, rfl⟩) (fun t99 ht99 hW99 => ⟨⟨mu μ q15 (.inl (G.2 0, 2 * n9, .inr (.inl (va_cpy f (fun _ => 0) 0 0 n9)))), q15, rfl, trivial, (⟨hnq15, _, rfl⟩), by show mw _ _ _ _ t99.heap; rw [ht99]; exact hP⟩, hS.F ht99⟩) hS.2.2 dJ7_copyOf_c38d5_32
  · exact absurd hc3 (by omega)

abbrev rm_X0_extend : Room := { frames := 1, cells := 0, slots := 0, locals := 22 }
set_option maxHeartbeats 4000000 in
set_option maxRecDepth 100000 in
theorem c_X0_extend (l : Launch) (G : GG) (B : Nat) (μ : mp) (h la k : Nat) (f : Nat → Int64) (i j0 : Nat) (hh : μ h = some (.inr (0, [.int (nI 158), .int (nI 157), .ref la, .int (nI (158 * k))]))) (ha : μ la = some (.inl (G.2 0, 158 * k + 158, .inr (.inl f)))) (hk : k ≤ 1022) (hi : i < 158) (hj0 : j0 ≤ k) : Met l yX0_extend wsX0_extend rm_X0_extend (va_Pc [.ref h, .int (nI i), .int (nI (158 * j0))] (KW G B μ)) (va_Qv (fun μ2 => ∃ g9 : Nat → Int64, μ2 = mu μ la (.inl (G.2 0, 158 * k + 158, .inr (.inl g9)))) (BB G B) (fun q => B ≤ q)) 0 0 (fun q => B ≤ q) := by
  refine Met.ofW (cc := cX0_extend) (maxL := 6) (ret := none) (by decide) rfl ?_
  intro p e s m args below meth c s₁ B9 hml hv
  obtain ⟨hargs, hBs, hP, hKK⟩ := hv
  have hx := B9.exec
  have hb := B9.bytes
  have hr := B9.returns
  have hts := atoms_spec (ws := wsX0_extend) B9.pre
  have hown : s.vm.findClass RX0 = some m.cls := findClass_of_methodNamed B9.named
  have hlocks := B9.notSynchronized
  have hK := hKK.k
  have hS : va_S (fun q => B ≤ q) s.heap s.heap [] := va_S.rf
  obtain ⟨Q, hQ⟩ : ∃ Q, Q = MQ below (va_Qv (fun μ2 => ∃ g9 : Nat → Int64, μ2 = mu μ la (.inl (G.2 0, 158 * k + 158, .inr (.inl g9)))) (BB G B) (fun q => B ≤ q)) args s 0 0 (fun q => B ≤ q) := ⟨_, rfl⟩
  rw [← hQ]
  have ne0_1 : h ≠ la := mp_ne hh ha (by simp)
  have in_X0_extend_X0 : ∀ w ∈ wsX00, w ∈ wsX0_extend := by decide +kernel
  have hP : mw G.1 vwCl B (mu μ la (.inl (G.2 0, 158 * k + 158, .inr (.inl f)))) s.heap := mw_eq (mu_i ha).symm hP
  have L26 : ∀ (N26 : Nat) (a : Nat) (q : Nat) (x : Int64) (g1 : Nat → Int64) (hN26 : k - q < N26) (ha4 : a = 158 * q) (hq : q ≤ k), ∀ (H : Heap) (locs : List Loc), mw G.1 vwCl B (mu μ la (.inl (G.2 0, 158 * k + 158, .inr (.inl g1)))) H → va_S (fun q => B ≤ q) s.heap H locs → ∀ ls : Array Slot, lv_has ls 6 [(0, .ref h), (1, .int (nI i)), (3, .long x), (5, .int (nI a))] → W p l e rm_X0_extend s m args below meth c H locs 0 0 Q (F0 m 26 ls []) := by
    intro N26
    induction N26 with
    | zero => intro a q x g1 hN26; exact absurd hN26 (Nat.not_lt_zero _)
    | succ N26 ih26 =>
      intro a q x g1 hN26 ha4 hq H locs hP hS ls hl
      refine lv_iload hx hb dX0_extend_26 (lv_at hl 3 rfl) ?_
      refine lv_aload_n hx hb dX0_extend_28 rfl (lv_at hl 0 rfl) ?_
      refine mw_get (C := RX0) (T := TX0) (N := 4) hx hb hts in_X0_extend_X0 hown hK hP ((mu_n ne0_1).trans (hh)) rfl 3 (by decide) (hts (.fieldLink RX0 22 "OctagonDesk$Numbers" "top" "I") (by decide +kernel)) (fun _ h9 => h9) rfl dX0_extend_29 ?_
      refine nv_icmp_ge (tgt := 66) hx hb (by omega) (by omega) dX0_extend_32 (by decide) (fun hc32 => ?_) (fun hc32 => ?_)
      · refine lv_aload_n hx hb dX0_extend_66 rfl (lv_at hl 0 rfl) ?_
        refine mw_get (C := RX0) (T := TX0) (N := 4) hx hb hts in_X0_extend_X0 hown hK hP ((mu_n ne0_1).trans (hh)) rfl 2 (by decide) (hts (.fieldLink RX0 18 "OctagonDesk$Numbers" "limbs" "[J") (by decide +kernel)) (fun _ h9 => h9) rfl dX0_extend_67 ?_
        refine lv_aload_n hx hb dX0_extend_70 rfl (lv_at hl 0 rfl) ?_
        refine mw_get (C := RX0) (T := TX0) (N := 4) hx hb hts in_X0_extend_X0 hown hK hP ((mu_n ne0_1).trans (hh)) rfl 3 (by decide) (hts (.fieldLink RX0 22 "OctagonDesk$Numbers" "top" "I") (by decide +kernel)) (fun _ h9 => h9) rfl dX0_extend_71 ?_
        refine lv_iload_n hx hb dX0_extend_74 rfl (lv_at hl 1 rfl) ?_
        refine nv_iadd hx hb dX0_extend_75 ?_
        refine lv_lload_n hx hb dX0_extend_76 rfl (lv_at hl 2 rfl) ?_
        refine mw_last hx hb hK hP hS 0 (mu_s _ _ _) rfl (by omega) (by omega) dX0_extend_77 (fun H locs hP hS => ?_)
        have hP : mw G.1 vwCl B (mu μ la (.inl (G.2 0, 158 * k + 158, .inr (.inl (vp_updL g1 ((158 * k) + i) x))))) _ := mw_eq (mu_u _ _ _ _) hP
        rw [hQ]
        exact W.vret hx hb hr (fun t99 ht99 hW99 => ⟨⟨mu μ la (.inl (G.2 0, 158 * k + 158, .inr (.inl (vp_updL g1 ((158 * k) + i) x)))), rfl, (⟨_, rfl⟩), by show mw _ _ _ _ t99.heap; rw [ht99]; exact hP⟩, hS.F ht99⟩) hS.2.2 dX0_extend_78
      · refine lv_aload_n hx hb dX0_extend_35 rfl (lv_at hl 0 rfl) ?_
        refine mw_get (C := RX0) (T := TX0) (N := 4) hx hb hts in_X0_extend_X0 hown hK hP ((mu_n ne0_1).trans (hh)) rfl 2 (by decide) (hts (.fieldLink RX0 18 "OctagonDesk$Numbers" "limbs" "[J") (by decide +kernel)) (fun _ h9 => h9) rfl dX0_extend_36 ?_
        refine lv_iload hx hb dX0_extend_39 (lv_at hl 3 rfl) ?_
        refine lv_iload_n hx hb dX0_extend_41 rfl (lv_at hl 1 rfl) ?_
        refine nv_iadd hx hb dX0_extend_42 ?_
        refine lv_lload_n hx hb dX0_extend_43 rfl (lv_at hl 2 rfl) ?_
        refine lv_ldc2 (v := (1152921504606846975)) hx hb hown (hts (.constantLong RX0 39 (1152921504606846975)) (by decide +kernel)) dX0_extend_44 ?_
        refine lv_land hx hb dX0_extend_47 ?_
        refine lv_topl (fun v48 ev48 => ?_)
        refine mw_last hx hb hK hP hS 0 (mu_s _ _ _) rfl (by omega) (by omega) dX0_extend_48 (fun H locs hP hS => ?_)
        have hP : mw G.1 vwCl B (mu μ la (.inl (G.2 0, 158 * k + 158, .inr (.inl (vp_updL g1 (a + i) v48))))) _ := mw_eq (mu_u _ _ _ _) hP
        refine lv_lload_n hx hb dX0_extend_49 rfl (lv_at hl 2 rfl) ?_
        refine lv_bipush (v := nI 60) hx hb dX0_extend_50 (by decide) ?_
        refine lv_lshr (v := x >>> ((nI 60).toInt64 &&& 63)) hx hb dX0_extend_52 rfl ?_
        refine lv_topl (fun v53 ev53 => ?_)
        refine lv_lstore_n (lv' := [(3, .long v53), (0, .ref h), (1, .int (nI i)), (5, .int (nI a))]) hx hb dX0_extend_53 rfl hl (by decide) rfl (fun ls hl => ?_)
        refine lv_iload hx hb dX0_extend_54 (lv_at hl 3 rfl) ?_
        refine lv_aload_n hx hb dX0_extend_56 rfl (lv_at hl 1 rfl) ?_
        refine mw_get (C := RX0) (T := TX0) (N := 4) hx hb hts in_X0_extend_X0 hown hK hP ((mu_n ne0_1).trans (hh)) rfl 0 (by decide) (hts (.fieldLink RX0 15 "OctagonDesk$Numbers" "cells" "I") (by decide +kernel)) (fun _ h9 => h9) rfl dX0_extend_57 ?_
        refine nv_iadd hx hb dX0_extend_60 ?_
        refine lv_istore (lv' := [(5, .int (nI (a + 158))), (3, .long v53), (0, .ref h), (1, .int (nI i))]) hx hb dX0_extend_61 hl (by decide) rfl (fun ls hl => ?_)
        refine lv_goto (tgt := 26) hx hb dX0_extend_63 (by decide) ?_
        exact ih26 (a + 158) (q + 1) v53 (vp_updL g1 (a + i) v48) (by omega) (by omega) (by omega) _ _ hP hS ls (lv_sub hl [2, 3, 1, 0] rfl)
  have hl := lv_entry ([.ref h, .int (nI i), .int (nI (158 * j0))]) (n := 6) (Nat.le_of_ble_eq_true rfl)
  have he9 : entryFrame m args 6 = entryFrame m ([.ref h, .int (nI i), .int (nI (158 * j0))] : List Value).toArray 6 := by rw [hargs]
  rw [he9, lg_entry_eq]
  generalize (lg_sl ([.ref h, .int (nI i), .int (nI (158 * j0))]) ++ List.replicate (6 - (lg_sl ([.ref h, .int (nI i), .int (nI (158 * j0))])).length) Slot.unset).toArray = ls at hl ⊢
  have hl : lv_has ls 6 [(0, .ref h), (1, .int (nI i)), (2, .int (nI (158 * j0)))] := hl
  refine lv_aload_n hx hb dX0_extend_0 rfl (lv_at hl 0 rfl) ?_
  refine mw_get (C := RX0) (T := TX0) (N := 4) hx hb hts in_X0_extend_X0 hown hK hP ((mu_n ne0_1).trans (hh)) rfl 2 (by decide) (hts (.fieldLink RX0 18 "OctagonDesk$Numbers" "limbs" "[J") (by decide +kernel)) (fun _ h9 => h9) rfl dX0_extend_1 ?_
  refine lv_iload_n hx hb dX0_extend_4 rfl (lv_at hl 2 rfl) ?_
  refine lv_iload_n hx hb dX0_extend_5 rfl (lv_at hl 1 rfl) ?_
  refine nv_iadd hx hb dX0_extend_6 ?_
  refine mw_lald hx hb hK hP 0 (mu_s _ _ _) rfl (by omega) (by omega) dX0_extend_7 ?_
  refine lv_topl (fun v8 ev8 => ?_)
  refine lv_lstore_n (lv' := [(3, .long v8), (0, .ref h), (1, .int (nI i)), (2, .int (nI (158 * j0)))]) hx hb dX0_extend_8 rfl hl (by decide) rfl (fun ls hl => ?_)
  refine lv_lload_n hx hb dX0_extend_9 rfl (lv_at hl 0 rfl) ?_
  refine lv_ldc2 (v := (9223372036854775807)) hx hb hown (hts (.constantLong RX0 25 (9223372036854775807)) (by decide +kernel)) dX0_extend_10 ?_
  refine nl_if_ne (tgt := 23) hx hb dX0_extend_13 dX0_extend_14 (by decide) (fun hc13 => ?_) (fun hc13 => ?_)
  · refine lv_iload_n hx hb dX0_extend_23 rfl (lv_at hl 3 rfl) ?_
    refine lv_istore (lv' := [(5, .int (nI (158 * j0))), (3, .long v8), (0, .ref h), (1, .int (nI i)), (2, .int (nI (158 * j0)))]) hx hb dX0_extend_24 hl (by decide) rfl (fun ls hl => ?_)
    exact L26 _ (158 * j0) j0 v8 f (Nat.lt_succ_self _) (by omega) (by omega) _ _ hP hS ls (lv_sub hl [2, 3, 1, 0] rfl)
  · refine lv_aload_n hx hb dX0_extend_17 rfl (lv_at hl 1 rfl) ?_
    refine lv_iload_n hx hb dX0_extend_18 rfl (lv_at hl 2 rfl) ?_
    refine kc_v (va_runV (As := [.int (nI i)]) (rest := []) ⟨hx, hb, hml, hown, hts⟩ (c_X0_setInfinite l G B (mu μ la (.inl (G.2 0, 158 * k + 158, .inr (.inl f)))) h la k f i ((mu_n ne0_1).trans (hh)) (mu_s _ _ _) (by omega) (by omega)) (cwV 1 hts gX0_extend_X0_setInfinite rfl rfl rfl (by decide +kernel) ⟨Nat.le_of_ble_eq_true rfl, Nat.le_of_ble_eq_true rfl⟩) ⟨KW.blind, hP.recv hK rfl ((mu_n ne0_1).trans (hh)), fun U9 hU9 hW9 => ⟨rfl, KW.pre hBs hKK hS hP U9 hU9 hW9⟩⟩ rfl rfl hl.1 rfl (lv_room (Nat.le_of_ble_eq_true rfl)) dX0_extend_19 ⟨Nat.le_of_ble_eq_true rfl, Nat.le_of_ble_eq_true rfl⟩) hS (fun u99 H locs hq9 hP hz9 hS => ?_)
    obtain ⟨g19, rfl, hg19⟩ := hq9
    have hP : mw G.1 vwCl B (mu μ la (.inl (G.2 0, 158 * k + 158, .inr (.inl g19)))) _ := mw_eq (mu_u _ _ _ _) hP
    rw [hQ]
    exact W.vret hx hb hr (fun t99 ht99 hW99 => ⟨⟨mu μ la (.inl (G.2 0, 158 * k + 158, .inr (.inl g19))), rfl, (⟨_, rfl⟩), by show mw _ _ _ _ t99.heap; rw [ht99]; exact hP⟩, hS.F ht99⟩) hS.2.2 dX0_extend_22

abbrev rm_X0_growTwofold (k : Nat) : Room := { frames := 2, cells := 1, slots := 2 * (158 * k + 158), locals := 82 }
set_option maxHeartbeats 4000000 in
set_option maxRecDepth 100000 in
theorem c_X0_growTwofold (l : Launch) (G : GG) (B : Nat) (μ : mp) (h la k : Nat) (f : Nat → Int64) (hh : μ h = some (.inr (0, [.int (nI 158), .int (nI 157), .ref la, .int (nI (158 * k))]))) (ha : μ la = some (.inl (G.2 0, 158 * k + 158, .inr (.inl f)))) (hk : k ≤ 1022) : Met l yX0_growTwofold wsX0_growTwofold (rm_X0_growTwofold k) (va_Pc [.ref h] (KW G B μ)) (va_Qv (fun μ2 => ∃ (la9 k9 : Nat) (g9 : Nat → Int64), μ2 = mu (mu μ h (.inr (0, [.int (nI 158), .int (nI 157), .ref la9, .int (nI (158 * k9))]))) la9 (.inl (G.2 0, 158 * k9 + 158, .inr (.inl g9))) ∧ k9 ≤ 1022 ∧ (la9 = la ∨ μ la9 = none)) (BB G B) (fun q => B ≤ q)) 1 (2 * (158 * k + 158)) (fun q => B ≤ q) := by
  refine Met.ofW (cc := cX0_growTwofold) (maxL := 3) (ret := none) (by decide) rfl ?_
  intro p e s m args below meth c s₁ B9 hml hv
  obtain ⟨hargs, hBs, hP, hKK⟩ := hv
  have hx := B9.exec
  have hb := B9.bytes
  have hr := B9.returns
  have hts := atoms_spec (ws := wsX0_growTwofold) B9.pre
  have hown : s.vm.findClass RX0 = some m.cls := findClass_of_methodNamed B9.named
  have hlocks := B9.notSynchronized
  have hK := hKK.k
  have hS : va_S (fun q => B ≤ q) s.heap s.heap [] := va_S.rf
  obtain ⟨Q, hQ⟩ : ∃ Q, Q = MQ below (va_Qv (fun μ2 => ∃ (la9 k9 : Nat) (g9 : Nat → Int64), μ2 = mu (mu μ h (.inr (0, [.int (nI 158), .int (nI 157), .ref la9, .int (nI (158 * k9))]))) la9 (.inl (G.2 0, 158 * k9 + 158, .inr (.inl g9))) ∧ k9 ≤ 1022 ∧ (la9 = la ∨ μ la9 = none)) (BB G B) (fun q => B ≤ q)) args s 1 (2 * (158 * k + 158)) (fun q => B ≤ q) := ⟨_, rfl⟩
  rw [← hQ]
  have ne0_1 : h ≠ la := mp_ne hh ha (by simp)
  have in_X0_growTwofold_X0 : ∀ w ∈ wsX00, w ∈ wsX0_growTwofold := by decide +kernel
  have hP : mw G.1 vwCl B (mu μ h (.inr (0, [.int (nI 158), .int (nI 157), .ref la, .int (nI (158 * k))]))) s.heap := mw_eq (mu_i hh).symm hP
  have L56 : ∀ (N56 : Nat) (i1 : Nat) (q9 : Nat) (g1 : Nat → Int64) (hN56 : 158 - i1 < N56) (hi : i1 ≤ 158) (hk2 : 2 * k + 1 ≤ 1022) (hqn : μ q9 = none), ∀ (H : Heap) (locs : List Loc), mw G.1 vwCl B (mu (mu μ h (.inr (0, [.int (nI 158), .int (nI 157), .ref q9, .int (nI (158 * (2 * k + 1)))]))) q9 (.inl (G.2 0, 158 * (2 * k + 1) + 158, .inr (.inl g1)))) H → va_S (fun q => B ≤ q) s.heap H locs → ∀ ls : Array Slot, lv_has ls 3 [(0, .ref h), (1, .int (nI (158 * k))), (2, .int (nI i1))] → W p l e (rm_X0_growTwofold k) s m args below meth c H locs 1 2 * (158 * k + 158) Q (F0 m 56 ls []) := by
    intro N56
    induction N56 with
    | zero => intro i1 q9 g1 hN56; exact absurd hN56 (Nat.not_lt_zero _)
    | succ N56 ih56 =>
      intro i1 q9 g1 hN56 hi hk2 hqn H locs hP hS ls hl
      refine lv_iload_n hx hb dX0_growTwofold_56 rfl (lv_at hl 2 rfl) ?_
      refine lv_aload_n hx hb dX0_growTwofold_57 rfl (lv_at hl 0 rfl) ?_
      refine mw_get (C := RX0) (T := TX0) (N := 4) hx hb hts in_X0_growTwofold_X0 hown hK hP ((mu_n ((mp_nn hh hqn))).trans (mu_s _ _ _)) rfl 0 (by decide) (hts (.fieldLink RX0 15 "OctagonDesk$Numbers" "cells" "I") (by decide +kernel)) (fun _ h9 => h9) rfl dX0_growTwofold_58 ?_
      refine nv_icmp_ge (tgt := 76) hx hb (by omega) (by omega) dX0_growTwofold_61 (by decide) (fun hc61 => ?_) (fun hc61 => ?_)
      · rw [hQ]
        exact W.vret hx hb hr (fun t99 ht99 hW99 => ⟨⟨mu (mu μ h (.inr (0, [.int (nI 158), .int (nI 157), .ref q9, .int (nI (158 * (2 * k + 1)))]))) q9 (.inl (G.2 0, 158 * (2 * k + 1) + 158, .inr (.inl g1))), rfl, (⟨q9, 2 * k + 1, _, rfl, hk2, Or.inr hqn⟩), by show mw _ _ _ _ t99.heap; rw [ht99]; exact hP⟩, hS.F ht99⟩) hS.2.2 dX0_growTwofold_76
      · refine lv_aload_n hx hb dX0_growTwofold_64 rfl (lv_at hl 0 rfl) ?_
        refine lv_iload_n hx hb dX0_growTwofold_65 rfl (lv_at hl 2 rfl) ?_
        refine lv_iload_n hx hb dX0_growTwofold_66 rfl (lv_at hl 1 rfl) ?_
        refine kc_v (va_runV (As := [.int (nI i1), .int (nI (158 * k))]) (rest := []) ⟨hx, hb, hml, hown, hts⟩ (c_X0_extend l G B (mu (mu μ h (.inr (0, [.int (nI 158), .int (nI 157), .ref q9, .int (nI (158 * (2 * k + 1)))]))) q9 (.inl (G.2 0, 158 * (2 * k + 1) + 158, .inr (.inl g1)))) h q9 ((2 * k + 1)) g1 i1 k ((mu_n ((mp_nn hh hqn))).trans (mu_s _ _ _)) (mu_s _ _ _) (by omega) (by omega) (by omega)) (cwV 2 hts gX0_growTwofold_X0_extend rfl rfl rfl (by decide +kernel) ⟨Nat.le_of_ble_eq_true rfl, Nat.le_of_ble_eq_true rfl⟩) ⟨KW.blind, hP.recv hK rfl ((mu_n ((mp_nn hh hqn))).trans (mu_s _ _ _)), fun U9 hU9 hW9 => ⟨rfl, KW.pre hBs hKK hS hP U9 hU9 hW9⟩⟩ rfl rfl hl.1 rfl (lv_room (Nat.le_of_ble_eq_true rfl)) dX0_growTwofold_67 ⟨Nat.le_of_ble_eq_true rfl, (by show 2 * (158 * k + 158) + (0) ≤ 2 * (158 * k + 158); omega)⟩) hS (fun u99 H locs hq9 hP hz9 hS => ?_)
        obtain ⟨g67, rfl⟩ := hq9
        have hP : mw G.1 vwCl B (mu (mu μ h (.inr (0, [.int (nI 158), .int (nI 157), .ref q9, .int (nI (158 * (2 * k + 1)))]))) q9 (.inl (G.2 0, 158 * (2 * k + 1) + 158, .inr (.inl g67)))) _ := mw_eq (mu_u _ _ _ _) hP
        refine lv_iinc (v := nI (i1 + 1)) (lv' := [(2, .int (nI (i1 + 1))), (0, .ref h), (1, .int (nI (158 * k)))]) hx hb dX0_growTwofold_70 hl (k := 2) rfl (nI_add _ _) (by decide) rfl (fun ls hl => ?_)
        refine lv_goto (tgt := 56) hx hb dX0_growTwofold_73 (by decide) ?_
        exact ih56 (i1 + 1) q9 g67 (by omega) (by omega) (by omega) (hqn) _ _ hP hS ls (lv_sub hl [1, 2, 0] rfl)
  have hl := lv_entry ([.ref h]) (n := 3) (Nat.le_of_ble_eq_true rfl)
  have he9 : entryFrame m args 3 = entryFrame m ([.ref h] : List Value).toArray 3 := by rw [hargs]
  rw [he9, lg_entry_eq]
  generalize (lg_sl ([.ref h]) ++ List.replicate (3 - (lg_sl ([.ref h])).length) Slot.unset).toArray = ls at hl ⊢
  have hl : lv_has ls 3 [(0, .ref h)] := hl
  refine lv_aload_n hx hb dX0_growTwofold_0 rfl (lv_at hl 0 rfl) ?_
  refine mw_get (C := RX0) (T := TX0) (N := 4) hx hb hts in_X0_growTwofold_X0 hown hK hP (mu_s _ _ _) rfl 2 (by decide) (hts (.fieldLink RX0 18 "OctagonDesk$Numbers" "limbs" "[J") (by decide +kernel)) (fun _ h9 => h9) rfl dX0_growTwofold_1 ?_
  refine mw_alen hx hb hK hP 0 ((mu_n ((Ne.symm ne0_1))).trans (ha)) rfl dX0_growTwofold_4 ?_
  refine lv_sipush (v := nI 512) hx hb dX0_growTwofold_5 (by decide) ?_
  refine lv_aload_n hx hb dX0_growTwofold_8 rfl (lv_at hl 0 rfl) ?_
  refine mw_get (C := RX0) (T := TX0) (N := 4) hx hb hts in_X0_growTwofold_X0 hown hK hP (mu_s _ _ _) rfl 0 (by decide) (hts (.fieldLink RX0 15 "OctagonDesk$Numbers" "cells" "I") (by decide +kernel)) (fun _ h9 => h9) rfl dX0_growTwofold_9 ?_
  refine nv_imul hx hb dX0_growTwofold_12 ?_
  refine nv_icmp_lt (tgt := 17) hx hb (by omega) (by omega) dX0_growTwofold_13 (by decide) (fun hc13 => ?_) (fun hc13 => ?_)
  · refine lv_aload_n hx hb dX0_growTwofold_17 rfl (lv_at hl 0 rfl) ?_
    refine mw_get (C := RX0) (T := TX0) (N := 4) hx hb hts in_X0_growTwofold_X0 hown hK hP (mu_s _ _ _) rfl 3 (by decide) (hts (.fieldLink RX0 22 "OctagonDesk$Numbers" "top" "I") (by decide +kernel)) (fun _ h9 => h9) rfl dX0_growTwofold_18 ?_
    refine lv_istore_n (lv' := [(1, .int (nI (158 * k))), (0, .ref h)]) hx hb dX0_growTwofold_21 rfl hl (by decide) rfl (fun ls hl => ?_)
    refine lv_aload_n hx hb dX0_growTwofold_22 rfl (lv_at hl 1 rfl) ?_
    refine lv_aload_n hx hb dX0_growTwofold_23 rfl (lv_at hl 1 rfl) ?_
    refine mw_get (C := RX0) (T := TX0) (N := 4) hx hb hts in_X0_growTwofold_X0 hown hK hP (mu_s _ _ _) rfl 2 (by decide) (hts (.fieldLink RX0 18 "OctagonDesk$Numbers" "limbs" "[J") (by decide +kernel)) (fun _ h9 => h9) rfl dX0_growTwofold_24 ?_
    refine lv_iconst (v := nI 2) hx hb dX0_growTwofold_27 (by decide) ?_
    refine lv_aload_n hx hb dX0_growTwofold_28 rfl (lv_at hl 1 rfl) ?_
    refine mw_get (C := RX0) (T := TX0) (N := 4) hx hb hts in_X0_growTwofold_X0 hown hK hP (mu_s _ _ _) rfl 2 (by decide) (hts (.fieldLink RX0 18 "OctagonDesk$Numbers" "limbs" "[J") (by decide +kernel)) (fun _ h9 => h9) rfl dX0_growTwofold_29 ?_
    refine mw_alen hx hb hK hP 0 ((mu_n ((Ne.symm ne0_1))).trans (ha)) rfl dX0_growTwofold_32 ?_
    refine nv_imul hx hb dX0_growTwofold_33 ?_
    refine kc_r (va_runS (As := [.ref la, .int (nI (2 * (158 * k + 158)))]) (rest := [.ref h]) ⟨hx, hb, hml, hown, hts⟩ (c_J7_copyOf_c38d5 l G B (mu μ h (.inr (0, [.int (nI 158), .int (nI 157), .ref la, .int (nI (158 * k))]))) la (158 * k + 158) f ((mu_n ((Ne.symm ne0_1))).trans (ha)) (by omega) (by omega)) (va_cwS 2 hts gX0_growTwofold_J7_copyOf_c38d5 rfl rfl rfl (by decide +kernel) ⟨Nat.le_of_ble_eq_true rfl, Nat.le_of_ble_eq_true rfl⟩) ⟨KW.blind, fun U9 hU9 hW9 => ⟨rfl, KW.pre hBs hKK hS hP U9 hU9 hW9⟩⟩ rfl rfl hl.1 rfl (lv_room (Nat.le_of_ble_eq_true rfl)) dX0_growTwofold_34 ⟨Nat.le_of_ble_eq_true rfl, (by show 0 + (2 * (158 * k + 158)) ≤ 2 * (158 * k + 158); omega)⟩) hS (fun u99 r34 H locs hq9 hP hz9 hS => ?_)
    obtain ⟨hn34, g34, rfl⟩ := hq9
    have nqh_r34 : h ≠ r34 := mp_nn (mu_s _ _ _) hn34
    have nqla_r34 : la ≠ r34 := mp_nn ((mu_n ((Ne.symm ne0_1))).trans (ha)) hn34
    have hP : mw G.1 vwCl B (mu (mu μ h (.inr (0, [.int (nI 158), .int (nI 157), .ref la, .int (nI (158 * k))]))) r34 (.inl (G.2 0, 2 * (158 * k + 158), .inr (.inl g34)))) _ := hP
    refine mw_put (ty := .array .long) (v := .ref r34) (C := RX0) (T := TX0) (N := 4) hx hb hts in_X0_growTwofold_X0 tyX0 tyX0_ok nmX0 hown hK hP hS ((mu_n nqh_r34).trans (mu_s _ _ _)) rfl 2 (by decide) (hts (.fieldLink RX0 18 "OctagonDesk$Numbers" "limbs" "[J") (by decide +kernel)) (fun _ h9 => h9) rfl (by decide +kernel) (by first | rfl | decide +kernel) (by first | rfl | decide +kernel) (Nat.le_of_ble_eq_true rfl) dX0_growTwofold_37 (fun H locs hP hS => ?_)
    have hP : mw G.1 vwCl B (mu (mu μ h (.inr (0, [.int (nI 158), .int (nI 157), .ref r34, .int (nI (158 * k))]))) r34 (.inl (G.2 0, 2 * (158 * k + 158), .inr (.inl g34)))) _ := mw_eq ((mu_c _ _ ((Ne.symm nqh_r34))).trans (congrArg (fun z => mu z r34 (.inl (G.2 0, 2 * (158 * k + 158), .inr (.inl g34)))) (mu_u _ _ _ _))) hP
    rw [show 2 * (158 * k + 158) = 158 * (2 * k + 1) + 158 by omega] at hP
    have hP : mw G.1 vwCl B (mu (mu μ h (.inr (0, [.int (nI 158), .int (nI 157), .ref r34, .int (nI (158 * k))]))) r34 (.inl (G.2 0, 158 * (2 * k + 1) + 158, .inr (.inl g34)))) _ := hP
    refine lv_aload_n hx hb dX0_growTwofold_40 rfl (lv_at hl 1 rfl) ?_
    refine lv_aload_n hx hb dX0_growTwofold_41 rfl (lv_at hl 1 rfl) ?_
    refine mw_get (C := RX0) (T := TX0) (N := 4) hx hb hts in_X0_growTwofold_X0 hown hK hP ((mu_n nqh_r34).trans (mu_s _ _ _)) rfl 2 (by decide) (hts (.fieldLink RX0 18 "OctagonDesk$Numbers" "limbs" "[J") (by decide +kernel)) (fun _ h9 => h9) rfl dX0_growTwofold_42 ?_
    refine mw_alen hx hb hK hP 0 (mu_s _ _ _) rfl dX0_growTwofold_45 ?_
    refine lv_aload_n hx hb dX0_growTwofold_46 rfl (lv_at hl 1 rfl) ?_
    refine mw_get (C := RX0) (T := TX0) (N := 4) hx hb hts in_X0_growTwofold_X0 hown hK hP ((mu_n nqh_r34).trans (mu_s _ _ _)) rfl 0 (by decide) (hts (.fieldLink RX0 15 "OctagonDesk$Numbers" "cells" "I") (by decide +kernel)) (fun _ h9 => h9) rfl dX0_growTwofold_47 ?_
    refine nv_isub hx hb (by omega) dX0_growTwofold_50 ?_
    refine nv_eqi (y := nI (158 * (2 * k + 1))) (congrArg nI (by omega)) ?_
    refine mw_put (ty := .int) (v := .int (nI (158 * (2 * k + 1)))) (C := RX0) (T := TX0) (N := 4) hx hb hts in_X0_growTwofold_X0 tyX0 tyX0_ok nmX0 hown hK hP hS ((mu_n nqh_r34).trans (mu_s _ _ _)) rfl 3 (by decide) (hts (.fieldLink RX0 22 "OctagonDesk$Numbers" "top" "I") (by decide +kernel)) (fun _ h9 => h9) rfl (by decide +kernel) (by first | rfl | decide +kernel) (by first | rfl | decide +kernel) (Nat.le_of_ble_eq_true rfl) dX0_growTwofold_51 (fun H locs hP hS => ?_)
    have hP : mw G.1 vwCl B (mu (mu μ h (.inr (0, [.int (nI 158), .int (nI 157), .ref r34, .int (nI (158 * (2 * k + 1)))]))) r34 (.inl (G.2 0, 158 * (2 * k + 1) + 158, .inr (.inl g34)))) _ := mw_eq ((mu_c _ _ ((Ne.symm nqh_r34))).trans (congrArg (fun z => mu z r34 (.inl (G.2 0, 158 * (2 * k + 1) + 158, .inr (.inl g34)))) (mu_u _ _ _ _))) hP
    refine lv_iconst (v := nI 0) hx hb dX0_growTwofold_54 (by decide) ?_
    refine lv_istore_n (lv' := [(2, .int (nI 0)), (1, .int (nI (158 * k))), (0, .ref h)]) hx hb dX0_growTwofold_55 rfl hl (by decide) rfl (fun ls hl => ?_)
    exact L56 _ 0 r34 g34 (Nat.lt_succ_self _) (by omega) (by omega) ((mu_none hn34).2) _ _ hP hS ls (lv_sub hl [2, 1, 0] rfl)
  · rw [hQ]
    refine W.widen (k := 1) (n := 2 * (158 * k + 158)) (by omega) (by omega) ?_
    exact W.vret hx hb hr (fun t99 ht99 hW99 => ⟨⟨mu μ h (.inr (0, [.int (nI 158), .int (nI 157), .ref la, .int (nI (158 * k))])), rfl, (⟨la, k, f, (mu_i ((mu_n (Ne.symm ne0_1)).trans ha)).symm, hk, Or.inl rfl⟩), by show mw _ _ _ _ t99.heap; rw [ht99]; exact hP⟩, hS.F ht99⟩) hS.2.2 dX0_growTwofold_16
