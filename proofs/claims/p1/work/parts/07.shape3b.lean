abbrev rm_X0_extend : Room := { frames := 1, cells := 0, slots := 0, locals := 22 }
set_option maxHeartbeats 4000000 in
set_option maxRecDepth 100000 in
theorem c_X0_extend (l : Launch) (G : GG) (B : Nat) (μ : mp) (h la k : Nat) (f : Nat → Int64) (i j0 : Nat) (hh : μ h = some (.inr (0, [.int (nI 158), .int (nI 157), .ref la, .int (nI (158 * k))]))) (ha : μ la = some (.inl (G.2 0, 158 * k + 158, .inr (.inl f)))) (hk : k ≤ 1022) (hi : i < 158) (hj0 : j0 ≤ k) : Met l yX0_extend wsX0_extend rm_X0_extend (va_Pc [.ref h, .int (nI i), .int (nI (158 * j0))] (KW G B μ)) (va_Qv (fun μ2 => ∃ g9 : Nat → Int64, μ2 = mu μ la (.inl (G.2 0, 158 * k + 158, .inr (.inl g9)))) (BB G B) (fun q => B ≤ q)) 0 0 (fun q => B ≤ q) := by
  refine Met.ofW (cc := cX0_extend) (maxL := 6) (ret := none) (by decide) rfl ?_
  intro p e s m args below meth c s₁ B9 hml hv
  obtain ⟨hargs, hBs, hP, hKK⟩ := hv
  have hx := B9.exec
  have hb := B9.bytes
  have hr := B9.returns
  have hts := atoms_spec (ws := wsX0_extend) B9.pre
  have hown : s.vm.findClass RX0 = some m.cls := findClass_of_methodNamed B9.named
  have hlocks := B9.notSynchronized
  have hK := hKK.k
  have hS : va_S (fun q => B ≤ q) s.heap s.heap [] := va_S.rf
  obtain ⟨Q, hQ⟩ : ∃ Q, Q = MQ below (va_Qv (fun μ2 => ∃ g9 : Nat → Int64, μ2 = mu μ la (.inl (G.2 0, 158 * k + 158, .inr (.inl g9)))) (BB G B) (fun q => B ≤ q)) args s 0 0 (fun q => B ≤ q) := ⟨_, rfl⟩
  rw [← hQ]
  have ne0_1 : h ≠ la := mp_ne hh ha (by simp)
  have in_X0_extend_X0 : ∀ w ∈ wsX00, w ∈ wsX0_extend := by decide +kernel
  have hP : mw G.1 vwCl B (mu μ la (.inl (G.2 0, 158 * k + 158, .inr (.inl f)))) s.heap := mw_eq (mu_i ha).symm hP
  have L26 : ∀ (N26 : Nat) (a : Nat) (q : Nat) (x : Int64) (g1 : Nat → Int64) (hN26 : k - q < N26) (ha4 : a = 158 * q) (hq : q ≤ k), ∀ (H : Heap) (locs : List Loc), mw G.1 vwCl B (mu μ la (.inl (G.2 0, 158 * k + 158, .inr (.inl g1)))) H → va_S (fun q => B ≤ q) s.heap H locs → ∀ ls : Array Slot, lv_has ls 6 [(0, .ref h), (1, .int (nI i)), (3, .long x), (5, .int (nI a))] → W p l e rm_X0_extend s m args below meth c H locs 0 0 Q (F0 m 26 ls []) := by
    intro N26
    induction N26 with
    | zero => intro a q x g1 hN26; exact absurd hN26 (Nat.not_lt_zero _)
    | succ N26 ih26 =>
      intro a q x g1 hN26 ha4 hq H locs hP hS ls hl
      refine lv_iload hx hb dX0_extend_26 (lv_at hl 3 rfl) ?_
      refine lv_aload_n hx hb dX0_extend_28 rfl (lv_at hl 0 rfl) ?_
      refine mw_get (C := RX0) (T := TX0) (N := 4) hx hb hts in_X0_extend_X0 hown hK hP ((mu_n ne0_1).trans (hh)) rfl 3 (by decide) (hts (.fieldLink RX0 22 "OctagonDesk$Numbers" "top" "I") (by decide +kernel)) (fun _ h9 => h9) rfl dX0_extend_29 ?_
      refine nv_icmp_ge (tgt := 66) hx hb (by omega) (by omega) dX0_extend_32 (by decide) (fun hc32 => ?_) (fun hc32 => ?_)
      · refine lv_aload_n hx hb dX0_extend_66 rfl (lv_at hl 0 rfl) ?_
        refine mw_get (C := RX0) (T := TX0) (N := 4) hx hb hts in_X0_extend_X0 hown hK hP ((mu_n ne0_1).trans (hh)) rfl 2 (by decide) (hts (.fieldLink RX0 18 "OctagonDesk$Numbers" "limbs" "[J") (by decide +kernel)) (fun _ h9 => h9) rfl dX0_extend_67 ?_
        refine lv_aload_n hx hb dX0_extend_70 rfl (lv_at hl 0 rfl) ?_
        refine mw_get (C := RX0) (T := TX0) (N := 4) hx hb hts in_X0_extend_X0 hown hK hP ((mu_n ne0_1).trans (hh)) rfl 3 (by decide) (hts (.fieldLink RX0 22 "OctagonDesk$Numbers" "top" "I") (by decide +kernel)) (fun _ h9 => h9) rfl dX0_extend_71 ?_
        refine lv_iload_n hx hb dX0_extend_74 rfl (lv_at hl 1 rfl) ?_
        refine nv_iadd hx hb dX0_extend_75 ?_
        refine lv_lload_n hx hb dX0_extend_76 rfl (lv_at hl 2 rfl) ?_
        refine mw_last hx hb hK hP hS 0 (mu_s _ _ _) rfl (by omega) (by omega) dX0_extend_77 (fun H locs hP hS => ?_)
        have hP : mw G.1 vwCl B (mu μ la (.inl (G.2 0, 158 * k + 158, .inr (.inl (vp_updL g1 ((158 * k) + i) x))))) _ := mw_eq (mu_u _ _ _ _) hP
        rw [hQ]
        exact W.vret hx hb hr (fun t99 ht99 hW99 => ⟨⟨mu μ la (.inl (G.2 0, 158 * k + 158, .inr (.inl (vp_updL g1 ((158 * k) + i) x)))), rfl, (⟨_, rfl⟩), by show mw _ _ _ _ t99.heap; rw [ht99]; exact hP⟩, hS.F ht99⟩) hS.2.2 dX0_extend_78
      · refine lv_aload_n hx hb dX0_extend_35 rfl (lv_at hl 0 rfl) ?_
        refine mw_get (C := RX0) (T := TX0) (N := 4) hx hb hts in_X0_extend_X0 hown hK hP ((mu_n ne0_1).trans (hh)) rfl 2 (by decide) (hts (.fieldLink RX0 18 "OctagonDesk$Numbers" "limbs" "[J") (by decide +kernel)) (fun _ h9 => h9) rfl dX0_extend_36 ?_
        refine lv_iload hx hb dX0_extend_39 (lv_at hl 3 rfl) ?_
        refine lv_iload_n hx hb dX0_extend_41 rfl (lv_at hl 1 rfl) ?_
        refine nv_iadd hx hb dX0_extend_42 ?_
        refine lv_lload_n hx hb dX0_extend_43 rfl (lv_at hl 2 rfl) ?_
        refine lv_ldc2 (v := (1152921504606846975)) hx hb hown (hts (.constantLong RX0 39 (1152921504606846975)) (by decide +kernel)) dX0_extend_44 ?_
        refine lv_land hx hb dX0_extend_47 ?_
        refine lv_topl (fun v48 ev48 => ?_)
        refine mw_last hx hb hK hP hS 0 (mu_s _ _ _) rfl (by omega) (by omega) dX0_extend_48 (fun H locs hP hS => ?_)
        have hP : mw G.1 vwCl B (mu μ la (.inl (G.2 0, 158 * k + 158, .inr (.inl (vp_updL g1 (a + i) v48))))) _ := mw_eq (mu_u _ _ _ _) hP
        refine lv_lload_n hx hb dX0_extend_49 rfl (lv_at hl 2 rfl) ?_
        refine lv_bipush (v := nI 60) hx hb dX0_extend_50 (by decide) ?_
        refine lv_lshr (v := x >>> ((nI 60).toInt64 &&& 63)) hx hb dX0_extend_52 rfl ?_
        refine lv_topl (fun v53 ev53 => ?_)
        refine lv_lstore_n (lv' := [(3, .long v53), (0, .ref h), (1, .int (nI i)), (5, .int (nI a))]) hx hb dX0_extend_53 rfl hl (by decide) rfl (fun ls hl => ?_)
        refine lv_iload hx hb dX0_extend_54 (lv_at hl 3 rfl) ?_
        refine lv_aload_n hx hb dX0_extend_56 rfl (lv_at hl 1 rfl) ?_
        refine mw_get (C := RX0) (T := TX0) (N := 4) hx hb hts in_X0_extend_X0 hown hK hP ((mu_n ne0_1).trans (hh)) rfl 0 (by decide) (hts (.fieldLink RX0 15 "OctagonDesk$Numbers" "cells" "I") (by decide +kernel)) (fun _ h9 => h9) rfl dX0_extend_57 ?_
        refine nv_iadd hx hb dX0_extend_60 ?_
        refine lv_istore (lv' := [(5, .int (nI (a + 158))), (3, .long v53), (0, .ref h), (1, .int (nI i))]) hx hb dX0_extend_61 hl (by decide) rfl (fun ls hl => ?_)
        refine lv_goto (tgt := 26) hx hb dX0_extend_63 (by decide) ?_
        exact ih26 (a + 158) (q + 1) v53 (vp_updL g1 (a + i) v48) (by omega) (by omega) (by omega) _ _ hP hS ls (lv_sub hl [2, 3, 1, 0] rfl)
  have hl := lv_entry ([.ref h, .int (nI i), .int (nI (158 * j0))]) (n := 6) (Nat.le_of_ble_eq_true rfl)
  have he9 : entryFrame m args 6 = entryFrame m ([.ref h, .int (nI i), .int (nI (158 * j0))] : List Value).toArray 6 := by rw [hargs]
  rw [he9, lg_entry_eq]
  generalize (lg_sl ([.ref h, .int (nI i), .int (nI (158 * j0))]) ++ List.replicate (6 - (lg_sl ([.ref h, .int (nI i), .int (nI (158 * j0))])).length) Slot.unset).toArray = ls at hl ⊢
  have hl : lv_has ls 6 [(0, .ref h), (1, .int (nI i)), (2, .int (nI (158 * j0)))] := hl
  refine lv_aload_n hx hb dX0_extend_0 rfl (lv_at hl 0 rfl) ?_
  refine mw_get (C := RX0) (T := TX0) (N := 4) hx hb hts in_X0_extend_X0 hown hK hP ((mu_n ne0_1).trans (hh)) rfl 2 (by decide) (hts (.fieldLink RX0 18 "OctagonDesk$Numbers" "limbs" "[J") (by decide +kernel)) (fun _ h9 => h9) rfl dX0_extend_1 ?_
  refine lv_iload_n hx hb dX0_extend_4 rfl (lv_at hl 2 rfl) ?_
  refine lv_iload_n hx hb dX0_extend_5 rfl (lv_at hl 1 rfl) ?_
  refine nv_iadd hx hb dX0_extend_6 ?_
  refine mw_lald hx hb hK hP 0 (mu_s _ _ _) rfl (by omega) (by omega) dX0_extend_7 ?_
  refine lv_topl (fun v8 ev8 => ?_)
  refine lv_lstore_n (lv' := [(3, .long v8), (0, .ref h), (1, .int (nI i)), (2, .int (nI (158 * j0)))]) hx hb dX0_extend_8 rfl hl (by decide) rfl (fun ls hl => ?_)
  refine lv_lload_n hx hb dX0_extend_9 rfl (lv_at hl 0 rfl) ?_
  refine lv_ldc2 (v := (9223372036854775807)) hx hb hown (hts (.constantLong RX0 25 (9223372036854775807)) (by decide +kernel)) dX0_extend_10 ?_
  refine nl_if_ne (tgt := 23) hx hb dX0_extend_13 dX0_extend_14 (by decide) (fun hc13 => ?_) (fun hc13 => ?_)
  · refine lv_iload_n hx hb dX0_extend_23 rfl (lv_at hl 3 rfl) ?_
    refine lv_istore (lv' := [(5, .int (nI (158 * j0))), (3, .long v8), (0, .ref h), (1, .int (nI i)), (2, .int (nI (158 * j0)))]) hx hb dX0_extend_24 hl (by decide) rfl (fun ls hl => ?_)
    exact L26 _ (158 * j0) j0 v8 f (Nat.lt_succ_self _) (by omega) (by omega) _ _ hP hS ls (lv_sub hl [2, 3, 1, 0] rfl)
  · refine lv_aload_n hx hb dX0_extend_17 rfl (lv_at hl 1 rfl) ?_
    refine lv_iload_n hx hb dX0_extend_18 rfl (lv_at hl 2 rfl) ?_
    refine kc_v (va_runV (As := [.int (nI i)]) (rest := []) ⟨hx, hb, hml, hown, hts⟩ (c_X0_setInfinite l G B (mu μ la (.inl (G.2 0, 158 * k + 158, .inr (.inl f)))) h la k f i ((mu_n ne0_1).trans (hh)) (mu_s _ _ _) (by omega) (by omega)) (cwV 1 hts gX0_extend_X0_setInfinite rfl rfl rfl (by decide +kernel) ⟨Nat.le_of_ble_eq_true rfl, Nat.le_of_ble_eq_true rfl⟩) ⟨KW.blind, hP.recv hK rfl ((mu_n ne0_1).trans (hh)), fun U9 hU9 hW9 => ⟨rfl, KW.pre hBs hKK hS hP U9 hU9 hW9⟩⟩ rfl rfl hl.1 rfl (lv_room (Nat.le_of_ble_eq_true rfl)) dX0_extend_19 ⟨(Nat.le_of_ble_eq_true rfl), (Nat.le_of_ble_eq_true rfl)⟩) hS (fun m19 H locs hq9 hP hz9 hS => ?_)
    obtain ⟨g19, rfl, hg19⟩ := hq9
    have hP : mw G.1 vwCl B (mu μ la (.inl (G.2 0, 158 * k + 158, .inr (.inl g19)))) _ := mw_eq (mu_u _ _ _ _) hP
    rw [hQ]
    exact W.vret hx hb hr (fun t99 ht99 hW99 => ⟨⟨mu μ la (.inl (G.2 0, 158 * k + 158, .inr (.inl g19))), rfl, (⟨_, rfl⟩), by show mw _ _ _ _ t99.heap; rw [ht99]; exact hP⟩, hS.F ht99⟩) hS.2.2 dX0_extend_22
