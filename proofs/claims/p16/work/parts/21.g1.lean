abbrev rm_X0_growTwofold_m : Room := { frames := 0, cells := 0, slots := 0, locals := 0 }
set_option maxHeartbeats 4000000 in
set_option maxRecDepth 100000 in
theorem c_X0_growTwofold_m (l : Launch) (G : GG) (B : Nat) (μ : mp) (h la k : Nat) (f : Nat → Int64) (hh : μ h = some (.inr (0, [.int (nI 158), .int (nI 157), .ref la, .int (nI (158 * k))]))) (ha : μ la = some (.inl (G.2 0, 158 * k + 158, .inr (.inl f)))) (hk : k = 511) : Met l yX0_growTwofold wsX0_growTwofold rm_X0_growTwofold_m (va_Pc [.ref h] (KW G B μ)) (va_Qv (fun μ2 => μ2 = μ) (BB G B) (fun q => B ≤ q)) 0 0 (fun q => B ≤ q) := by
  refine Met.ofW (cc := cX0_growTwofold) (maxL := 3) (ret := none) (by decide) rfl ?_
  intro p e s m args below meth c s₁ B9 hml hv
  obtain ⟨hargs, hBs, hP, hKK⟩ := hv
  have hx := B9.exec
  have hb := B9.bytes
  have hr := B9.returns
  have hts := atoms_spec (ws := wsX0_growTwofold) B9.pre
  have hown : s.vm.findClass RX0 = some m.cls := findClass_of_methodNamed B9.named
  have hlocks := B9.notSynchronized
  have hK := hKK.k
  have hS : va_S (fun q => B ≤ q) s.heap s.heap [] := va_S.rf
  obtain ⟨Q, hQ⟩ : ∃ Q, Q = MQ below (va_Qv (fun μ2 => μ2 = μ) (BB G B) (fun q => B ≤ q)) args s 0 0 (fun q => B ≤ q) := ⟨_, rfl⟩
  rw [← hQ]
  have ne0_1 : h ≠ la := mp_ne hh ha (by simp)
  have in_X0_growTwofold_X0 : ∀ w ∈ wsX00, w ∈ wsX0_growTwofold := by decide +kernel
  have hl := lv_entry ([.ref h]) (n := 3) (Nat.le_of_ble_eq_true rfl)
  have he9 : entryFrame m args 3 = entryFrame m ([.ref h] : List Value).toArray 3 := by rw [hargs]
  rw [he9, lg_entry_eq]
  generalize (lg_sl ([.ref h]) ++ List.replicate (3 - (lg_sl ([.ref h])).length) Slot.unset).toArray = ls at hl ⊢
  have hl : lv_has ls 3 [(0, .ref h)] := hl
  refine lv_aload_n hx hb dX0_growTwofold_0 rfl (lv_at hl 0 rfl) ?_
  refine mw_get (C := RX0) (T := TX0) (N := 4) hx hb hts in_X0_growTwofold_X0 hown hK hP (hh) rfl 2 (by decide) (hts (.fieldLink RX0 18 "OctagonDesk$Numbers" "limbs" "[J") (by decide +kernel)) (fun _ h9 => h9) rfl dX0_growTwofold_1 ?_
  refine mw_alen hx hb hK hP 0 (ha) rfl dX0_growTwofold_4 ?_
  refine lv_sipush (v := nI 512) hx hb dX0_growTwofold_5 (by decide) ?_
  refine lv_aload_n hx hb dX0_growTwofold_8 rfl (lv_at hl 0 rfl) ?_
  refine mw_get (C := RX0) (T := TX0) (N := 4) hx hb hts in_X0_growTwofold_X0 hown hK hP (hh) rfl 0 (by decide) (hts (.fieldLink RX0 15 "OctagonDesk$Numbers" "cells" "I") (by decide +kernel)) (fun _ h9 => h9) rfl dX0_growTwofold_9 ?_
  refine nv_imul hx hb dX0_growTwofold_12 ?_
  refine nv_icmp_lt (tgt := 17) hx hb (by omega) (by omega) dX0_growTwofold_13 (by decide) (fun hc13 => ?_) (fun hc13 => ?_)
  · exfalso; omega
  · rw [hQ]
    exact W.vret hx hb hr (fun t99 ht99 hW99 => ⟨⟨μ, rfl, (rfl), by show mw _ _ _ _ t99.heap; rw [ht99]; exact hP⟩, hS.F ht99⟩) hS.2.2 dX0_growTwofold_16

abbrev rm_X3_growAllk (k n9 : Nat) : Room := { frames := 3, cells := n9, slots := gs k n9, locals := 104 }
set_option maxHeartbeats 4000000 in
set_option maxRecDepth 100000 in
theorem c_X3_growAllk (l : Launch) (G : GG) (B : Nat) (μ : mp) (a n9 o9 k : Nat) (sa na la bE kf : Nat → Nat) (F : Nat → Nat → Int64) (fA : Nat → Option Nat) (ha : μ a = some (.inl (G.2 3, n9, .inr (.inr (.inr (.inr fA)))))) (hSH : SHS G μ sa na la bE kf F) (hA : ∀ j, j < n9 → fA j = some (sa (o9 + j))) (ho : o9 + n9 ≤ 23) (hn9 : n9 ≤ 8) (hk : ∀ j, j < n9 → kf (o9 + j) = k) : Met l yX3_growAll wsX3_growAll (rm_X3_growAllk k n9) (va_Pc [.ref a] (KW G B μ)) (va_Qv (fun μ2 => ∃ (la2 kf2 : Nat → Nat) (F2 : Nat → Nat → Int64), SHS G μ2 sa na la2 bE kf2 F2 ∧ GR μ μ2 na la la2 ∧ ∀ j, j < 23 → (o9 ≤ j ∧ j < o9 + n9 → kf2 j = gr k) ∧ (¬ (o9 ≤ j ∧ j < o9 + n9) → kf2 j = kf j)) (BB G B) (fun q => B ≤ q)) n9 (gs k n9) (fun q => B ≤ q) := by
  refine Met.ofW (cc := cX3_growAll) (maxL := 2) (ret := none) (by decide) rfl ?_
  intro p e s m args below meth c s₁ B9 hml hv
  obtain ⟨hargs, hBs, hP, hKK⟩ := hv
  have hx := B9.exec
  have hb := B9.bytes
  have hr := B9.returns
  have hts := atoms_spec (ws := wsX3_growAll) B9.pre
  have hown : s.vm.findClass RX3 = some m.cls := findClass_of_methodNamed B9.named
  have hlocks := B9.notSynchronized
  have hK := hKK.k
  have hS : va_S (fun q => B ≤ q) s.heap s.heap [] := va_S.rf
  obtain ⟨Q, hQ⟩ : ∃ Q, Q = MQ below (va_Qv (fun μ2 => ∃ (la2 kf2 : Nat → Nat) (F2 : Nat → Nat → Int64), SHS G μ2 sa na la2 bE kf2 F2 ∧ GR μ μ2 na la la2 ∧ ∀ j, j < 23 → (o9 ≤ j ∧ j < o9 + n9 → kf2 j = gr k) ∧ (¬ (o9 ≤ j ∧ j < o9 + n9) → kf2 j = kf j)) (BB G B) (fun q => B ≤ q)) args s n9 (gs k n9) (fun q => B ≤ q) := ⟨_, rfl⟩
  rw [← hQ]
  have in_X3_growAll_X1 : ∀ w ∈ wsX10, w ∈ wsX3_growAll := by decide +kernel
  have L2 : ∀ (N2 : Nat) (i1 : Nat) (μ1 : mp) (la1 : Nat → Nat) (kf1 : Nat → Nat) (F1 : Nat → Nat → Int64) (hN2 : n9 - i1 < N2) (hi : i1 ≤ n9) (ha1 : μ1 a = some (.inl (G.2 3, n9, .inr (.inr (.inr (.inr fA)))))) (hS1 : SHS G μ1 sa na la1 bE kf1 F1) (hG : GR μ μ1 na la la1) (hkk : ∀ j, j < 23 → (o9 ≤ j ∧ j < o9 + i1 → kf1 j = gr k) ∧ (¬ (o9 ≤ j ∧ j < o9 + i1) → kf1 j = kf j)), ∀ (H : Heap) (locs : List Loc), mw G.1 vwCl B (μ1) H → va_S (fun q => B ≤ q) s.heap H locs → ∀ ls : Array Slot, lv_has ls 2 [(0, .ref a), (1, .int (nI i1))] → W p l e (rm_X3_growAllk k n9) s m args below meth c H locs i1 (gs k i1) Q (F0 m 2 ls []) := by
    intro N2
    induction N2 with
    | zero => intro i1 μ1 la1 kf1 F1 hN2; exact absurd hN2 (Nat.not_lt_zero _)
    | succ N2 ih2 =>
      intro i1 μ1 la1 kf1 F1 hN2 hi ha1 hS1 hG hkk H locs hP hS ls hl
      have hg7 := gs_le k hi
      refine lv_iload_n hx hb dX3_growAll_2 rfl (lv_at hl 1 rfl) ?_
      refine lv_aload_n hx hb dX3_growAll_3 rfl (lv_at hl 0 rfl) ?_
      refine mw_alen hx hb hK hP 3 (ha1) rfl dX3_growAll_4 ?_
      refine nv_icmp_ge (tgt := 23) hx hb (by omega) (by omega) dX3_growAll_5 (by decide) (fun hc5 => ?_) (fun hc5 => ?_)
      · rw [hQ]
        refine W.widen (k := n9) (n := gs k n9) (by omega) (by omega) ?_
        exact W.vret hx hb hr (fun t99 ht99 hW99 => ⟨⟨μ1, rfl, (⟨la1, kf1, F1, hS1, hG, by have e9 : i1 = n9 := (by omega); subst e9; exact hkk⟩), by show mw _ _ _ _ t99.heap; rw [ht99]; exact hP⟩, hS.F ht99⟩) hS.2.2 dX3_growAll_23
      · refine lv_aload_n hx hb dX3_growAll_8 rfl (lv_at hl 0 rfl) ?_
        refine lv_iload_n hx hb dX3_growAll_9 rfl (lv_at hl 1 rfl) ?_
        refine mw_aldq hx hb hK hP 3 (ha1) rfl (by omega) (by omega) (hA i1 (by omega)) dX3_growAll_10 ?_
        have hk9 : kf1 (o9 + i1) = k := ((hkk (o9 + i1) (by omega)).2 (by omega)).trans (hk i1 (by omega))
        have hk8 := (hS1.1 (o9 + i1) (by omega)).2
        have hg9 := gs_s k i1
        have hg8 := gs_le k (show i1 + 1 ≤ n9 by omega)
        refine mw_get (C := RX1) (T := TX1) (N := 2) hx hb hts in_X3_growAll_X1 hown hK hP ((hS1.1 (o9 + i1) (by omega)).1.1) rfl 0 (by decide) (hts (.fieldLink RX3 178 "OctagonDesk$Shape" "numbers" "LOctagonDesk$Numbers;") (by decide +kernel)) (fun _ h9 => h9) rfl dX3_growAll_11 ?_
        refine kc_v (va_runV (As := []) (rest := []) ⟨hx, hb, hml, hown, hts⟩ (c_X0_growTwofold l G B (μ1) (na (o9 + i1)) (la1 (o9 + i1)) ((kf1 (o9 + i1))) (F1 (o9 + i1)) ((hS1.1 (o9 + i1) (by omega)).1.2.1) ((hS1.1 (o9 + i1) (by omega)).1.2.2) (by omega)) (cwV 0 hts gX3_growAll_X0_growTwofold rfl rfl rfl (by decide +kernel) ⟨Nat.le_of_ble_eq_true rfl, Nat.le_of_ble_eq_true rfl⟩) ⟨KW.blind, hP.recv hK rfl ((hS1.1 (o9 + i1) (by omega)).1.2.1), fun U9 hU9 hW9 => ⟨rfl, KW.pre hBs hKK hS hP U9 hU9 hW9⟩⟩ rfl rfl hl.1 rfl (lv_room (Nat.le_of_ble_eq_true rfl)) dX3_growAll_14 ⟨(Nat.le_trans (m := n9) (by omega) (Nat.le_refl _)), (Nat.le_trans (m := gs k n9) (by omega) (Nat.le_refl _))⟩) hS (fun m14 H locs hq9 hP hz9 hS => ?_)
        obtain ⟨l14, k14, g14, rfl, hk14, hl14, he14⟩ := hq9
        have hP : mw G.1 vwCl B (mu (mu μ1 (na (o9 + i1)) (.inr (0, [.int (nI 158), .int (nI 157), .ref l14, .int (nI (158 * k14))]))) l14 (.inl (G.2 0, 158 * k14 + 158, .inr (.inl g14)))) _ := hP
        refine lv_iinc (v := nI (i1 + 1)) (lv' := [(1, .int (nI (i1 + 1))), (0, .ref a)]) hx hb dX3_growAll_17 hl (k := 1) rfl (nI_add _ _) (by decide) rfl (fun ls hl => ?_)
        refine lv_goto (tgt := 2) hx hb dX3_growAll_20 (by decide) ?_
        refine W.widen (k := i1 + 1) (n := gs k (i1 + 1)) (by omega) (by omega) ?_
        exact ih2 (i1 + 1) (mu (mu μ1 (na (o9 + i1)) (.inr (0, [.int (nI 158), .int (nI 157), .ref l14, .int (nI (158 * k14))]))) l14 (.inl (G.2 0, 158 * k14 + 158, .inr (.inl g14)))) (va_up la1 (o9 + i1) l14) (va_up kf1 (o9 + i1) k14) (va_up F1 (o9 + i1) g14) (by omega) (by omega) ((hG.tr (GR.one (by omega) hl14)).2.2 _ _ ha (hSH.arr ha (by simp) (by simp))) (hS1.grow (by omega) hk14 hl14) (hG.tr (GR.one (by omega) hl14)) (ga_k hkk (hk i1 (by omega)) he14 (by omega)) _ _ hP hS ls (lv_sub hl [1, 0] rfl)
  have hl := lv_entry ([.ref a]) (n := 2) (Nat.le_of_ble_eq_true rfl)
  have he9 : entryFrame m args 2 = entryFrame m ([.ref a] : List Value).toArray 2 := by rw [hargs]
  rw [he9, lg_entry_eq]
  generalize (lg_sl ([.ref a]) ++ List.replicate (2 - (lg_sl ([.ref a])).length) Slot.unset).toArray = ls at hl ⊢
  have hl : lv_has ls 2 [(0, .ref a)] := hl
  refine lv_iconst (v := nI 0) hx hb dX3_growAll_0 (by decide) ?_
  refine lv_istore_n (lv' := [(1, .int (nI 0)), (0, .ref a)]) hx hb dX3_growAll_1 rfl hl (by decide) rfl (fun ls hl => ?_)
  have hgz : gs k 0 = 0 := rfl
  refine W.widen (k := 0) (n := gs k 0) (by omega) (by omega) ?_
  exact L2 _ 0 μ la kf F (Nat.lt_succ_self _) (by omega) (ha) (hSH) (GR.rf _ _ _) (fun j hj => ⟨fun h9 => absurd h9 (by omega), fun _ => rfl⟩) _ _ hP hS ls (lv_sub hl [1, 0] rfl)

abbrev rm_X3_growAll_m : Room := { frames := 1, cells := 0, slots := 0, locals := 22 }
set_option maxHeartbeats 4000000 in
set_option maxRecDepth 100000 in
theorem c_X3_growAll_m (l : Launch) (G : GG) (B : Nat) (μ : mp) (a n9 o9 k : Nat) (sa na la bE kf : Nat → Nat) (F : Nat → Nat → Int64) (fA : Nat → Option Nat) (ha : μ a = some (.inl (G.2 3, n9, .inr (.inr (.inr (.inr fA)))))) (hSH : SHS G μ sa na la bE kf F) (hA : ∀ j, j < n9 → fA j = some (sa (o9 + j))) (ho : o9 + n9 ≤ 23) (hn9 : n9 ≤ 8) (hk : ∀ j, j < n9 → kf (o9 + j) = 511) : Met l yX3_growAll wsX3_growAll rm_X3_growAll_m (va_Pc [.ref a] (KW G B μ)) (va_Qv (fun μ2 => μ2 = μ) (BB G B) (fun q => B ≤ q)) 0 0 (fun q => B ≤ q) := by
  refine Met.ofW (cc := cX3_growAll) (maxL := 2) (ret := none) (by decide) rfl ?_
  intro p e s m args below meth c s₁ B9 hml hv
  obtain ⟨hargs, hBs, hP, hKK⟩ := hv
  have hx := B9.exec
  have hb := B9.bytes
  have hr := B9.returns
  have hts := atoms_spec (ws := wsX3_growAll) B9.pre
  have hown : s.vm.findClass RX3 = some m.cls := findClass_of_methodNamed B9.named
  have hlocks := B9.notSynchronized
  have hK := hKK.k
  have hS : va_S (fun q => B ≤ q) s.heap s.heap [] := va_S.rf
  obtain ⟨Q, hQ⟩ : ∃ Q, Q = MQ below (va_Qv (fun μ2 => μ2 = μ) (BB G B) (fun q => B ≤ q)) args s 0 0 (fun q => B ≤ q) := ⟨_, rfl⟩
  rw [← hQ]
  have in_X3_growAll_X1 : ∀ w ∈ wsX10, w ∈ wsX3_growAll := by decide +kernel
  have L2 : ∀ (N2 : Nat) (i1 : Nat) (hN2 : n9 - i1 < N2) (hi : i1 ≤ n9), ∀ (H : Heap) (locs : List Loc), mw G.1 vwCl B (μ) H → va_S (fun q => B ≤ q) s.heap H locs → ∀ ls : Array Slot, lv_has ls 2 [(0, .ref a), (1, .int (nI i1))] → W p l e rm_X3_growAll_m s m args below meth c H locs 0 0 Q (F0 m 2 ls []) := by
    intro N2
    induction N2 with
    | zero => intro i1 hN2; exact absurd hN2 (Nat.not_lt_zero _)
    | succ N2 ih2 =>
      intro i1 hN2 hi H locs hP hS ls hl
      refine lv_iload_n hx hb dX3_growAll_2 rfl (lv_at hl 1 rfl) ?_
      refine lv_aload_n hx hb dX3_growAll_3 rfl (lv_at hl 0 rfl) ?_
      refine mw_alen hx hb hK hP 3 (ha) rfl dX3_growAll_4 ?_
      refine nv_icmp_ge (tgt := 23) hx hb (by omega) (by omega) dX3_growAll_5 (by decide) (fun hc5 => ?_) (fun hc5 => ?_)
      · rw [hQ]
        exact W.vret hx hb hr (fun t99 ht99 hW99 => ⟨⟨μ, rfl, (rfl), by show mw _ _ _ _ t99.heap; rw [ht99]; exact hP⟩, hS.F ht99⟩) hS.2.2 dX3_growAll_23
      · refine lv_aload_n hx hb dX3_growAll_8 rfl (lv_at hl 0 rfl) ?_
        refine lv_iload_n hx hb dX3_growAll_9 rfl (lv_at hl 1 rfl) ?_
        refine mw_aldq hx hb hK hP 3 (ha) rfl (by omega) (by omega) (hA i1 (by omega)) dX3_growAll_10 ?_
        refine mw_get (C := RX1) (T := TX1) (N := 2) hx hb hts in_X3_growAll_X1 hown hK hP ((hSH.1 (o9 + i1) (by omega)).1.1) rfl 0 (by decide) (hts (.fieldLink RX3 178 "OctagonDesk$Shape" "numbers" "LOctagonDesk$Numbers;") (by decide +kernel)) (fun _ h9 => h9) rfl dX3_growAll_11 ?_
        refine kc_v (va_runV (As := []) (rest := []) ⟨hx, hb, hml, hown, hts⟩ (c_X0_growTwofold_m l G B (μ) (na (o9 + i1)) (la (o9 + i1)) ((kf (o9 + i1))) (F (o9 + i1)) ((hSH.1 (o9 + i1) (by omega)).1.2.1) ((hSH.1 (o9 + i1) (by omega)).1.2.2) (hk i1 (by omega))) (cwV 0 hts gX3_growAll_X0_growTwofold rfl rfl rfl (by decide +kernel) ⟨Nat.le_of_ble_eq_true rfl, Nat.le_of_ble_eq_true rfl⟩) ⟨KW.blind, hP.recv hK rfl ((hSH.1 (o9 + i1) (by omega)).1.2.1), fun U9 hU9 hW9 => ⟨rfl, KW.pre hBs hKK hS hP U9 hU9 hW9⟩⟩ rfl rfl hl.1 rfl (lv_room (Nat.le_of_ble_eq_true rfl)) dX3_growAll_14 ⟨(Nat.le_of_ble_eq_true rfl), (Nat.le_of_ble_eq_true rfl)⟩) hS (fun m14 H locs hq9 hP hz9 hS => ?_)
        rw [hq9] at hP
        refine lv_iinc (v := nI (i1 + 1)) (lv' := [(1, .int (nI (i1 + 1))), (0, .ref a)]) hx hb dX3_growAll_17 hl (k := 1) rfl (nI_add _ _) (by decide) rfl (fun ls hl => ?_)
        refine lv_goto (tgt := 2) hx hb dX3_growAll_20 (by decide) ?_
        exact ih2 (i1 + 1) (by omega) (by omega) _ _ hP hS ls (lv_sub hl [1, 0] rfl)
  have hl := lv_entry ([.ref a]) (n := 2) (Nat.le_of_ble_eq_true rfl)
  have he9 : entryFrame m args 2 = entryFrame m ([.ref a] : List Value).toArray 2 := by rw [hargs]
  rw [he9, lg_entry_eq]
  generalize (lg_sl ([.ref a]) ++ List.replicate (2 - (lg_sl ([.ref a])).length) Slot.unset).toArray = ls at hl ⊢
  have hl : lv_has ls 2 [(0, .ref a)] := hl
  refine lv_iconst (v := nI 0) hx hb dX3_growAll_0 (by decide) ?_
  refine lv_istore_n (lv' := [(1, .int (nI 0)), (0, .ref a)]) hx hb dX3_growAll_1 rfl hl (by decide) rfl (fun ls hl => ?_)
  exact L2 _ 0 (Nat.lt_succ_self _) (by omega) _ _ hP hS ls (lv_sub hl [1, 0] rfl)

abbrev rm_X3_makeRoomk (k : Nat) : Room := { frames := 4, cells := 23 * (511 - k), slots := 7268 * (511 - k), locals := 125 }
set_option maxHeartbeats 4000000 in
set_option maxRecDepth 100000 in
theorem c_X3_makeRoomk (l : Launch) (G : GG) (B : Nat) (μ : mp) (N9 T9 : Nat) (d aS aL aR aT aO k sc : Nat) (sa na la bE : Nat → Nat) (F : Nat → Nat → Int64) (fS fL fR fT : Nat → Option Nat) (sp : Nat → Nat) (fO : Nat → Int64) (j9 : Nat) (hD : DK G μ d aS aL aR aT aO k sc sa na la bE F fS fL fR fT sp fO) (hj9 : j9 < 23) (hkw : kw k) : Met l yX3_makeRoom wsX3_makeRoom (rm_X3_makeRoomk k) (va_Pc [.ref d, .ref (sa j9)] (KN G B N9 T9 μ)) (va_Qv (fun (u9 : mp × Nat) => (fun μ2 k2 => ∃ (la2 : Nat → Nat) (F2 : Nat → Nat → Int64), DK G μ2 d aS aL aR aT aO k2 sc sa na la2 bE F2 fS fL fR fT sp fO ∧ DQ μ μ2 d aO sa na la la2 ∧ (k2 = k ∨ (k < 511 ∧ k2 = 2 * k + 1)) ∧ kw k2) u9.1 u9.2) (BG G B N9 T9 k 0 0) (fun q => B ≤ q)) (23 * (511 - k)) (7268 * (511 - k)) (fun q => B ≤ q) := by
  refine Met.ofW (cc := cX3_makeRoom) (maxL := 2) (ret := none) (by decide) rfl ?_
  intro p e s m args below meth c s₁ B9 hml hv
  obtain ⟨hargs, ⟨hBs, hP, hKK⟩, hN9, hT9⟩ := hv
  have hx := B9.exec
  have hb := B9.bytes
  have hr := B9.returns
  have hts := atoms_spec (ws := wsX3_makeRoom) B9.pre
  have hown : s.vm.findClass RX3 = some m.cls := findClass_of_methodNamed B9.named
  have hlocks := B9.notSynchronized
  have hK := hKK.k
  have hS : va_S (fun q => B ≤ q) s.heap s.heap [] := va_S.rf
  obtain ⟨Q, hQ⟩ : ∃ Q, Q = MQ below (va_Qv (fun (u9 : mp × Nat) => (fun μ2 k2 => ∃ (la2 : Nat → Nat) (F2 : Nat → Nat → Int64), DK G μ2 d aS aL aR aT aO k2 sc sa na la2 bE F2 fS fL fR fT sp fO ∧ DQ μ μ2 d aO sa na la la2 ∧ (k2 = k ∨ (k < 511 ∧ k2 = 2 * k + 1)) ∧ kw k2) u9.1 u9.2) (BG G B N9 T9 k 0 0) (fun q => B ≤ q)) args s (23 * (511 - k)) (7268 * (511 - k)) (fun q => B ≤ q) := ⟨_, rfl⟩
  rw [← hQ]
  have in_X3_makeRoom_X1 : ∀ w ∈ wsX10, w ∈ wsX3_makeRoom := by decide +kernel
  have in_X3_makeRoom_X3 : ∀ w ∈ wsX30, w ∈ wsX3_makeRoom := by decide +kernel
  have hl := lv_entry ([.ref d, .ref (sa j9)]) (n := 2) (Nat.le_of_ble_eq_true rfl)
  have he9 : entryFrame m args 2 = entryFrame m ([.ref d, .ref (sa j9)] : List Value).toArray 2 := by rw [hargs]
  rw [he9, lg_entry_eq]
  generalize (lg_sl ([.ref d, .ref (sa j9)]) ++ List.replicate (2 - (lg_sl ([.ref d, .ref (sa j9)])).length) Slot.unset).toArray = ls at hl ⊢
  have hl : lv_has ls 2 [(0, .ref d), (1, .ref (sa j9))] := hl
  refine lv_aload_n hx hb dX3_makeRoom_0 rfl (lv_at hl 1 rfl) ?_
  have hb9 := (hD.2.2.2.2.1.1 j9 hj9).2
  have hk5 := hkw.le
  have hg6 := gs_6 k
  have hg8 := gs_8 k
  refine mw_get (C := RX1) (T := TX1) (N := 2) hx hb hts in_X3_makeRoom_X1 hown hK hP ((hD.2.2.2.2.1.1 j9 (by omega)).1.1) rfl 1 (by decide) (hts (.fieldLink RX3 63 "OctagonDesk$Shape" "empty" "Z") (by decide +kernel)) (fun _ h9 => h9) rfl dX3_makeRoom_1 ?_
  refine lv_if_ne (tgt := 17) hx hb dX3_makeRoom_4 (by decide) (fun hc4 => ?_) (fun hc4 => ?_)
  · refine Wknow (fun hw1 hw2 => ?_)
    rw [hQ]
    refine W.widen (k := 23 * (511 - k)) (n := 7268 * (511 - k)) (by omega) (by omega) ?_
    exact W.vret hx hb hr (fun t99 ht99 hW99 => ⟨⟨(μ, k), rfl, (⟨la, F, hD, DQ.rf _ _ _ _ _ _, Or.inl rfl, hkw⟩), by show mw _ _ _ _ t99.heap; rw [ht99]; exact hP, by show t99.heap.size ≤ N9 + (0 + 23 * (k - k)); rw [ht99]; omega, by show tot t99.heap ≤ T9 + (0 + 7268 * (k - k)); rw [ht99]; omega⟩, hS.F ht99⟩) hS.2.2 dX3_makeRoom_17
  · refine lv_aload_n hx hb dX3_makeRoom_7 rfl (lv_at hl 1 rfl) ?_
    refine mw_get (C := RX1) (T := TX1) (N := 2) hx hb hts in_X3_makeRoom_X1 hown hK hP ((hD.2.2.2.2.1.1 j9 (by omega)).1.1) rfl 0 (by decide) (hts (.fieldLink RX3 178 "OctagonDesk$Shape" "numbers" "LOctagonDesk$Numbers;") (by decide +kernel)) (fun _ h9 => h9) rfl dX3_makeRoom_8 ?_
    refine kc_i (va_runV (As := []) (rest := []) ⟨hx, hb, hml, hown, hts⟩ (c_X0_isCrowded l G B (μ) (na j9) (la j9) k (F j9)  ((hD.2.2.2.2.1.1 j9 (by omega)).1.2.1) ((hD.2.2.2.2.1.1 j9 (by omega)).1.2.2) (by omega)) (cwV 0 hts gX3_makeRoom_X0_isCrowded rfl rfl rfl (by decide +kernel) ⟨Nat.le_of_ble_eq_true rfl, Nat.le_of_ble_eq_true rfl⟩) ⟨KW.blind, hP.recv hK rfl ((hD.2.2.2.2.1.1 j9 (by omega)).1.2.1), fun U9 hU9 hW9 => ⟨rfl, KW.pre hBs hKK hS hP U9 hU9 hW9⟩⟩ rfl rfl hl.1 rfl (lv_room (Nat.le_of_ble_eq_true rfl)) dX3_makeRoom_11 ⟨(Nat.le_trans (m := 23 * (511 - k)) (by omega) (Nat.le_refl _)), (Nat.le_trans (m := 7268 * (511 - k)) (by omega) (Nat.le_refl _))⟩) hS (fun r11 m11 H locs hq9 hP hz9 hS => ?_)
    obtain ⟨he9, hbr11, hr11⟩ := hq9
    rw [he9] at hP
    refine lv_if_ne (tgt := 18) hx hb dX3_makeRoom_14 (by decide) (fun hc14 => ?_) (fun hc14 => ?_)
    · rcases Nat.lt_or_ge k 511 with hkl | hkl
      · have hk2 := hkw.le2 hkl
        refine lv_aload_n hx hb dX3_makeRoom_18 rfl (lv_at hl 0 rfl) ?_
        refine mw_get (C := RX3) (T := TX3) (N := 7) hx hb hts in_X3_makeRoom_X3 hown hK hP (hD.1) rfl 0 (by decide) (hts (.fieldLink RX3 13 "OctagonDesk" "slots" "[LOctagonDesk$Shape;") (by decide +kernel)) (fun _ h9 => h9) rfl dX3_makeRoom_19 ?_
        refine kc_v (va_runS (As := [.ref aS]) (rest := []) ⟨hx, hb, hml, hown, hts⟩ (c_X3_growAllk l G B (μ) aS 6 0 k sa na la bE (fun _ => k) F fS (hD.2.1.1) hD.2.2.2.2.1 (fun j hj => by have h9 := hD.2.1.2.2.2.2.1 j (by omega); rw [Nat.zero_add]; exact h9) (by omega) (by omega) (fun _ _ => rfl)) (va_cwS 1 hts gX3_makeRoom_X3_growAll rfl rfl rfl (by decide +kernel) ⟨Nat.le_of_ble_eq_true rfl, Nat.le_of_ble_eq_true rfl⟩) ⟨KW.blind, fun U9 hU9 hW9 => ⟨rfl, KW.pre hBs hKK hS hP U9 hU9 hW9⟩⟩ rfl rfl hl.1 rfl (lv_room (Nat.le_of_ble_eq_true rfl)) dX3_makeRoom_22 ⟨(Nat.le_trans (m := 23 * (511 - k)) (by omega) (Nat.le_refl _)), (Nat.le_trans (m := 7268 * (511 - k)) (by omega) (Nat.le_refl _))⟩) hS (fun m22 H locs hq9 hP hz9 hS => ?_)
        obtain ⟨la22, kf22, F22, hS22, hG22, hkk22⟩ := hq9
        refine lv_aload_n hx hb dX3_makeRoom_25 rfl (lv_at hl 0 rfl) ?_
        refine mw_get (C := RX3) (T := TX3) (N := 7) hx hb hts in_X3_makeRoom_X3 hown hK hP ((hG22.2.2 _ _ hD.1 (hD.2.2.2.2.1.arr hD.1 (by simp) (by simp)))) rfl 5 (by decide) (hts (.fieldLink RX3 22 "OctagonDesk" "left" "[LOctagonDesk$Shape;") (by decide +kernel)) (fun _ h9 => h9) rfl dX3_makeRoom_26 ?_
        refine kc_v (va_runS (As := [.ref aL]) (rest := []) ⟨hx, hb, hml, hown, hts⟩ (c_X3_growAllk l G B (m22) aL 8 6 k sa na la22 bE kf22 F22 fL ((hG22.2.2 _ _ hD.2.1.2.1 (hD.2.2.2.2.1.arr hD.2.1.2.1 (by simp) (by simp)))) hS22 (fun j hj => by have h9 := hD.2.1.2.2.2.2.2.1 j (by omega); exact h9) (by omega) (by omega) (fun j hj => ((hkk22 (6 + j) (by omega)).2 (by omega)))) (va_cwS 1 hts gX3_makeRoom_X3_growAll rfl rfl rfl (by decide +kernel) ⟨Nat.le_of_ble_eq_true rfl, Nat.le_of_ble_eq_true rfl⟩) ⟨KW.blind, fun U9 hU9 hW9 => ⟨rfl, KW.pre hBs hKK hS hP U9 hU9 hW9⟩⟩ rfl rfl hl.1 rfl (lv_room (Nat.le_of_ble_eq_true rfl)) dX3_makeRoom_29 ⟨(Nat.le_trans (m := 23 * (511 - k)) (by omega) (Nat.le_refl _)), (Nat.le_trans (m := 7268 * (511 - k)) (by omega) (Nat.le_refl _))⟩) hS (fun m29 H locs hq9 hP hz9 hS => ?_)
        obtain ⟨la29, kf29, F29, hS29, hG29, hkk29⟩ := hq9
        refine lv_aload_n hx hb dX3_makeRoom_32 rfl (lv_at hl 0 rfl) ?_
        refine mw_get (C := RX3) (T := TX3) (N := 7) hx hb hts in_X3_makeRoom_X3 hown hK hP (((hG22.tr hG29).2.2 _ _ hD.1 (hD.2.2.2.2.1.arr hD.1 (by simp) (by simp)))) rfl 6 (by decide) (hts (.fieldLink RX3 25 "OctagonDesk" "reached" "[LOctagonDesk$Shape;") (by decide +kernel)) (fun _ h9 => h9) rfl dX3_makeRoom_33 ?_
        refine kc_v (va_runS (As := [.ref aR]) (rest := []) ⟨hx, hb, hml, hown, hts⟩ (c_X3_growAllk l G B (m29) aR 8 14 k sa na la29 bE kf29 F29 fR (((hG22.tr hG29).2.2 _ _ hD.2.1.2.2.1 (hD.2.2.2.2.1.arr hD.2.1.2.2.1 (by simp) (by simp)))) hS29 (fun j hj => by have h9 := hD.2.1.2.2.2.2.2.2 j (by omega); exact h9) (by omega) (by omega) (fun j hj => ((hkk29 (14 + j) (by omega)).2 (by omega)).trans ((hkk22 (14 + j) (by omega)).2 (by omega)))) (va_cwS 1 hts gX3_makeRoom_X3_growAll rfl rfl rfl (by decide +kernel) ⟨Nat.le_of_ble_eq_true rfl, Nat.le_of_ble_eq_true rfl⟩) ⟨KW.blind, fun U9 hU9 hW9 => ⟨rfl, KW.pre hBs hKK hS hP U9 hU9 hW9⟩⟩ rfl rfl hl.1 rfl (lv_room (Nat.le_of_ble_eq_true rfl)) dX3_makeRoom_36 ⟨(Nat.le_trans (m := 23 * (511 - k)) (by omega) (Nat.le_refl _)), (Nat.le_trans (m := 7268 * (511 - k)) (by omega) (Nat.le_refl _))⟩) hS (fun m36 H locs hq9 hP hz9 hS => ?_)
        obtain ⟨la36, kf36, F36, hS36, hG36, hkk36⟩ := hq9
        refine lv_aload_n hx hb dX3_makeRoom_39 rfl (lv_at hl 0 rfl) ?_
        refine mw_get (C := RX3) (T := TX3) (N := 7) hx hb hts in_X3_makeRoom_X3 hown hK hP ((((hG22.tr hG29).tr hG36).2.2 _ _ hD.1 (hD.2.2.2.2.1.arr hD.1 (by simp) (by simp)))) rfl 1 (by decide) (hts (.fieldLink RX3 29 "OctagonDesk" "made" "LOctagonDesk$Shape;") (by decide +kernel)) (fun _ h9 => h9) rfl dX3_makeRoom_40 ?_
        have hk9 : kf36 22 = k := ((hkk36 22 (by omega)).2 (by omega)).trans (((hkk29 22 (by omega)).2 (by omega)).trans ((hkk22 22 (by omega)).2 (by omega)))
        have hk8 := (hS36.1 22 (by omega)).2
        refine mw_get (C := RX1) (T := TX1) (N := 2) hx hb hts in_X3_makeRoom_X1 hown hK hP ((hS36.1 22 (by omega)).1.1) rfl 0 (by decide) (hts (.fieldLink RX3 178 "OctagonDesk$Shape" "numbers" "LOctagonDesk$Numbers;") (by decide +kernel)) (fun _ h9 => h9) rfl dX3_makeRoom_43 ?_
        refine kc_v (va_runV (As := []) (rest := []) ⟨hx, hb, hml, hown, hts⟩ (c_X0_growTwofold l G B (m36) (na 22) (la36 22) ((kf36 22)) (F36 22) ((hS36.1 22 (by omega)).1.2.1) ((hS36.1 22 (by omega)).1.2.2) (by omega)) (cwV 0 hts gX3_makeRoom_X0_growTwofold rfl rfl rfl (by decide +kernel) ⟨Nat.le_of_ble_eq_true rfl, Nat.le_of_ble_eq_true rfl⟩) ⟨KW.blind, hP.recv hK rfl ((hS36.1 22 (by omega)).1.2.1), fun U9 hU9 hW9 => ⟨rfl, KW.pre hBs hKK hS hP U9 hU9 hW9⟩⟩ rfl rfl hl.1 rfl (lv_room (Nat.le_of_ble_eq_true rfl)) dX3_makeRoom_46 ⟨(Nat.le_trans (m := 23 * (511 - k)) (by omega) (Nat.le_refl _)), (Nat.le_trans (m := 7268 * (511 - k)) (by omega) (Nat.le_refl _))⟩) hS (fun m46 H locs hq9 hP hz9 hS => ?_)
        obtain ⟨l46, k46, g46, rfl, hk46, hl46, he46⟩ := hq9
        have hP : mw G.1 vwCl B (mu (mu m36 (na 22) (.inr (0, [.int (nI 158), .int (nI 157), .ref l46, .int (nI (158 * k46))]))) l46 (.inl (G.2 0, 158 * k46 + 158, .inr (.inl g46)))) _ := hP
        refine Wknow (fun hw1 hw2 => ?_)
        rw [hQ]
        refine W.widen (k := 23 * (511 - k)) (n := 7268 * (511 - k)) (by omega) (by omega) ?_
        exact W.vret hx hb hr (fun t99 ht99 hW99 => ⟨⟨(mu (mu m36 (na 22) (.inr (0, [.int (nI 158), .int (nI 157), .ref l46, .int (nI (158 * k46))]))) l46 (.inl (G.2 0, 158 * k46 + 158, .inr (.inl g46))), 2 * k + 1), rfl, (⟨va_up la36 22 l46, va_up F36 22 g46, hD.gr (((hG22.tr hG29).tr hG36).tr (GR.one (by omega) hl46)) ((hS36.grow (by omega) hk46 hl46).cong (fun j hj => (mr_kk (fun _ _ => rfl) hkk22 hkk29 hkk36 he46 j hj).trans (gr_lt hkl))), (((hG22.tr hG29).tr hG36).tr (GR.one (by omega) hl46)).dq _ _ _, Or.inr ⟨hkl, rfl⟩, hkw.gr hkl⟩), by show mw _ _ _ _ t99.heap; rw [ht99]; exact hP, by show t99.heap.size ≤ N9 + (0 + 23 * (2 * k + 1 - k)); rw [ht99]; omega, by show tot t99.heap ≤ T9 + (0 + 7268 * (2 * k + 1 - k)); rw [ht99]; omega⟩, hS.F ht99⟩) hS.2.2 dX3_makeRoom_49
      · have hkl : k = 511 := by omega
        refine lv_aload_n hx hb dX3_makeRoom_18 rfl (lv_at hl 0 rfl) ?_
        refine mw_get (C := RX3) (T := TX3) (N := 7) hx hb hts in_X3_makeRoom_X3 hown hK hP (hD.1) rfl 0 (by decide) (hts (.fieldLink RX3 13 "OctagonDesk" "slots" "[LOctagonDesk$Shape;") (by decide +kernel)) (fun _ h9 => h9) rfl dX3_makeRoom_19 ?_
        refine kc_v (va_runS (As := [.ref aS]) (rest := []) ⟨hx, hb, hml, hown, hts⟩ (c_X3_growAll_m l G B (μ) aS 6 0 k sa na la bE (fun _ => k) F fS (hD.2.1.1) hD.2.2.2.2.1 (fun j hj => by have h9 := hD.2.1.2.2.2.2.1 j (by omega); rw [Nat.zero_add]; exact h9) (by omega) (by omega) (fun _ _ => by omega)) (va_cwS 1 hts gX3_makeRoom_X3_growAll rfl rfl rfl (by decide +kernel) ⟨Nat.le_of_ble_eq_true rfl, Nat.le_of_ble_eq_true rfl⟩) ⟨KW.blind, fun U9 hU9 hW9 => ⟨rfl, KW.pre hBs hKK hS hP U9 hU9 hW9⟩⟩ rfl rfl hl.1 rfl (lv_room (Nat.le_of_ble_eq_true rfl)) dX3_makeRoom_22 ⟨(Nat.le_trans (m := 23 * (511 - k)) (by omega) (Nat.le_refl _)), (Nat.le_trans (m := 7268 * (511 - k)) (by omega) (Nat.le_refl _))⟩) hS (fun m22 H locs hq9 hP hz9 hS => ?_)
        rw [hq9] at hP
        refine lv_aload_n hx hb dX3_makeRoom_25 rfl (lv_at hl 0 rfl) ?_
        refine mw_get (C := RX3) (T := TX3) (N := 7) hx hb hts in_X3_makeRoom_X3 hown hK hP (hD.1) rfl 5 (by decide) (hts (.fieldLink RX3 22 "OctagonDesk" "left" "[LOctagonDesk$Shape;") (by decide +kernel)) (fun _ h9 => h9) rfl dX3_makeRoom_26 ?_
        refine kc_v (va_runS (As := [.ref aL]) (rest := []) ⟨hx, hb, hml, hown, hts⟩ (c_X3_growAll_m l G B (μ) aL 8 6 k sa na la bE (fun _ => k) F fL (hD.2.1.2.1) hD.2.2.2.2.1 (fun j hj => by have h9 := hD.2.1.2.2.2.2.2.1 j (by omega); exact h9) (by omega) (by omega) (fun _ _ => by omega)) (va_cwS 1 hts gX3_makeRoom_X3_growAll rfl rfl rfl (by decide +kernel) ⟨Nat.le_of_ble_eq_true rfl, Nat.le_of_ble_eq_true rfl⟩) ⟨KW.blind, fun U9 hU9 hW9 => ⟨rfl, KW.pre hBs hKK hS hP U9 hU9 hW9⟩⟩ rfl rfl hl.1 rfl (lv_room (Nat.le_of_ble_eq_true rfl)) dX3_makeRoom_29 ⟨(Nat.le_trans (m := 23 * (511 - k)) (by omega) (Nat.le_refl _)), (Nat.le_trans (m := 7268 * (511 - k)) (by omega) (Nat.le_refl _))⟩) hS (fun m29 H locs hq9 hP hz9 hS => ?_)
        rw [hq9] at hP
        refine lv_aload_n hx hb dX3_makeRoom_32 rfl (lv_at hl 0 rfl) ?_
        refine mw_get (C := RX3) (T := TX3) (N := 7) hx hb hts in_X3_makeRoom_X3 hown hK hP (hD.1) rfl 6 (by decide) (hts (.fieldLink RX3 25 "OctagonDesk" "reached" "[LOctagonDesk$Shape;") (by decide +kernel)) (fun _ h9 => h9) rfl dX3_makeRoom_33 ?_
        refine kc_v (va_runS (As := [.ref aR]) (rest := []) ⟨hx, hb, hml, hown, hts⟩ (c_X3_growAll_m l G B (μ) aR 8 14 k sa na la bE (fun _ => k) F fR (hD.2.1.2.2.1) hD.2.2.2.2.1 (fun j hj => by have h9 := hD.2.1.2.2.2.2.2.2 j (by omega); exact h9) (by omega) (by omega) (fun _ _ => by omega)) (va_cwS 1 hts gX3_makeRoom_X3_growAll rfl rfl rfl (by decide +kernel) ⟨Nat.le_of_ble_eq_true rfl, Nat.le_of_ble_eq_true rfl⟩) ⟨KW.blind, fun U9 hU9 hW9 => ⟨rfl, KW.pre hBs hKK hS hP U9 hU9 hW9⟩⟩ rfl rfl hl.1 rfl (lv_room (Nat.le_of_ble_eq_true rfl)) dX3_makeRoom_36 ⟨(Nat.le_trans (m := 23 * (511 - k)) (by omega) (Nat.le_refl _)), (Nat.le_trans (m := 7268 * (511 - k)) (by omega) (Nat.le_refl _))⟩) hS (fun m36 H locs hq9 hP hz9 hS => ?_)
        rw [hq9] at hP
        refine lv_aload_n hx hb dX3_makeRoom_39 rfl (lv_at hl 0 rfl) ?_
        refine mw_get (C := RX3) (T := TX3) (N := 7) hx hb hts in_X3_makeRoom_X3 hown hK hP (hD.1) rfl 1 (by decide) (hts (.fieldLink RX3 29 "OctagonDesk" "made" "LOctagonDesk$Shape;") (by decide +kernel)) (fun _ h9 => h9) rfl dX3_makeRoom_40 ?_
        refine mw_get (C := RX1) (T := TX1) (N := 2) hx hb hts in_X3_makeRoom_X1 hown hK hP ((hD.2.2.2.2.1.1 22 (by omega)).1.1) rfl 0 (by decide) (hts (.fieldLink RX3 178 "OctagonDesk$Shape" "numbers" "LOctagonDesk$Numbers;") (by decide +kernel)) (fun _ h9 => h9) rfl dX3_makeRoom_43 ?_
        refine kc_v (va_runV (As := []) (rest := []) ⟨hx, hb, hml, hown, hts⟩ (c_X0_growTwofold_m l G B (μ) (na 22) (la 22) k (F 22) ((hD.2.2.2.2.1.1 22 (by omega)).1.2.1) ((hD.2.2.2.2.1.1 22 (by omega)).1.2.2) (by omega)) (cwV 0 hts gX3_makeRoom_X0_growTwofold rfl rfl rfl (by decide +kernel) ⟨Nat.le_of_ble_eq_true rfl, Nat.le_of_ble_eq_true rfl⟩) ⟨KW.blind, hP.recv hK rfl ((hD.2.2.2.2.1.1 22 (by omega)).1.2.1), fun U9 hU9 hW9 => ⟨rfl, KW.pre hBs hKK hS hP U9 hU9 hW9⟩⟩ rfl rfl hl.1 rfl (lv_room (Nat.le_of_ble_eq_true rfl)) dX3_makeRoom_46 ⟨(Nat.le_trans (m := 23 * (511 - k)) (by omega) (Nat.le_refl _)), (Nat.le_trans (m := 7268 * (511 - k)) (by omega) (Nat.le_refl _))⟩) hS (fun m46 H locs hq9 hP hz9 hS => ?_)
        rw [hq9] at hP
        refine Wknow (fun hw1 hw2 => ?_)
        rw [hQ]
        refine W.widen (k := 23 * (511 - k)) (n := 7268 * (511 - k)) (by omega) (by omega) ?_
        exact W.vret hx hb hr (fun t99 ht99 hW99 => ⟨⟨(μ, k), rfl, (⟨la, F, hD, DQ.rf _ _ _ _ _ _, Or.inl rfl, hkw⟩), by show mw _ _ _ _ t99.heap; rw [ht99]; exact hP, by show t99.heap.size ≤ N9 + (0 + 23 * (k - k)); rw [ht99]; omega, by show tot t99.heap ≤ T9 + (0 + 7268 * (k - k)); rw [ht99]; omega⟩, hS.F ht99⟩) hS.2.2 dX3_makeRoom_49
    · refine Wknow (fun hw1 hw2 => ?_)
      rw [hQ]
      refine W.widen (k := 23 * (511 - k)) (n := 7268 * (511 - k)) (by omega) (by omega) ?_
      exact W.vret hx hb hr (fun t99 ht99 hW99 => ⟨⟨(μ, k), rfl, (⟨la, F, hD, DQ.rf _ _ _ _ _ _, Or.inl rfl, hkw⟩), by show mw _ _ _ _ t99.heap; rw [ht99]; exact hP, by show t99.heap.size ≤ N9 + (0 + 23 * (k - k)); rw [ht99]; omega, by show tot t99.heap ≤ T9 + (0 + 7268 * (k - k)); rw [ht99]; omega⟩, hS.F ht99⟩) hS.2.2 dX3_makeRoom_17

abbrev rm_X3_putMadek (k : Nat) : Room := { frames := 5, cells := 23 * (511 - k), slots := 7268 * (511 - k), locals := 146 }
set_option maxHeartbeats 4000000 in
set_option maxRecDepth 100000 in
theorem c_X3_putMadek (l : Launch) (G : GG) (B : Nat) (μ : mp) (N9 T9 : Nat) (d aS aL aR aT aO k sc : Nat) (sa na la bE : Nat → Nat) (F : Nat → Nat → Int64) (fS fL fR fT : Nat → Option Nat) (sp : Nat → Nat) (fO : Nat → Int64) (j9 : Nat) (hD : DK G μ d aS aL aR aT aO k sc sa na la bE F fS fL fR fT sp fO) (hj9 : j9 < 6) (hkw : kw k) : Met l yX3_putMade wsX3_putMade (rm_X3_putMadek k) (va_Pc [.ref d, .int (nI j9)] (KN G B N9 T9 μ)) (va_Qv (fun (u9 : mp × Nat) => (fun μ2 k2 => ∃ (la2 bE2 : Nat → Nat) (F2 : Nat → Nat → Int64), DK G μ2 d aS aL aR aT aO k2 sc sa na la2 bE2 F2 fS fL fR fT sp fO ∧ DQ μ μ2 d aO sa na la la2 ∧ k ≤ k2 ∧ kw k2) u9.1 u9.2) (BG G B N9 T9 k 0 0) (fun q => B ≤ q)) (23 * (511 - k)) (7268 * (511 - k)) (fun q => B ≤ q) := by
  refine Met.ofW (cc := cX3_putMade) (maxL := 2) (ret := none) (by decide) rfl ?_
  intro p e s m args below meth c s₁ B9 hml hv
  obtain ⟨hargs, ⟨hBs, hP, hKK⟩, hN9, hT9⟩ := hv
  have hx := B9.exec
  have hb := B9.bytes
  have hr := B9.returns
  have hts := atoms_spec (ws := wsX3_putMade) B9.pre
  have hown : s.vm.findClass RX3 = some m.cls := findClass_of_methodNamed B9.named
  have hlocks := B9.notSynchronized
  have hK := hKK.k
  have hS : va_S (fun q => B ≤ q) s.heap s.heap [] := va_S.rf
  obtain ⟨Q, hQ⟩ : ∃ Q, Q = MQ below (va_Qv (fun (u9 : mp × Nat) => (fun μ2 k2 => ∃ (la2 bE2 : Nat → Nat) (F2 : Nat → Nat → Int64), DK G μ2 d aS aL aR aT aO k2 sc sa na la2 bE2 F2 fS fL fR fT sp fO ∧ DQ μ μ2 d aO sa na la la2 ∧ k ≤ k2 ∧ kw k2) u9.1 u9.2) (BG G B N9 T9 k 0 0) (fun q => B ≤ q)) args s (23 * (511 - k)) (7268 * (511 - k)) (fun q => B ≤ q) := ⟨_, rfl⟩
  rw [← hQ]
  have in_X3_putMade_X3 : ∀ w ∈ wsX30, w ∈ wsX3_putMade := by decide +kernel
  have hk5 := hkw.le
  have hl := lv_entry ([.ref d, .int (nI j9)]) (n := 2) (Nat.le_of_ble_eq_true rfl)
  have he9 : entryFrame m args 2 = entryFrame m ([.ref d, .int (nI j9)] : List Value).toArray 2 := by rw [hargs]
  rw [he9, lg_entry_eq]
  generalize (lg_sl ([.ref d, .int (nI j9)]) ++ List.replicate (2 - (lg_sl ([.ref d, .int (nI j9)])).length) Slot.unset).toArray = ls at hl ⊢
  have hl : lv_has ls 2 [(0, .ref d), (1, .int (nI j9))] := hl
  refine lv_aload_n hx hb dX3_putMade_0 rfl (lv_at hl 0 rfl) ?_
  refine lv_aload_n hx hb dX3_putMade_1 rfl (lv_at hl 0 rfl) ?_
  refine mw_get (C := RX3) (T := TX3) (N := 7) hx hb hts in_X3_putMade_X3 hown hK hP (hD.1) rfl 1 (by decide) (hts (.fieldLink RX3 29 "OctagonDesk" "made" "LOctagonDesk$Shape;") (by decide +kernel)) (fun _ h9 => h9) rfl dX3_putMade_2 ?_
  refine kg_v (va_runV (As := [.ref (sa 22)]) (rest := []) ⟨hx, hb, hml, hown, hts⟩ (c_X3_makeRoomk l G B μ _ _ d aS aL aR aT aO k sc sa na la bE F fS fL fR fT sp fO 22 hD (by omega) hkw) (cwV 1 hts gX3_putMade_X3_makeRoom rfl rfl rfl (by decide +kernel) ⟨Nat.le_of_ble_eq_true rfl, Nat.le_of_ble_eq_true rfl⟩) ⟨KN.blind, hP.recv hK rfl (hD.1), fun U9 hU9 hW9 => ⟨rfl, KW.pre hBs hKK hS hP U9 hU9 hW9, by rw [hU9], by rw [hU9]⟩⟩ rfl rfl hl.1 rfl (lv_room (Nat.le_of_ble_eq_true rfl)) dX3_putMade_5 ⟨(Nat.le_trans (m := 23 * (511 - k)) (by omega) (Nat.le_refl _)), (Nat.le_trans (m := 7268 * (511 - k)) (by omega) (Nat.le_refl _))⟩) hS (fun m5 k5 H locs hq9 hP hz9 hS => ?_)
  obtain ⟨la5, F5, hD5, hR5, hkq5, hkw5⟩ := hq9
  have hk5_5 := hkw5.le
  have hkq_5 : k ≤ k5 := by omega
  refine lv_aload_n hx hb dX3_putMade_8 rfl (lv_at hl 0 rfl) ?_
  refine mw_get (C := RX3) (T := TX3) (N := 7) hx hb hts in_X3_putMade_X3 hown hK hP (hD5.1) rfl 0 (by decide) (hts (.fieldLink RX3 13 "OctagonDesk" "slots" "[LOctagonDesk$Shape;") (by decide +kernel)) (fun _ h9 => h9) rfl dX3_putMade_9 ?_
  refine lv_iload_n hx hb dX3_putMade_12 rfl (lv_at hl 1 rfl) ?_
  refine mw_aldq hx hb hK hP 3 (hD5.2.1.1) rfl (by omega) (by omega) (hD5.2.1.2.2.2.2.1 j9 (by omega)) dX3_putMade_13 ?_
  refine lv_aload_n hx hb dX3_putMade_14 rfl (lv_at hl 0 rfl) ?_
  refine mw_get (C := RX3) (T := TX3) (N := 7) hx hb hts in_X3_putMade_X3 hown hK hP (hD5.1) rfl 1 (by decide) (hts (.fieldLink RX3 29 "OctagonDesk" "made" "LOctagonDesk$Shape;") (by decide +kernel)) (fun _ h9 => h9) rfl dX3_putMade_15 ?_
  have hb22_18 := hD5.b 22 (by omega)
  have hbj9_18 := hD5.b j9 (by omega)
  refine kc_v (va_runV (As := [.ref (sa 22)]) (rest := []) ⟨hx, hb, hml, hown, hts⟩ (c_X1_takeOver l G B (m5) (sa j9) (na j9) (la5 j9) k5 (bE j9) (F5 j9) (sa 22) (na 22) (la5 22) (bE 22) (F5 22)  ((hD5.2.2.2.2.1.1 j9 (by omega)).1.1) ((hD5.2.2.2.2.1.1 j9 (by omega)).1.2.1) ((hD5.2.2.2.2.1.1 j9 (by omega)).1.2.2) ((hD5.2.2.2.2.1.1 22 (by omega)).1.1) ((hD5.2.2.2.2.1.1 22 (by omega)).1.2.1) ((hD5.2.2.2.2.1.1 22 (by omega)).1.2.2) (by omega) (by omega)) (cwV 1 hts gX3_putMade_X1_takeOver rfl rfl rfl (by decide +kernel) ⟨Nat.le_of_ble_eq_true rfl, Nat.le_of_ble_eq_true rfl⟩) ⟨KW.blind, hP.recv hK rfl ((hD5.2.2.2.2.1.1 j9 (by omega)).1.1), fun U9 hU9 hW9 => ⟨rfl, KW.pre hBs hKK hS hP U9 hU9 hW9⟩⟩ rfl rfl hl.1 rfl (lv_room (Nat.le_of_ble_eq_true rfl)) dX3_putMade_18 ⟨(Nat.le_trans (m := 23 * (511 - k)) (by omega) (Nat.le_refl _)), (Nat.le_trans (m := 7268 * (511 - k)) (by omega) (Nat.le_refl _))⟩) hS (fun m18 H locs hq9 hP hz9 hS => ?_)
  obtain ⟨g18, rfl, hg18⟩ := hq9
  have hP : mw G.1 vwCl B (mu (mu m5 (la5 j9) (.inl (G.2 0, 158 * k5 + 158, .inr (.inl g18)))) (sa j9) (.inr (1, [.ref (na j9), .int (nI (bE 22))]))) _ := mw_eq (congrArg (fun z => mu z (sa j9) (.inr (1, [.ref (na j9), .int (nI (bE 22))]))) (rfl)) hP
  refine Wknow (fun hw1 hw2 => ?_)
  rw [hQ]
  refine W.widen (k := 23 * (511 - k)) (n := 7268 * (511 - k)) (by omega) (by omega) ?_
  have hDx21 : DK G (mu (mu m5 (la5 j9) (.inl (G.2 0, 158 * k5 + 158, .inr (.inl g18)))) (sa j9) (.inr (1, [.ref (na j9), .int (nI (bE 22))]))) d aS aL aR aT aO k5 sc sa na la5 (va_up bE j9 (bE 22)) (va_up F5 j9 g18) fS fL fR fT sp fO := hD5.sh2 (by omega) (by omega)
  have hRx21 : DQ μ (mu (mu m5 (la5 j9) (.inl (G.2 0, 158 * k5 + 158, .inr (.inl g18)))) (sa j9) (.inr (1, [.ref (na j9), .int (nI (bE 22))]))) d aO sa na la la5 := hR5.tr (DQ.sh2 (by omega))
  obtain ⟨μ21, em21⟩ : ∃ x9 : mp, x9 = mu (mu m5 (la5 j9) (.inl (G.2 0, 158 * k5 + 158, .inr (.inl g18)))) (sa j9) (.inr (1, [.ref (na j9), .int (nI (bE 22))])) := ⟨_, rfl⟩
  rw [← em21] at hP hDx21 hRx21
  exact W.vret hx hb hr (fun t99 ht99 hW99 => ⟨⟨(μ21, k5), rfl, (⟨_, _, _, hDx21, hRx21, by omega, hkw5⟩), by show mw _ _ _ _ t99.heap; rw [ht99]; exact hP, by show t99.heap.size ≤ N9 + (0 + 23 * (k5 - k)); rw [ht99]; omega, by show tot t99.heap ≤ T9 + (0 + 7268 * (k5 - k)); rw [ht99]; omega⟩, hS.F ht99⟩) hS.2.2 dX3_putMade_21
