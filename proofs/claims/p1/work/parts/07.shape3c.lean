abbrev rm_J7_copyOf_c38d5 (n9 : Nat) : Room := { frames := 1, cells := 1, slots := 2 * n9, locals := 60 }
set_option maxHeartbeats 4000000 in
set_option maxRecDepth 100000 in
theorem c_J7_copyOf_c38d5 (l : Launch) (G : GG) (B : Nat) (μ : mp) (la n9 : Nat) (f : Nat → Int64) (ha : μ la = some (.inl (G.2 0, n9, .inr (.inl f)))) (h0n : 0 < n9) (hn9 : n9 < 200000) : Met l yJ7_copyOf_c38d5 wsJ7_copyOf_c38d5 (rm_J7_copyOf_c38d5 n9) (va_Pc [.ref la, .int (nI (2 * n9))] (KW G B μ)) (va_Qr (fun (_ : mp) => True) (fun μ2 ra t9 => (fun (μ2 : mp) (ra : Nat) => μ ra = none ∧ ∃ g9 : Nat → Int64, μ2 = mu μ ra (.inl (G.2 0, 2 * n9, .inr (.inl g9)))) μ2 ra ∧ BB G B μ2 t9) (fun q => B ≤ q)) 1 (2 * n9) (fun q => B ≤ q) := by
  refine Met.ofW (cc := cJ7_copyOf_c38d5) (maxL := 3) (ret := (some (.array .long))) (by decide) rfl ?_
  intro p e s m args below meth c s₁ B9 hml hv
  obtain ⟨hargs, hBs, hP, hKK⟩ := hv
  have hx := B9.exec
  have hb := B9.bytes
  have hr := B9.returns
  have hts := atoms_spec (ws := wsJ7_copyOf_c38d5) B9.pre
  have hown : s.vm.findClass RJ7 = some m.cls := findClass_of_methodNamed B9.named
  have hlocks := B9.notSynchronized
  have hK := hKK.k
  have hS : va_S (fun q => B ≤ q) s.heap s.heap [] := va_S.rf
  obtain ⟨Q, hQ⟩ : ∃ Q, Q = MQ below (va_Qr (fun (_ : mp) => True) (fun μ2 ra t9 => (fun (μ2 : mp) (ra : Nat) => μ ra = none ∧ ∃ g9 : Nat → Int64, μ2 = mu μ ra (.inl (G.2 0, 2 * n9, .inr (.inl g9)))) μ2 ra ∧ BB G B μ2 t9) (fun q => B ≤ q)) args s 1 (2 * n9) (fun q => B ≤ q) := ⟨_, rfl⟩
  rw [← hQ]
  have hl := lv_entry ([.ref la, .int (nI (2 * n9))]) (n := 3) (Nat.le_of_ble_eq_true rfl)
  have he9 : entryFrame m args 3 = entryFrame m ([.ref la, .int (nI (2 * n9))] : List Value).toArray 3 := by rw [hargs]
  rw [he9, lg_entry_eq]
  generalize (lg_sl ([.ref la, .int (nI (2 * n9))]) ++ List.replicate (3 - (lg_sl ([.ref la, .int (nI (2 * n9))])).length) Slot.unset).toArray = ls at hl ⊢
  have hl : lv_has ls 3 [(0, .ref la), (1, .int (nI (2 * n9)))] := hl
  refine lv_iload_n hx hb dJ7_copyOf_c38d5_0 rfl (lv_at hl 1 rfl) ?_
  refine lv_aload_n hx hb dJ7_copyOf_c38d5_1 rfl (lv_at hl 0 rfl) ?_
  refine mw_alen hx hb hK hP 0 (ha) rfl dJ7_copyOf_c38d5_2 ?_
  refine nv_icmp_ne (tgt := 14) hx hb (by omega) (by omega) dJ7_copyOf_c38d5_3 (by decide) (fun hc3 => ?_) (fun hc3 => ?_)
  · refine lv_iload_n hx hb dJ7_copyOf_c38d5_14 rfl (lv_at hl 1 rfl) ?_
    refine mw_newa (a0 := (2 * n9, .inr (.inl (fun _ => 0)))) (ty := .long) hx hb (hts (.arrayClass .long) (by decide +kernel)) rfl hK hP hS hBs 0 rfl (fun _ => rfl) (by omega) (by show (2 * n9) * _ ≤ _; simp only [componentBytes]; omega) (Nat.le_of_ble_eq_true rfl) (Nat.le_trans (m := 2 * n9) (by omega) (Nat.le_refl _)) dJ7_copyOf_c38d5_15 (fun q15 H hsq15 hzq15 hnq15 hP hS => ?_)
    have nqla_q15 : la ≠ q15 := mp_nn (ha) hnq15
    have hP : mw G.1 vwCl B (mu μ q15 (.inl (G.2 0, 2 * n9, .inr (.inl (fun _ => 0))))) _ := hP
    refine lv_astore_n (lv' := [(2, .ref q15), (0, .ref la), (1, .int (nI (2 * n9)))]) hx hb dJ7_copyOf_c38d5_17 rfl hl (by decide) rfl (fun ls hl => ?_)
    refine lv_aload_n hx hb dJ7_copyOf_c38d5_18 rfl (lv_at hl 1 rfl) ?_
    refine lv_iconst (v := nI 0) hx hb dJ7_copyOf_c38d5_19 (by decide) ?_
    refine lv_aload_n hx hb dJ7_copyOf_c38d5_20 rfl (lv_at hl 0 rfl) ?_
    refine lv_iconst (v := nI 0) hx hb dJ7_copyOf_c38d5_21 (by decide) ?_
    refine lv_aload_n hx hb dJ7_copyOf_c38d5_22 rfl (lv_at hl 1 rfl) ?_
    refine mw_alen hx hb hK hP 0 ((mu_n nqla_q15).trans (ha)) rfl dJ7_copyOf_c38d5_23 ?_
    refine lv_iload_n hx hb dJ7_copyOf_c38d5_24 rfl (lv_at hl 2 rfl) ?_
    refine va_mmin hx hb (hml.trans hl.1.symm) hown (hts (.methodLink RJ7 304 Lib.Math.min.name) (by decide +kernel)) (hts (.static Lib.Math.min.name) (by decide +kernel)) (hts (.initialized "java/lang/Math") (by decide +kernel)) (hts (.code Lib.Math.min.name Lib.Math.min.code 2 (some .int)) (by decide +kernel)) (Nat.le_of_ble_eq_true rfl) (Nat.le_of_ble_eq_true rfl) (Nat.le_of_ble_eq_true rfl) (Nat.le_trans (m := 2 * n9) (by omega) (Nat.le_refl _)) dJ7_copyOf_c38d5_25 ?_
    refine nv_eqi (y := nI n9) (if_neg (nI_nlt (by omega) (by omega))) ?_
    refine mw_copyl hx hb (hml.trans hl.1.symm) hown (hts (.methodLink RJ7 150 arraycopyName) (by decide +kernel)) (hts (.native arraycopyName) (by decide +kernel)) (hts (.static arraycopyName) (by decide +kernel)) (hts (.initialized "java/lang/System") (by decide +kernel)) hK hP hS 0 0 ((mu_n nqla_q15).trans (ha)) (mu_s _ _ _) rfl rfl (by omega) (by omega) (by omega) (Nat.le_of_ble_eq_true rfl) (Nat.le_of_ble_eq_true rfl) dJ7_copyOf_c38d5_28 (fun H locs hP hS => ?_)
    have hP : mw G.1 vwCl B (mu μ q15 (.inl (G.2 0, 2 * n9, .inr (.inl (va_cpy f (fun _ => 0) 0 0 n9))))) _ := mw_eq (mu_u _ _ _ _) hP
    refine lv_aload_n hx hb dJ7_copyOf_c38d5_31 rfl (lv_at hl 0 rfl) ?_
    rw [hQ]
    refine W.widen (k := 1) (n := 2 * n9) (by omega) (by omega) ?_
    exact W.aret (v := .ref q15) hx hb hr (Or.inr ⟨_, rfl⟩) (Or.inr ⟨_, rfl⟩) (fun t99 ht99 hW99 => ⟨⟨mu μ q15 (.inl (G.2 0, 2 * n9, .inr (.inl (va_cpy f (fun _ => 0) 0 0 n9)))), q15, rfl, trivial, (⟨hnq15, _, rfl⟩), by show mw _ _ _ _ t99.heap; rw [ht99]; exact hP⟩, hS.F ht99⟩) hS.2.2 dJ7_copyOf_c38d5_32
  · exact absurd hc3 (by omega)
