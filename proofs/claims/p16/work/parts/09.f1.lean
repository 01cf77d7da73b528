abbrev rm_X2_init : Room := { frames := 1, cells := 0, slots := 0, locals := 12 }
set_option maxHeartbeats 4000000 in
set_option maxRecDepth 100000 in
theorem c_X2_init (l : Launch) (G : GG) (B : Nat) (μ : mp) (h : Nat) (hh : μ h = some (.inr (2, [.int (nI 0), .int (nI 0), .int (nI 0), .int (nI 0), .int (nI 0), .int (nI 0)]))) : Met l yX2_init wsX2_init rm_X2_init (va_Pc [.ref h] (KW G B μ)) (va_Qv (fun μ2 => μ2 = μ) (BB G B) (fun q => B ≤ q)) 0 0 (fun q => B ≤ q) := by
  refine Met.ofW (cc := cX2_init) (maxL := 1) (ret := none) (by decide) rfl ?_
  intro p e s m args below meth c s₁ B9 hml hv
  obtain ⟨hargs, hBs, hP, hKK⟩ := hv
  have hx := B9.exec
  have hb := B9.bytes
  have hr := B9.returns
  have hts := atoms_spec (ws := wsX2_init) B9.pre
  have hown : s.vm.findClass RX2 = some m.cls := findClass_of_methodNamed B9.named
  have hlocks := B9.notSynchronized
  have hin : meth.name = "<init>" := (name_of_methodNamed B9.named B9.method).1
  have hK := hKK.k
  have hS : va_S (fun q => B ≤ q) s.heap s.heap [] := va_S.rf
  obtain ⟨Q, hQ⟩ : ∃ Q, Q = MQ below (va_Qv (fun μ2 => μ2 = μ) (BB G B) (fun q => B ≤ q)) args s 0 0 (fun q => B ≤ q) := ⟨_, rfl⟩
  rw [← hQ]
  have hl := lv_entry ([.ref h]) (n := 1) (Nat.le_of_ble_eq_true rfl)
  have he9 : entryFrame m args 1 = entryFrame m ([.ref h] : List Value).toArray 1 := by rw [hargs]
  rw [he9, lg_entry_eq]
  generalize (lg_sl ([.ref h]) ++ List.replicate (1 - (lg_sl ([.ref h])).length) Slot.unset).toArray = ls at hl ⊢
  have hl : lv_has ls 1 [(0, .ref h)] := hl
  refine lv_aload_n hx hb dX2_init_0 rfl (lv_at hl 0 rfl) ?_
  refine W.objInit hx hb hown (hts (.methodLink RX2 3 objectInit) (by decide +kernel)) (hts (.instanceMethod objectInit) (by decide +kernel)) (hts (.code objectInit ⟨#[0xb1]⟩ 1 none) (by decide +kernel)) rfl (by rw [hml]; exact hl.1) rfl dX2_init_1 (Nat.le_of_ble_eq_true rfl) (Nat.le_of_ble_eq_true rfl) ?_
  rw [hQ]
  exact W.vret hx hb hr (fun t99 ht99 hW99 => ⟨⟨μ, rfl, (rfl), by show mw _ _ _ _ t99.heap; rw [ht99]; exact hP⟩, hS.F ht99⟩) hS.2.2 dX2_init_4

abbrev rm_X2_write : Room := { frames := 0, cells := 0, slots := 0, locals := 0 }
set_option maxHeartbeats 4000000 in
set_option maxRecDepth 100000 in
theorem c_X2_write (l : Launch) (G : GG) (B : Nat) (μ : mp) (h w9 : Nat) (x1 x2 x3 x4 x5 x6 k9 a9 b9 c9 : Int32) (hh : μ h = some (.inr (2, [.int x1, .int x2, .int x3, .int x4, .int x5, .int x6]))) (hw9 : w9 < 64) : Met l yX2_write wsX2_write rm_X2_write (va_Pc [.ref h, .int (nI w9), .int k9, .int a9, .int b9, .int c9] (KW G B μ)) (va_Qv (fun μ2 => μ2 = mu μ h (.inr (2, [.int (nI (w9 / 8)), .int (nI (w9 % 8)), .int k9, .int a9, .int b9, .int c9]))) (BB G B) (fun q => B ≤ q)) 0 0 (fun q => B ≤ q) := by
  refine Met.ofW (cc := cX2_write) (maxL := 6) (ret := none) (by decide) rfl ?_
  intro p e s m args below meth c s₁ B9 hml hv
  obtain ⟨hargs, hBs, hP, hKK⟩ := hv
  have hx := B9.exec
  have hb := B9.bytes
  have hr := B9.returns
  have hts := atoms_spec (ws := wsX2_write) B9.pre
  have hown : s.vm.findClass RX2 = some m.cls := findClass_of_methodNamed B9.named
  have hlocks := B9.notSynchronized
  have hK := hKK.k
  have hS : va_S (fun q => B ≤ q) s.heap s.heap [] := va_S.rf
  obtain ⟨Q, hQ⟩ : ∃ Q, Q = MQ below (va_Qv (fun μ2 => μ2 = mu μ h (.inr (2, [.int (nI (w9 / 8)), .int (nI (w9 % 8)), .int k9, .int a9, .int b9, .int c9]))) (BB G B) (fun q => B ≤ q)) args s 0 0 (fun q => B ≤ q) := ⟨_, rfl⟩
  rw [← hQ]
  have in_X2_write_X2 : ∀ w ∈ wsX20, w ∈ wsX2_write := by decide +kernel
  have hP : mw G.1 vwCl B (mu μ h (.inr (2, [.int x1, .int x2, .int x3, .int x4, .int x5, .int x6]))) s.heap := mw_eq (mu_i hh).symm hP
  have hl := lv_entry ([.ref h, .int (nI w9), .int k9, .int a9, .int b9, .int c9]) (n := 6) (Nat.le_of_ble_eq_true rfl)
  have he9 : entryFrame m args 6 = entryFrame m ([.ref h, .int (nI w9), .int k9, .int a9, .int b9, .int c9] : List Value).toArray 6 := by rw [hargs]
  rw [he9, lg_entry_eq]
  generalize (lg_sl ([.ref h, .int (nI w9), .int k9, .int a9, .int b9, .int c9]) ++ List.replicate (6 - (lg_sl ([.ref h, .int (nI w9), .int k9, .int a9, .int b9, .int c9])).length) Slot.unset).toArray = ls at hl ⊢
  have hl : lv_has ls 6 [(0, .ref h), (1, .int (nI w9)), (2, .int k9), (3, .int a9), (4, .int b9), (5, .int c9)] := hl
  refine lv_aload_n hx hb dX2_write_0 rfl (lv_at hl 0 rfl) ?_
  refine lv_iload_n hx hb dX2_write_1 rfl (lv_at hl 1 rfl) ?_
  refine lv_bipush (v := nI 8) hx hb dX2_write_2 (by decide) ?_
  refine nv_idiv hx hb (by omega) (by decide) (by decide) dX2_write_4 ?_
  refine mw_put (ty := .int) (v := .int (nI (w9 / 8))) (C := RX2) (T := TX2) (N := 6) hx hb hts in_X2_write_X2 tyX2 tyX2_ok nmX2 hown hK hP hS (mu_s _ _ _) rfl 0 (by decide) (hts (.fieldLink RX2 9 "OctagonDesk$Step" "from" "I") (by decide +kernel)) (fun _ h9 => h9) rfl (by decide +kernel) (by first | rfl | decide +kernel) (by first | rfl | decide +kernel) (Nat.le_of_ble_eq_true rfl) dX2_write_5 (fun H locs hP hS => ?_)
  have hP : mw G.1 vwCl B (mu μ h (.inr (2, [.int (nI (w9 / 8)), .int x2, .int x3, .int x4, .int x5, .int x6]))) _ := mw_eq (mu_u _ _ _ _) hP
  refine lv_aload_n hx hb dX2_write_8 rfl (lv_at hl 0 rfl) ?_
  refine lv_iload_n hx hb dX2_write_9 rfl (lv_at hl 1 rfl) ?_
  refine lv_bipush (v := nI 8) hx hb dX2_write_10 (by decide) ?_
  refine nv_irem hx hb (by omega) (by decide) (by decide) dX2_write_12 ?_
  refine mw_put (ty := .int) (v := .int (nI (w9 % 8))) (C := RX2) (T := TX2) (N := 6) hx hb hts in_X2_write_X2 tyX2 tyX2_ok nmX2 hown hK hP hS (mu_s _ _ _) rfl 1 (by decide) (hts (.fieldLink RX2 15 "OctagonDesk$Step" "to" "I") (by decide +kernel)) (fun _ h9 => h9) rfl (by decide +kernel) (by first | rfl | decide +kernel) (by first | rfl | decide +kernel) (Nat.le_of_ble_eq_true rfl) dX2_write_13 (fun H locs hP hS => ?_)
  have hP : mw G.1 vwCl B (mu μ h (.inr (2, [.int (nI (w9 / 8)), .int (nI (w9 % 8)), .int x3, .int x4, .int x5, .int x6]))) _ := mw_eq (mu_u _ _ _ _) hP
  refine lv_aload_n hx hb dX2_write_16 rfl (lv_at hl 0 rfl) ?_
  refine lv_iload_n hx hb dX2_write_17 rfl (lv_at hl 2 rfl) ?_
  refine mw_put (ty := .int) (v := .int k9) (C := RX2) (T := TX2) (N := 6) hx hb hts in_X2_write_X2 tyX2 tyX2_ok nmX2 hown hK hP hS (mu_s _ _ _) rfl 2 (by decide) (hts (.fieldLink RX2 18 "OctagonDesk$Step" "kind" "I") (by decide +kernel)) (fun _ h9 => h9) rfl (by decide +kernel) (by first | rfl | decide +kernel) (by first | rfl | decide +kernel) (Nat.le_of_ble_eq_true rfl) dX2_write_18 (fun H locs hP hS => ?_)
  have hP : mw G.1 vwCl B (mu μ h (.inr (2, [.int (nI (w9 / 8)), .int (nI (w9 % 8)), .int k9, .int x4, .int x5, .int x6]))) _ := mw_eq (mu_u _ _ _ _) hP
  refine lv_aload_n hx hb dX2_write_21 rfl (lv_at hl 0 rfl) ?_
  refine lv_iload_n hx hb dX2_write_22 rfl (lv_at hl 3 rfl) ?_
  refine mw_put (ty := .int) (v := .int a9) (C := RX2) (T := TX2) (N := 6) hx hb hts in_X2_write_X2 tyX2 tyX2_ok nmX2 hown hK hP hS (mu_s _ _ _) rfl 3 (by decide) (hts (.fieldLink RX2 21 "OctagonDesk$Step" "a" "I") (by decide +kernel)) (fun _ h9 => h9) rfl (by decide +kernel) (by first | rfl | decide +kernel) (by first | rfl | decide +kernel) (Nat.le_of_ble_eq_true rfl) dX2_write_23 (fun H locs hP hS => ?_)
  have hP : mw G.1 vwCl B (mu μ h (.inr (2, [.int (nI (w9 / 8)), .int (nI (w9 % 8)), .int k9, .int a9, .int x5, .int x6]))) _ := mw_eq (mu_u _ _ _ _) hP
  refine lv_aload_n hx hb dX2_write_26 rfl (lv_at hl 0 rfl) ?_
  refine lv_iload hx hb dX2_write_27 (lv_at hl 4 rfl) ?_
  refine mw_put (ty := .int) (v := .int b9) (C := RX2) (T := TX2) (N := 6) hx hb hts in_X2_write_X2 tyX2 tyX2_ok nmX2 hown hK hP hS (mu_s _ _ _) rfl 4 (by decide) (hts (.fieldLink RX2 24 "OctagonDesk$Step" "b" "I") (by decide +kernel)) (fun _ h9 => h9) rfl (by decide +kernel) (by first | rfl | decide +kernel) (by first | rfl | decide +kernel) (Nat.le_of_ble_eq_true rfl) dX2_write_29 (fun H locs hP hS => ?_)
  have hP : mw G.1 vwCl B (mu μ h (.inr (2, [.int (nI (w9 / 8)), .int (nI (w9 % 8)), .int k9, .int a9, .int b9, .int x6]))) _ := mw_eq (mu_u _ _ _ _) hP
  refine lv_aload_n hx hb dX2_write_32 rfl (lv_at hl 0 rfl) ?_
  refine lv_iload hx hb dX2_write_33 (lv_at hl 5 rfl) ?_
  refine mw_put (ty := .int) (v := .int c9) (C := RX2) (T := TX2) (N := 6) hx hb hts in_X2_write_X2 tyX2 tyX2_ok nmX2 hown hK hP hS (mu_s _ _ _) rfl 5 (by decide) (hts (.fieldLink RX2 27 "OctagonDesk$Step" "c" "I") (by decide +kernel)) (fun _ h9 => h9) rfl (by decide +kernel) (by first | rfl | decide +kernel) (by first | rfl | decide +kernel) (Nat.le_of_ble_eq_true rfl) dX2_write_35 (fun H locs hP hS => ?_)
  have hP : mw G.1 vwCl B (mu μ h (.inr (2, [.int (nI (w9 / 8)), .int (nI (w9 % 8)), .int k9, .int a9, .int b9, .int c9]))) _ := mw_eq (mu_u _ _ _ _) hP
  rw [hQ]
  exact W.vret hx hb hr (fun t99 ht99 hW99 => ⟨⟨mu μ h (.inr (2, [.int (nI (w9 / 8)), .int (nI (w9 % 8)), .int k9, .int a9, .int b9, .int c9])), rfl, (rfl), by show mw _ _ _ _ t99.heap; rw [ht99]; exact hP⟩, hS.F ht99⟩) hS.2.2 dX2_write_38

abbrev rm_X3_init : Room := { frames := 4, cells := 94, slots := 3940, locals := 75 }