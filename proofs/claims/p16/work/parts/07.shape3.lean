theorem vp0_J (c : ClassId) (n : Nat) : vp_cell c (n, .inr (.inl (fun _ => 0))) = arrV c n (fun _ => defaultValue .long) := rfl
theorem vp0_I (c : ClassId) (n : Nat) : vp_cell c (n, .inl (fun _ => 0)) = arrV c n (fun _ => defaultValue .int) := rfl
theorem vp0_Z (c : ClassId) (n : Nat) : vp_cell c (n, .inl (fun _ => 0)) = arrV c n (fun _ => defaultValue .boolean) := rfl
def gr (k : Nat) : Nat := if k + 1 < 512 then 2 * k + 1 else k
theorem mu_none {μ : mp} {a q : Nat} {e : va_E} (h : mu μ a e q = none) : q ≠ a ∧ μ q = none := by
  by_cases h1 : q = a
  · subst h1; rw [mu_s] at h; cases h
  · exact ⟨h1, by rw [mu_n h1] at h; exact h⟩
theorem dJ7_copyOf_c38d5_0 : decode cJ7_copyOf_c38d5 0 = .ok (.iload_n 1, 1) := by decide +kernel
theorem dJ7_copyOf_c38d5_1 : decode cJ7_copyOf_c38d5 1 = .ok (.aload_n 0, 1) := by decide +kernel
theorem dJ7_copyOf_c38d5_2 : decode cJ7_copyOf_c38d5 2 = .ok (.arraylength, 1) := by decide +kernel
theorem dJ7_copyOf_c38d5_3 : decode cJ7_copyOf_c38d5 3 = .ok (.if_icmp .ne 11, 3) := by decide +kernel
theorem dJ7_copyOf_c38d5_6 : decode cJ7_copyOf_c38d5 6 = .ok (.aload_n 0, 1) := by decide +kernel
theorem dJ7_copyOf_c38d5_7 : decode cJ7_copyOf_c38d5 7 = .ok (.invokevirtual 319, 3) := by decide +kernel
theorem dJ7_copyOf_c38d5_10 : decode cJ7_copyOf_c38d5 10 = .ok (.checkcast 320, 3) := by decide +kernel
theorem dJ7_copyOf_c38d5_13 : decode cJ7_copyOf_c38d5 13 = .ok (.areturn, 1) := by decide +kernel
theorem dJ7_copyOf_c38d5_14 : decode cJ7_copyOf_c38d5 14 = .ok (.iload_n 1, 1) := by decide +kernel
theorem dJ7_copyOf_c38d5_15 : decode cJ7_copyOf_c38d5 15 = .ok (.newarray .long, 2) := by decide +kernel
theorem dJ7_copyOf_c38d5_17 : decode cJ7_copyOf_c38d5 17 = .ok (.astore_n 2, 1) := by decide +kernel
theorem dJ7_copyOf_c38d5_18 : decode cJ7_copyOf_c38d5 18 = .ok (.aload_n 0, 1) := by decide +kernel
theorem dJ7_copyOf_c38d5_19 : decode cJ7_copyOf_c38d5 19 = .ok (.iconst 0, 1) := by decide +kernel
theorem dJ7_copyOf_c38d5_20 : decode cJ7_copyOf_c38d5 20 = .ok (.aload_n 2, 1) := by decide +kernel
theorem dJ7_copyOf_c38d5_21 : decode cJ7_copyOf_c38d5 21 = .ok (.iconst 0, 1) := by decide +kernel
theorem dJ7_copyOf_c38d5_22 : decode cJ7_copyOf_c38d5 22 = .ok (.aload_n 0, 1) := by decide +kernel
theorem dJ7_copyOf_c38d5_23 : decode cJ7_copyOf_c38d5 23 = .ok (.arraylength, 1) := by decide +kernel
theorem dJ7_copyOf_c38d5_24 : decode cJ7_copyOf_c38d5 24 = .ok (.iload_n 1, 1) := by decide +kernel
theorem dJ7_copyOf_c38d5_25 : decode cJ7_copyOf_c38d5 25 = .ok (.invokestatic 304, 3) := by decide +kernel
theorem dJ7_copyOf_c38d5_28 : decode cJ7_copyOf_c38d5 28 = .ok (.invokestatic 150, 3) := by decide +kernel
theorem dJ7_copyOf_c38d5_31 : decode cJ7_copyOf_c38d5 31 = .ok (.aload_n 2, 1) := by decide +kernel
theorem dJ7_copyOf_c38d5_32 : decode cJ7_copyOf_c38d5 32 = .ok (.areturn, 1) := by decide +kernel
def SHc (G : GG) (μ : mp) (s n l b : Nat) (f : Nat → Int64) : Prop := μ s = some (.inr (1, [.ref n, .int (nI b)])) ∧ μ n = some (.inr (0, [.int (nI 158), .int (nI 157), .ref l, .int (nI (158 * 0))])) ∧ μ l = some (.inl (G.2 0, 158 * 0 + 158, .inr (.inl f)))
def Ext (μ μ1 : mp) : Prop := ∀ (a : Nat) (e : va_E), μ a = some e → μ1 a = some e
theorem Ext.rf (μ : mp) : Ext μ μ := fun _ _ h => h
theorem Ext.tr {μ μ1 μ2 : mp} (h1 : Ext μ μ1) (h2 : Ext μ1 μ2) : Ext μ μ2 := fun a e h => h2 a e (h1 a e h)
theorem Ext.no {μ μ1 : mp} (h : Ext μ μ1) {a : Nat} (h1 : μ1 a = none) : μ a = none := by
  cases h2 : μ a with
  | none => rfl
  | some e => rw [h a e h2] at h1; cases h1
theorem Ext.mo {μ μ1 : mp} (h : Ext μ μ1) {a : Nat} {e : va_E} (h1 : μ a = none) : Ext μ (mu μ1 a e) := fun b x hb => by rw [mu_n (mp_nn hb h1)]; exact h b x hb
/-- n shapes with their numbers, new since μ; what was in μ is there as it was -/
def EM (G : GG) (μ μ1 : mp) (n : Nat) (sa na la bE : Nat → Nat) (F : Nat → Nat → Int64) : Prop := Ext μ μ1 ∧ (∀ j, j < n → SHc G μ1 (sa j) (na j) (la j) (bE j) (F j) ∧ μ (sa j) = none ∧ μ (na j) = none ∧ μ (la j) = none) ∧ (∀ i j, i < n → j < n → i ≠ j → sa i ≠ sa j ∧ na i ≠ na j ∧ la i ≠ la j)
theorem SHc.set {G : GG} {μ : mp} {s n l b a : Nat} {f : Nat → Int64} {e : va_E} (h : SHc G μ s n l b f) (h1 : s ≠ a) (h2 : n ≠ a) (h3 : l ≠ a) : SHc G (mu μ a e) s n l b f := ⟨(mu_n h1).trans h.1, (mu_n h2).trans h.2.1, (mu_n h3).trans h.2.2⟩
theorem SHc.ext {G : GG} {μ μ1 : mp} {s n l b : Nat} {f : Nat → Int64} (h : SHc G μ s n l b f) (e : Ext μ μ1) : SHc G μ1 s n l b f := ⟨e _ _ h.1, e _ _ h.2.1, e _ _ h.2.2⟩
theorem EM.zero (G : GG) {μ μ1 : mp} (h : Ext μ μ1) (sa na la bE : Nat → Nat) (F : Nat → Nat → Int64) : EM G μ μ1 0 sa na la bE F := ⟨h, fun _ h => absurd h (by omega), fun _ _ h => absurd h (by omega)⟩
theorem EM.set {G : GG} {μ μ1 : mp} {n a : Nat} {sa na la bE : Nat → Nat} {F : Nat → Nat → Int64} {e : va_E} (h : EM G μ μ1 n sa na la bE F) (h1 : μ a = none) (h2 : ∀ j, j < n → sa j ≠ a ∧ na j ≠ a ∧ la j ≠ a) : EM G μ (mu μ1 a e) n sa na la bE F :=
  ⟨h.1.mo h1, fun j hj => ⟨(h.2.1 j hj).1.set (h2 j hj).1 (h2 j hj).2.1 (h2 j hj).2.2, (h.2.1 j hj).2⟩, h.2.2⟩
theorem EM.add {G : GG} {μ μ1 : mp} {i q hn l b : Nat} {sa na la bE : Nat → Nat} {F : Nat → Nat → Int64} {f : Nat → Int64} (h : EM G μ μ1 i sa na la bE F) (h1 : μ1 q = none) (h2 : μ1 hn = none) (h3 : μ1 l = none) (h4 : hn ≠ q) (h5 : l ≠ q) (h6 : hn ≠ l) :
    EM G μ (mu (mu (mu μ1 q (.inr (1, [.ref hn, .int (nI b)]))) hn (.inr (0, [.int (nI 158), .int (nI 157), .ref l, .int (nI (158 * 0))]))) l (.inl (G.2 0, 158 * 0 + 158, .inr (.inl f)))) (i + 1) (va_up sa i q) (va_up na i hn) (va_up la i l) (va_up bE i b) (va_up F i f) := by
  obtain ⟨e0, e1, e2⟩ := h
  have ne1 : ∀ j, j < i → ∀ x, μ1 x = none → sa j ≠ x ∧ na j ≠ x ∧ la j ≠ x := fun j hj x hx => ⟨mp_nn (e1 j hj).1.1 hx, mp_nn (e1 j hj).1.2.1 hx, mp_nn (e1 j hj).1.2.2 hx⟩
  refine ⟨((e0.mo (e0.no h1)).mo (e0.no h2)).mo (e0.no h3), fun j hj => ?_, fun x y hx hy hxy => ?_⟩
  · by_cases e : j = i
    · subst e
      rw [va_up_self, va_up_self, va_up_self, va_up_self, va_up_self]
      exact ⟨⟨(mu_n (Ne.symm h5)).trans ((mu_n (Ne.symm h4)).trans (mu_s _ _ _)), (mu_n h6).trans (mu_s _ _ _), mu_s _ _ _⟩, e0.no h1, e0.no h2, e0.no h3⟩
    · have hj' : j < i := by omega
      rw [va_up_ne _ _ e, va_up_ne _ _ e, va_up_ne _ _ e, va_up_ne _ _ e, va_up_ne _ _ e]
      obtain ⟨a1, a2, a3⟩ := ne1 j hj' q h1
      obtain ⟨b1, b2, b3⟩ := ne1 j hj' hn h2
      obtain ⟨c1, c2, c3⟩ := ne1 j hj' l h3
      exact ⟨((((e1 j hj').1.set a1 a2 a3).set b1 b2 b3).set c1 c2 c3), (e1 j hj').2⟩
  · by_cases ex : x = i
    · have ey : y ≠ i := by omega
      subst ex
      obtain ⟨a1, -, -⟩ := ne1 y (by omega) q h1
      obtain ⟨-, b2, -⟩ := ne1 y (by omega) hn h2
      obtain ⟨-, -, c3⟩ := ne1 y (by omega) l h3
      rw [va_up_self, va_up_self, va_up_self, va_up_ne _ _ ey, va_up_ne _ _ ey, va_up_ne _ _ ey]
      exact ⟨Ne.symm a1, Ne.symm b2, Ne.symm c3⟩
    · by_cases ey : y = i
      · subst ey
        obtain ⟨a1, -, -⟩ := ne1 x (by omega) q h1
        obtain ⟨-, b2, -⟩ := ne1 x (by omega) hn h2
        obtain ⟨-, -, c3⟩ := ne1 x (by omega) l h3
        rw [va_up_self, va_up_self, va_up_self, va_up_ne _ _ ex, va_up_ne _ _ ex, va_up_ne _ _ ex]
        exact ⟨a1, b2, c3⟩
      · rw [va_up_ne _ _ ex, va_up_ne _ _ ex, va_up_ne _ _ ex, va_up_ne _ _ ey, va_up_ne _ _ ey, va_up_ne _ _ ey]
        exact e2 x y (by omega) (by omega) hxy
abbrev rm_X0_init : Room := { frames := 1, cells := 1, slots := 158, locals := 12 }
set_option maxHeartbeats 4000000 in
set_option maxRecDepth 100000 in
theorem c_X0_init (l : Launch) (G : GG) (B : Nat) (μ : mp) (h : Nat) (hh : μ h = some (.inr (0, [.int (nI 0), .int (nI 0), .null, .int (nI 0)]))) : Met l yX0_init wsX0_init rm_X0_init (va_Pc [.ref h, .int (nI 157)] (KW G B μ)) (va_Qv (fun μ2 => ∃ la : Nat, μ la = none ∧ la ≠ h ∧ μ2 = mu (mu μ h (.inr (0, [.int (nI 158), .int (nI 157), .ref la, .int (nI (158 * 0))]))) la (.inl (G.2 0, 158 * 0 + 158, .inr (.inl (fun _ => 0))))) (BB G B) (fun q => B ≤ q)) 1 158 (fun q => B ≤ q) := by
  refine Met.ofW (cc := cX0_init) (maxL := 2) (ret := none) (by decide) rfl ?_
  intro p e s m args below meth c s₁ B9 hml hv
  obtain ⟨hargs, hBs, hP, hKK⟩ := hv
  have hx := B9.exec
  have hb := B9.bytes
  have hr := B9.returns
  have hts := atoms_spec (ws := wsX0_init) B9.pre
  have hown : s.vm.findClass RX0 = some m.cls := findClass_of_methodNamed B9.named
  have hlocks := B9.notSynchronized
  have hin : meth.name = "<init>" := (name_of_methodNamed B9.named B9.method).1
  have hK := hKK.k
  have hS : va_S (fun q => B ≤ q) s.heap s.heap [] := va_S.rf
  obtain ⟨Q, hQ⟩ : ∃ Q, Q = MQ below (va_Qv (fun μ2 => ∃ la : Nat, μ la = none ∧ la ≠ h ∧ μ2 = mu (mu μ h (.inr (0, [.int (nI 158), .int (nI 157), .ref la, .int (nI (158 * 0))]))) la (.inl (G.2 0, 158 * 0 + 158, .inr (.inl (fun _ => 0))))) (BB G B) (fun q => B ≤ q)) args s 1 158 (fun q => B ≤ q) := ⟨_, rfl⟩
  rw [← hQ]
  have in_X0_init_X0 : ∀ w ∈ wsX00, w ∈ wsX0_init := by decide +kernel
  have hP : mw G.1 vwCl B (mu μ h (.inr (0, [.int (nI 0), .int (nI 0), .null, .int (nI 0)]))) s.heap := mw_eq (mu_i hh).symm hP
  have hl := lv_entry ([.ref h, .int (nI 157)]) (n := 2) (Nat.le_of_ble_eq_true rfl)
  have he9 : entryFrame m args 2 = entryFrame m ([.ref h, .int (nI 157)] : List Value).toArray 2 := by rw [hargs]
  rw [he9, lg_entry_eq]
  generalize (lg_sl ([.ref h, .int (nI 157)]) ++ List.replicate (2 - (lg_sl ([.ref h, .int (nI 157)])).length) Slot.unset).toArray = ls at hl ⊢
  have hl : lv_has ls 2 [(0, .ref h), (1, .int (nI 157))] := hl
  refine lv_aload_n hx hb dX0_init_0 rfl (lv_at hl 0 rfl) ?_
  refine W.objInit hx hb hown (hts (.methodLink RX0 5 objectInit) (by decide +kernel)) (hts (.instanceMethod objectInit) (by decide +kernel)) (hts (.code objectInit ⟨#[0xb1]⟩ 1 none) (by decide +kernel)) rfl (by rw [hml]; exact hl.1) rfl dX0_init_1 (Nat.le_of_ble_eq_true rfl) (Nat.le_of_ble_eq_true rfl) ?_
  refine lv_aload_n hx hb dX0_init_4 rfl (lv_at hl 0 rfl) ?_
  refine lv_iload_n hx hb dX0_init_5 rfl (lv_at hl 1 rfl) ?_
  refine mw_putF (ty := .int) (v := .int (nI 157)) (C := RX0) (T := TX0) (N := 4) hx hb hts in_X0_init_X0 tyX0 tyX0_ok nmX0 hown hK hP hS (mu_s _ _ _) rfl 1 (by decide) (hts (.fieldLink RX0 11 "OctagonDesk$Numbers" "sum" "I") (by decide +kernel)) (fun _ h9 => h9) rfl hin rfl (by decide +kernel) (by first | rfl | decide +kernel) (by first | rfl | decide +kernel) (Nat.le_of_ble_eq_true rfl) dX0_init_6 (fun H locs hP hS => ?_)
  have hP : mw G.1 vwCl B (mu μ h (.inr (0, [.int (nI 0), .int (nI 157), .null, .int (nI 0)]))) _ := mw_eq (mu_u _ _ _ _) hP
  refine lv_aload_n hx hb dX0_init_9 rfl (lv_at hl 0 rfl) ?_
  refine lv_iload_n hx hb dX0_init_10 rfl (lv_at hl 1 rfl) ?_
  refine lv_iconst (v := nI 1) hx hb dX0_init_11 (by decide) ?_
  refine nv_iadd hx hb dX0_init_12 ?_
  refine mw_putF (ty := .int) (v := .int (nI 158)) (C := RX0) (T := TX0) (N := 4) hx hb hts in_X0_init_X0 tyX0 tyX0_ok nmX0 hown hK hP hS (mu_s _ _ _) rfl 0 (by decide) (hts (.fieldLink RX0 15 "OctagonDesk$Numbers" "cells" "I") (by decide +kernel)) (fun _ h9 => h9) rfl hin rfl (by decide +kernel) (by first | rfl | decide +kernel) (by first | rfl | decide +kernel) (Nat.le_of_ble_eq_true rfl) dX0_init_13 (fun H locs hP hS => ?_)
  have hP : mw G.1 vwCl B (mu μ h (.inr (0, [.int (nI 158), .int (nI 157), .null, .int (nI 0)]))) _ := mw_eq (mu_u _ _ _ _) hP
  refine lv_aload_n hx hb dX0_init_16 rfl (lv_at hl 0 rfl) ?_
  refine lv_aload_n hx hb dX0_init_17 rfl (lv_at hl 0 rfl) ?_
  refine mw_get (C := RX0) (T := TX0) (N := 4) hx hb hts in_X0_init_X0 hown hK hP (mu_s _ _ _) rfl 0 (by decide) (hts (.fieldLink RX0 15 "OctagonDesk$Numbers" "cells" "I") (by decide +kernel)) (fun _ h9 => h9) rfl dX0_init_18 ?_
  refine mw_newa (n := 158) (a0 := (158, .inr (.inl (fun _ => 0)))) (atype := .long) (ty := .long) hx hb (hts (.arrayClass .long) (by decide +kernel)) rfl hK hP hS hBs 0 rfl (fun cA9 => vp0_J cA9 (158)) (by omega) (by show (158) * _ ≤ _; simp only [componentBytes]; omega) (Nat.le_of_ble_eq_true rfl) (Nat.le_of_ble_eq_true rfl) dX0_init_21 (fun q21 H hsq21 hzq21 hnq21 hP hS => ?_)
  have nqh_q21 : h ≠ q21 := mp_nn (mu_s _ _ _) hnq21
  have hP : mw G.1 vwCl B (mu (mu μ h (.inr (0, [.int (nI 158), .int (nI 157), .null, .int (nI 0)]))) q21 (.inl (G.2 0, 158, .inr (.inl (fun _ => 0))))) _ := hP
  refine mw_put (ty := .array .long) (v := .ref q21) (C := RX0) (T := TX0) (N := 4) hx hb hts in_X0_init_X0 tyX0 tyX0_ok nmX0 hown hK hP hS ((mu_n nqh_q21).trans (mu_s _ _ _)) rfl 2 (by decide) (hts (.fieldLink RX0 18 "OctagonDesk$Numbers" "limbs" "[J") (by decide +kernel)) (fun _ h9 => h9) rfl (by decide +kernel) (by first | rfl | decide +kernel) (by first | rfl | decide +kernel) (Nat.le_of_ble_eq_true rfl) dX0_init_23 (fun H locs hP hS => ?_)
  have hP : mw G.1 vwCl B (mu (mu μ h (.inr (0, [.int (nI 158), .int (nI 157), .ref q21, .int (nI 0)]))) q21 (.inl (G.2 0, 158, .inr (.inl (fun _ => 0))))) _ := mw_eq ((mu_c _ _ ((Ne.symm nqh_q21))).trans (congrArg (fun z => mu z q21 (.inl (G.2 0, 158, .inr (.inl (fun _ => 0))))) (mu_u _ _ _ _))) hP
  refine lv_aload_n hx hb dX0_init_26 rfl (lv_at hl 0 rfl) ?_
  refine lv_iconst (v := nI 0) hx hb dX0_init_27 (by decide) ?_
  refine mw_put (ty := .int) (v := .int (nI 0)) (C := RX0) (T := TX0) (N := 4) hx hb hts in_X0_init_X0 tyX0 tyX0_ok nmX0 hown hK hP hS ((mu_n nqh_q21).trans (mu_s _ _ _)) rfl 3 (by decide) (hts (.fieldLink RX0 22 "OctagonDesk$Numbers" "top" "I") (by decide +kernel)) (fun _ h9 => h9) rfl (by decide +kernel) (by first | rfl | decide +kernel) (by first | rfl | decide +kernel) (Nat.le_of_ble_eq_true rfl) dX0_init_28 (fun H locs hP hS => ?_)
  have hP : mw G.1 vwCl B (mu (mu μ h (.inr (0, [.int (nI 158), .int (nI 157), .ref q21, .int (nI 0)]))) q21 (.inl (G.2 0, 158, .inr (.inl (fun _ => 0))))) _ := mw_eq ((mu_c _ _ ((Ne.symm nqh_q21))).trans (congrArg (fun z => mu z q21 (.inl (G.2 0, 158, .inr (.inl (fun _ => 0))))) (mu_u _ _ _ _))) hP
  rw [hQ]
  refine W.widen (k := 1) (n := 158) (by omega) (by omega) ?_
  exact W.vret hx hb hr (fun t99 ht99 hW99 => ⟨⟨mu (mu μ h (.inr (0, [.int (nI 158), .int (nI 157), .ref q21, .int (nI 0)]))) q21 (.inl (G.2 0, 158, .inr (.inl (fun _ => 0)))), rfl, (⟨q21, (mu_none hnq21).2, (mu_none hnq21).1, rfl⟩), by show mw _ _ _ _ t99.heap; rw [ht99]; exact hP⟩, hS.F ht99⟩) hS.2.2 dX0_init_31

abbrev rm_X1_init : Room := { frames := 2, cells := 2, slots := 162, locals := 33 }
set_option maxHeartbeats 4000000 in
set_option maxRecDepth 100000 in
theorem c_X1_init (l : Launch) (G : GG) (B : Nat) (μ : mp) (h : Nat) (hh : μ h = some (.inr (1, [.null, .int (nI 0)]))) : Met l yX1_init wsX1_init rm_X1_init (va_Pc [.ref h] (KW G B μ)) (va_Qv (fun μ2 => ∃ hn la : Nat, μ hn = none ∧ μ la = none ∧ hn ≠ la ∧ hn ≠ h ∧ la ≠ h ∧ μ2 = mu (mu (mu μ h (.inr (1, [.ref hn, .int (nI 1)]))) hn (.inr (0, [.int (nI 158), .int (nI 157), .ref la, .int (nI (158 * 0))]))) la (.inl (G.2 0, 158 * 0 + 158, .inr (.inl (fun _ => 0))))) (BB G B) (fun q => B ≤ q)) 2 162 (fun q => B ≤ q) := by
  refine Met.ofW (cc := cX1_init) (maxL := 1) (ret := none) (by decide) rfl ?_
  intro p e s m args below meth c s₁ B9 hml hv
  obtain ⟨hargs, hBs, hP, hKK⟩ := hv
  have hx := B9.exec
  have hb := B9.bytes
  have hr := B9.returns
  have hts := atoms_spec (ws := wsX1_init) B9.pre
  have hown : s.vm.findClass RX1 = some m.cls := findClass_of_methodNamed B9.named
  have hlocks := B9.notSynchronized
  have hin : meth.name = "<init>" := (name_of_methodNamed B9.named B9.method).1
  have hK := hKK.k
  have hS : va_S (fun q => B ≤ q) s.heap s.heap [] := va_S.rf
  obtain ⟨Q, hQ⟩ : ∃ Q, Q = MQ below (va_Qv (fun μ2 => ∃ hn la : Nat, μ hn = none ∧ μ la = none ∧ hn ≠ la ∧ hn ≠ h ∧ la ≠ h ∧ μ2 = mu (mu (mu μ h (.inr (1, [.ref hn, .int (nI 1)]))) hn (.inr (0, [.int (nI 158), .int (nI 157), .ref la, .int (nI (158 * 0))]))) la (.inl (G.2 0, 158 * 0 + 158, .inr (.inl (fun _ => 0))))) (BB G B) (fun q => B ≤ q)) args s 2 162 (fun q => B ≤ q) := ⟨_, rfl⟩
  rw [← hQ]
  have in_X1_init_X0 : ∀ w ∈ wsX00, w ∈ wsX1_init := by decide +kernel
  have in_X1_init_X1 : ∀ w ∈ wsX10, w ∈ wsX1_init := by decide +kernel
  have hP : mw G.1 vwCl B (mu μ h (.inr (1, [.null, .int (nI 0)]))) s.heap := mw_eq (mu_i hh).symm hP
  have hl := lv_entry ([.ref h]) (n := 1) (Nat.le_of_ble_eq_true rfl)
  have he9 : entryFrame m args 1 = entryFrame m ([.ref h] : List Value).toArray 1 := by rw [hargs]
  rw [he9, lg_entry_eq]
  generalize (lg_sl ([.ref h]) ++ List.replicate (1 - (lg_sl ([.ref h])).length) Slot.unset).toArray = ls at hl ⊢
  have hl : lv_has ls 1 [(0, .ref h)] := hl
  refine lv_aload_n hx hb dX1_init_0 rfl (lv_at hl 0 rfl) ?_
  refine W.objInit hx hb hown (hts (.methodLink RX1 5 objectInit) (by decide +kernel)) (hts (.instanceMethod objectInit) (by decide +kernel)) (hts (.code objectInit ⟨#[0xb1]⟩ 1 none) (by decide +kernel)) rfl (by rw [hml]; exact hl.1) rfl dX1_init_1 (Nat.le_of_ble_eq_true rfl) (Nat.le_of_ble_eq_true rfl) ?_
  refine lv_aload_n hx hb dX1_init_4 rfl (lv_at hl 0 rfl) ?_
  refine mw_new (ci := 0) (fs := [.int (nI 0), .int (nI 0), .null, .int (nI 0)]) (C := RX0) (T := TX0) (N := 4) hx hb hts in_X1_init_X0 tyX0 tyX0_ok hown (hts (.classLink RX1 11 RX0) (by decide +kernel)) (hts (.instantiable RX0 4) (by decide +kernel)) (hts (.initialized RX0) (by decide +kernel)) hK hP hS hBs rfl (fun j hj => by rcases (show j = 0 ∨ j = 1 ∨ j = 2 ∨ j = 3 by omega) with rfl | rfl | rfl | rfl <;> rfl) (Nat.le_of_ble_eq_true rfl) (Nat.le_of_ble_eq_true rfl) dX1_init_5 (fun q5 H hsq5 hzq5 hnq5 hP hS => ?_)
  have nqh_q5 : h ≠ q5 := mp_nn (mu_s _ _ _) hnq5
  have hP : mw G.1 vwCl B (mu (mu μ h (.inr (1, [.null, .int (nI 0)]))) q5 (.inr (0, [.int (nI 0), .int (nI 0), .null, .int (nI 0)]))) _ := hP
  refine lv_dup hx hb dX1_init_8 rfl ?_
  refine lv_sipush (v := nI 157) hx hb dX1_init_9 (by decide) ?_
  refine kc_v (va_runI (As := [.int (nI 157)]) (rest := [.ref q5, .ref h]) ⟨hx, hb, hml, hown, hts⟩ (c_X0_init l G B (mu (mu μ h (.inr (1, [.null, .int (nI 0)]))) q5 (.inr (0, [.int (nI 0), .int (nI 0), .null, .int (nI 0)]))) q5 (mu_s _ _ _)) (cwI 1 hts gX1_init_X0_init rfl rfl rfl (hts (.initialized RX0) (by decide +kernel)) (hts (.methodLink RX1 13 yX0_init) (by decide +kernel)) (hts (.instanceMethod yX0_init) (by decide +kernel)) rfl (by decide +kernel) ⟨Nat.le_of_ble_eq_true rfl, Nat.le_of_ble_eq_true rfl⟩) ⟨KW.blind, fun U9 hU9 hW9 => ⟨rfl, KW.pre hBs hKK hS hP U9 hU9 hW9⟩⟩ rfl rfl hl.1 rfl (lv_room (Nat.le_of_ble_eq_true rfl)) dX1_init_12 ⟨(Nat.le_of_ble_eq_true rfl), (Nat.le_of_ble_eq_true rfl)⟩) hS (fun m12 H locs hq9 hP hz9 hS => ?_)
  obtain ⟨la12, hn12, -, rfl⟩ := hq9
  have nqh_la12 : h ≠ la12 := mp_nn ((mu_n nqh_q5).trans (mu_s _ _ _)) hn12
  have nqq5_la12 : q5 ≠ la12 := mp_nn (mu_s _ _ _) hn12
  have hP : mw G.1 vwCl B (mu (mu (mu μ h (.inr (1, [.null, .int (nI 0)]))) q5 (.inr (0, [.int (nI 158), .int (nI 157), .ref la12, .int (nI (158 * 0))]))) la12 (.inl (G.2 0, 158 * 0 + 158, .inr (.inl (fun _ => 0))))) _ := mw_eq (congrArg (fun z => mu z la12 (.inl (G.2 0, 158 * 0 + 158, .inr (.inl (fun _ => 0))))) (mu_u _ _ _ _)) hP
  refine mw_putF (ty := .object "OctagonDesk$Numbers") (v := .ref q5) (C := RX1) (T := TX1) (N := 2) hx hb hts in_X1_init_X1 tyX1 tyX1_ok nmX1 hown hK hP hS ((mu_n nqh_la12).trans ((mu_n nqh_q5).trans (mu_s _ _ _))) rfl 0 (by decide) (hts (.fieldLink RX1 16 "OctagonDesk$Shape" "numbers" "LOctagonDesk$Numbers;") (by decide +kernel)) (fun _ h9 => h9) rfl hin rfl (by decide +kernel) (by first | rfl | decide +kernel) (by first | rfl | decide +kernel) (Nat.le_of_ble_eq_true rfl) dX1_init_15 (fun H locs hP hS => ?_)
  have hP : mw G.1 vwCl B (mu (mu (mu μ h (.inr (1, [.ref q5, .int (nI 0)]))) q5 (.inr (0, [.int (nI 158), .int (nI 157), .ref la12, .int (nI (158 * 0))]))) la12 (.inl (G.2 0, 158 * 0 + 158, .inr (.inl (fun _ => 0))))) _ := mw_eq ((mu_c _ _ ((Ne.symm nqh_la12))).trans (congrArg (fun z => mu z la12 (.inl (G.2 0, 158 * 0 + 158, .inr (.inl (fun _ => 0))))) ((mu_c _ _ ((Ne.symm nqh_q5))).trans (congrArg (fun z => mu z q5 (.inr (0, [.int (nI 158), .int (nI 157), .ref la12, .int (nI (158 * 0))]))) (mu_u _ _ _ _))))) hP
  refine lv_aload_n hx hb dX1_init_18 rfl (lv_at hl 0 rfl) ?_
  refine lv_iconst (v := nI 1) hx hb dX1_init_19 (by decide) ?_
  refine mw_put (ty := .boolean) (v := .int (nI 1)) (C := RX1) (T := TX1) (N := 2) hx hb hts in_X1_init_X1 tyX1 tyX1_ok nmX1 hown hK hP hS ((mu_n nqh_la12).trans ((mu_n nqh_q5).trans (mu_s _ _ _))) rfl 1 (by decide) (hts (.fieldLink RX1 20 "OctagonDesk$Shape" "empty" "Z") (by decide +kernel)) (fun _ h9 => h9) rfl (by decide +kernel) (by first | rfl | decide) (by first | rfl | decide) (Nat.le_of_ble_eq_true rfl) dX1_init_20 (fun H locs hP hS => ?_)
  have hP : mw G.1 vwCl B (mu (mu (mu μ h (.inr (1, [.ref q5, .int (nI 1)]))) q5 (.inr (0, [.int (nI 158), .int (nI 157), .ref la12, .int (nI (158 * 0))]))) la12 (.inl (G.2 0, 158 * 0 + 158, .inr (.inl (fun _ => 0))))) _ := mw_eq ((mu_c _ _ ((Ne.symm nqh_la12))).trans (congrArg (fun z => mu z la12 (.inl (G.2 0, 158 * 0 + 158, .inr (.inl (fun _ => 0))))) ((mu_c _ _ ((Ne.symm nqh_q5))).trans (congrArg (fun z => mu z q5 (.inr (0, [.int (nI 158), .int (nI 157), .ref la12, .int (nI (158 * 0))]))) (mu_u _ _ _ _))))) hP
  rw [hQ]
  refine W.widen (k := 2) (n := 162) (by omega) (by omega) ?_
  exact W.vret hx hb hr (fun t99 ht99 hW99 => ⟨⟨mu (mu (mu μ h (.inr (1, [.ref q5, .int (nI 1)]))) q5 (.inr (0, [.int (nI 158), .int (nI 157), .ref la12, .int (nI (158 * 0))]))) la12 (.inl (G.2 0, 158 * 0 + 158, .inr (.inl (fun _ => 0)))), rfl, (⟨q5, la12, (mu_none hnq5).2, (mu_none (mu_none hn12).2).2, Ne.symm (mu_none hn12).1, (mu_none hnq5).1, (mu_none (mu_none hn12).2).1, rfl⟩), by show mw _ _ _ _ t99.heap; rw [ht99]; exact hP⟩, hS.F ht99⟩) hS.2.2 dX1_init_23

abbrev rm_J7_copyOf_c38d5 (n9 : Nat) : Room := { frames := 1, cells := 1, slots := 2 * n9, locals := 60 }
set_option maxHeartbeats 4000000 in
set_option maxRecDepth 100000 in
theorem c_J7_copyOf_c38d5 (l : Launch) (G : GG) (B : Nat) (μ : mp) (la n9 : Nat) (f : Nat → Int64) (ha : μ la = some (.inl (G.2 0, n9, .inr (.inl f)))) (h0n : 0 < n9) (hn9 : n9 < 200000) : Met l yJ7_copyOf_c38d5 wsJ7_copyOf_c38d5 (rm_J7_copyOf_c38d5 n9) (va_Pc [.ref la, .int (nI (2 * n9))] (KW G B μ)) (va_Qr (fun (_ : mp) => True) (fun μ2 ra t9 => (fun (μ2 : mp) (ra : Nat) => μ ra = none ∧ ∃ g9 : Nat → Int64, μ2 = mu μ ra (.inl (G.2 0, 2 * n9, .inr (.inl g9)))) μ2 ra ∧ BB G B μ2 t9) (fun q => B ≤ q)) 1 (2 * n9) (fun q => B ≤ q) := by
  refine Met.ofW (cc := cJ7_copyOf_c38d5) (maxL := 3) (ret := (some (.array .long))) (by decide) rfl ?_
  intro p e s m args below meth c s₁ B9 hml hv
  obtain ⟨hargs, hBs, hP, hKK⟩ := hv
  have hx := B9.exec
  have hb := B9.bytes
  have hr := B9.returns
  have hts := atoms_spec (ws := wsJ7_copyOf_c38d5) B9.pre
  have hown : s.vm.findClass RJ7 = some m.cls := findClass_of_methodNamed B9.named
  have hlocks := B9.notSynchronized
  have hK := hKK.k
  have hS : va_S (fun q => B ≤ q) s.heap s.heap [] := va_S.rf
  obtain ⟨Q, hQ⟩ : ∃ Q, Q = MQ below (va_Qr (fun (_ : mp) => True) (fun μ2 ra t9 => (fun (μ2 : mp) (ra : Nat) => μ ra = none ∧ ∃ g9 : Nat → Int64, μ2 = mu μ ra (.inl (G.2 0, 2 * n9, .inr (.inl g9)))) μ2 ra ∧ BB G B μ2 t9) (fun q => B ≤ q)) args s 1 (2 * n9) (fun q => B ≤ q) := ⟨_, rfl⟩
  rw [← hQ]
  have hl := lv_entry ([.ref la, .int (nI (2 * n9))]) (n := 3) (Nat.le_of_ble_eq_true rfl)
  have he9 : entryFrame m args 3 = entryFrame m ([.ref la, .int (nI (2 * n9))] : List Value).toArray 3 := by rw [hargs]
  rw [he9, lg_entry_eq]
  generalize (lg_sl ([.ref la, .int (nI (2 * n9))]) ++ List.replicate (3 - (lg_sl ([.ref la, .int (nI (2 * n9))])).length) Slot.unset).toArray = ls at hl ⊢
  have hl : lv_has ls 3 [(0, .ref la), (1, .int (nI (2 * n9)))] := hl
  refine lv_iload_n hx hb dJ7_copyOf_c38d5_0 rfl (lv_at hl 1 rfl) ?_
  refine lv_aload_n hx hb dJ7_copyOf_c38d5_1 rfl (lv_at hl 0 rfl) ?_
  refine mw_alen hx hb hK hP 0 (ha) rfl dJ7_copyOf_c38d5_2 ?_
  refine nv_icmp_ne (tgt := 14) hx hb (by omega) (by omega) dJ7_copyOf_c38d5_3 (by decide) (fun hc3 => ?_) (fun hc3 => ?_)
  · refine lv_iload_n hx hb dJ7_copyOf_c38d5_14 rfl (lv_at hl 1 rfl) ?_
    refine mw_newa (n := 2 * n9) (a0 := (2 * n9, .inr (.inl (fun _ => 0)))) (atype := .long) (ty := .long) hx hb (hts (.arrayClass .long) (by decide +kernel)) rfl hK hP hS hBs 0 rfl (fun cA9 => vp0_J cA9 (2 * n9)) (by omega) (by show (2 * n9) * _ ≤ _; simp only [componentBytes]; omega) (Nat.le_of_ble_eq_true rfl) (Nat.le_trans (m := 2 * n9) (by omega) (Nat.le_refl _)) dJ7_copyOf_c38d5_15 (fun q15 H hsq15 hzq15 hnq15 hP hS => ?_)
    have nqla_q15 : la ≠ q15 := mp_nn (ha) hnq15
    have hP : mw G.1 vwCl B (mu μ q15 (.inl (G.2 0, 2 * n9, .inr (.inl (fun _ => 0))))) _ := hP
    refine lv_astore_n (lv' := [(2, .ref q15), (0, .ref la), (1, .int (nI (2 * n9)))]) hx hb dJ7_copyOf_c38d5_17 rfl hl (by decide) rfl (fun ls hl => ?_)
    refine lv_aload_n hx hb dJ7_copyOf_c38d5_18 rfl (lv_at hl 1 rfl) ?_
    refine lv_iconst (v := nI 0) hx hb dJ7_copyOf_c38d5_19 (by decide) ?_
    refine lv_aload_n hx hb dJ7_copyOf_c38d5_20 rfl (lv_at hl 0 rfl) ?_
    refine lv_iconst (v := nI 0) hx hb dJ7_copyOf_c38d5_21 (by decide) ?_
    refine lv_aload_n hx hb dJ7_copyOf_c38d5_22 rfl (lv_at hl 1 rfl) ?_
    refine mw_alen hx hb hK hP 0 ((mu_n nqla_q15).trans (ha)) rfl dJ7_copyOf_c38d5_23 ?_
    refine lv_iload_n hx hb dJ7_copyOf_c38d5_24 rfl (lv_at hl 2 rfl) ?_
    refine va_mmin hx hb (hml.trans hl.1.symm) hown (hts (.methodLink RJ7 304 Lib.Math.min.name) (by decide +kernel)) (hts (.static Lib.Math.min.name) (by decide +kernel)) (hts (.initialized "java/lang/Math") (by decide +kernel)) (hts (.code Lib.Math.min.name Lib.Math.min.code 2 (some .int)) (by decide +kernel)) (Nat.le_of_ble_eq_true rfl) (Nat.le_of_ble_eq_true rfl) (Nat.le_of_ble_eq_true rfl) (Nat.le_trans (m := 2 * n9) (by omega) (Nat.le_refl _)) dJ7_copyOf_c38d5_25 ?_
    refine nv_eqi (y := nI n9) (if_neg (nI_nlt (by omega) (by omega))) ?_
    refine mw_copyl hx hb (hml.trans hl.1.symm) hown (hts (.methodLink RJ7 150 arraycopyName) (by decide +kernel)) (hts (.native arraycopyName) (by decide +kernel)) (hts (.static arraycopyName) (by decide +kernel)) (hts (.initialized "java/lang/System") (by decide +kernel)) hK hP hS 0 0 ((mu_n nqla_q15).trans (ha)) (mu_s _ _ _) rfl rfl (by omega) (by omega) (by omega) (Nat.le_of_ble_eq_true rfl) (Nat.le_of_ble_eq_true rfl) dJ7_copyOf_c38d5_28 (fun H locs hP hS => ?_)
    have hP : mw G.1 vwCl B (mu μ q15 (.inl (G.2 0, 2 * n9, .inr (.inl (va_cpy f (fun _ => 0) 0 0 n9))))) _ := mw_eq (mu_u _ _ _ _) hP
    refine lv_aload_n hx hb dJ7_copyOf_c38d5_31 rfl (lv_at hl 0 rfl) ?_
    rw [hQ]
    refine W.widen (k := 1) (n := 2 * n9) (by omega) (by omega) ?_
    exact W.aret (v := .ref q15) hx hb hr (Or.inr ⟨_, rfl⟩) (Or.inr ⟨_, rfl⟩) (fun t99 ht99 hW99 => ⟨⟨mu μ q15 (.inl (G.2 0, 2 * n9, .inr (.inl (va_cpy f (fun _ => 0) 0 0 n9)))), q15, rfl, trivial, (⟨hnq15, _, rfl⟩), by show mw _ _ _ _ t99.heap; rw [ht99]; exact hP⟩, hS.F ht99⟩) hS.2.2 dJ7_copyOf_c38d5_32
  · exact absurd hc3 (by omega)

abbrev rm_X0_extend : Room := { frames := 1, cells := 0, slots := 0, locals := 22 }
set_option maxHeartbeats 4000000 in
set_option maxRecDepth 100000 in
theorem c_X0_extend (l : Launch) (G : GG) (B : Nat) (μ : mp) (h la k : Nat) (f : Nat → Int64) (i j0 : Nat) (hh : μ h = some (.inr (0, [.int (nI 158), .int (nI 157), .ref la, .int (nI (158 * k))]))) (ha : μ la = some (.inl (G.2 0, 158 * k + 158, .inr (.inl f)))) (hk : k ≤ 1022) (hi : i < 158) (hj0 : j0 ≤ k) : Met l yX0_extend wsX0_extend rm_X0_extend (va_Pc [.ref h, .int (nI i), .int (nI (158 * j0))] (KW G B μ)) (va_Qv (fun μ2 => ∃ g9 : Nat → Int64, μ2 = mu μ la (.inl (G.2 0, 158 * k + 158, .inr (.inl g9)))) (BB G B) (fun q => B ≤ q)) 0 0 (fun q => B ≤ q) := by
  refine Met.ofW (cc := cX0_extend) (maxL := 6) (ret := none) (by decide) rfl ?_
  intro p e s m args below meth c s₁ B9 hml hv
  obtain ⟨hargs, hBs, hP, hKK⟩ := hv
  have hx := B9.exec
  have hb := B9.bytes
  have hr := B9.returns
  have hts := atoms_spec (ws := wsX0_extend) B9.pre
  have hown : s.vm.findClass RX0 = some m.cls := findClass_of_methodNamed B9.named
  have hlocks := B9.notSynchronized
  have hK := hKK.k
  have hS : va_S (fun q => B ≤ q) s.heap s.heap [] := va_S.rf
  obtain ⟨Q, hQ⟩ : ∃ Q, Q = MQ below (va_Qv (fun μ2 => ∃ g9 : Nat → Int64, μ2 = mu μ la (.inl (G.2 0, 158 * k + 158, .inr (.inl g9)))) (BB G B) (fun q => B ≤ q)) args s 0 0 (fun q => B ≤ q) := ⟨_, rfl⟩
  rw [← hQ]
  have ne0_1 : h ≠ la := mp_ne hh ha (by simp)
  have in_X0_extend_X0 : ∀ w ∈ wsX00, w ∈ wsX0_extend := by decide +kernel
  have hP : mw G.1 vwCl B (mu μ la (.inl (G.2 0, 158 * k + 158, .inr (.inl f)))) s.heap := mw_eq (mu_i ha).symm hP
  have L26 : ∀ (N26 : Nat) (a : Nat) (q : Nat) (x : Int64) (g1 : Nat → Int64) (hN26 : k - q < N26) (ha4 : a = 158 * q) (hq : q ≤ k), ∀ (H : Heap) (locs : List Loc), mw G.1 vwCl B (mu μ la (.inl (G.2 0, 158 * k + 158, .inr (.inl g1)))) H → va_S (fun q => B ≤ q) s.heap H locs → ∀ ls : Array Slot, lv_has ls 6 [(0, .ref h), (1, .int (nI i)), (3, .long x), (5, .int (nI a))] → W p l e rm_X0_extend s m args below meth c H locs 0 0 Q (F0 m 26 ls []) := by
    intro N26
    induction N26 with
    | zero => intro a q x g1 hN26; exact absurd hN26 (Nat.not_lt_zero _)
    | succ N26 ih26 =>
      intro a q x g1 hN26 ha4 hq H locs hP hS ls hl
      refine lv_iload hx hb dX0_extend_26 (lv_at hl 3 rfl) ?_
      refine lv_aload_n hx hb dX0_extend_28 rfl (lv_at hl 0 rfl) ?_
      refine mw_get (C := RX0) (T := TX0) (N := 4) hx hb hts in_X0_extend_X0 hown hK hP ((mu_n ne0_1).trans (hh)) rfl 3 (by decide) (hts (.fieldLink RX0 22 "OctagonDesk$Numbers" "top" "I") (by decide +kernel)) (fun _ h9 => h9) rfl dX0_extend_29 ?_
      refine nv_icmp_ge (tgt := 66) hx hb (by omega) (by omega) dX0_extend_32 (by decide) (fun hc32 => ?_) (fun hc32 => ?_)
      · refine lv_aload_n hx hb dX0_extend_66 rfl (lv_at hl 0 rfl) ?_
        refine mw_get (C := RX0) (T := TX0) (N := 4) hx hb hts in_X0_extend_X0 hown hK hP ((mu_n ne0_1).trans (hh)) rfl 2 (by decide) (hts (.fieldLink RX0 18 "OctagonDesk$Numbers" "limbs" "[J") (by decide +kernel)) (fun _ h9 => h9) rfl dX0_extend_67 ?_
        refine lv_aload_n hx hb dX0_extend_70 rfl (lv_at hl 0 rfl) ?_
        refine mw_get (C := RX0) (T := TX0) (N := 4) hx hb hts in_X0_extend_X0 hown hK hP ((mu_n ne0_1).trans (hh)) rfl 3 (by decide) (hts (.fieldLink RX0 22 "OctagonDesk$Numbers" "top" "I") (by decide +kernel)) (fun _ h9 => h9) rfl dX0_extend_71 ?_
        refine lv_iload_n hx hb dX0_extend_74 rfl (lv_at hl 1 rfl) ?_
        refine nv_iadd hx hb dX0_extend_75 ?_
        refine lv_lload_n hx hb dX0_extend_76 rfl (lv_at hl 2 rfl) ?_
        refine mw_last hx hb hK hP hS 0 (mu_s _ _ _) rfl (by omega) (by omega) dX0_extend_77 (fun H locs hP hS => ?_)
        have hP : mw G.1 vwCl B (mu μ la (.inl (G.2 0, 158 * k + 158, .inr (.inl (vp_updL g1 ((158 * k) + i) x))))) _ := mw_eq (mu_u _ _ _ _) hP
        rw [hQ]
        exact W.vret hx hb hr (fun t99 ht99 hW99 => ⟨⟨mu μ la (.inl (G.2 0, 158 * k + 158, .inr (.inl (vp_updL g1 ((158 * k) + i) x)))), rfl, (⟨_, rfl⟩), by show mw _ _ _ _ t99.heap; rw [ht99]; exact hP⟩, hS.F ht99⟩) hS.2.2 dX0_extend_78
      · refine lv_aload_n hx hb dX0_extend_35 rfl (lv_at hl 0 rfl) ?_
        refine mw_get (C := RX0) (T := TX0) (N := 4) hx hb hts in_X0_extend_X0 hown hK hP ((mu_n ne0_1).trans (hh)) rfl 2 (by decide) (hts (.fieldLink RX0 18 "OctagonDesk$Numbers" "limbs" "[J") (by decide +kernel)) (fun _ h9 => h9) rfl dX0_extend_36 ?_
        refine lv_iload hx hb dX0_extend_39 (lv_at hl 3 rfl) ?_
        refine lv_iload_n hx hb dX0_extend_41 rfl (lv_at hl 1 rfl) ?_
        refine nv_iadd hx hb dX0_extend_42 ?_
        refine lv_lload_n hx hb dX0_extend_43 rfl (lv_at hl 2 rfl) ?_
        refine lv_ldc2 (v := (1152921504606846975)) hx hb hown (hts (.constantLong RX0 39 (1152921504606846975)) (by decide +kernel)) dX0_extend_44 ?_
        refine lv_land hx hb dX0_extend_47 ?_
        refine lv_topl (fun v48 ev48 => ?_)
        refine mw_last hx hb hK hP hS 0 (mu_s _ _ _) rfl (by omega) (by omega) dX0_extend_48 (fun H locs hP hS => ?_)
        have hP : mw G.1 vwCl B (mu μ la (.inl (G.2 0, 158 * k + 158, .inr (.inl (vp_updL g1 (a + i) v48))))) _ := mw_eq (mu_u _ _ _ _) hP
        refine lv_lload_n hx hb dX0_extend_49 rfl (lv_at hl 2 rfl) ?_
        refine lv_bipush (v := nI 60) hx hb dX0_extend_50 (by decide) ?_
        refine lv_lshr (v := x >>> ((nI 60).toInt64 &&& 63)) hx hb dX0_extend_52 rfl ?_
        refine lv_topl (fun v53 ev53 => ?_)
        refine lv_lstore_n (lv' := [(3, .long v53), (0, .ref h), (1, .int (nI i)), (5, .int (nI a))]) hx hb dX0_extend_53 rfl hl (by decide) rfl (fun ls hl => ?_)
        refine lv_iload hx hb dX0_extend_54 (lv_at hl 3 rfl) ?_
        refine lv_aload_n hx hb dX0_extend_56 rfl (lv_at hl 1 rfl) ?_
        refine mw_get (C := RX0) (T := TX0) (N := 4) hx hb hts in_X0_extend_X0 hown hK hP ((mu_n ne0_1).trans (hh)) rfl 0 (by decide) (hts (.fieldLink RX0 15 "OctagonDesk$Numbers" "cells" "I") (by decide +kernel)) (fun _ h9 => h9) rfl dX0_extend_57 ?_
        refine nv_iadd hx hb dX0_extend_60 ?_
        refine lv_istore (lv' := [(5, .int (nI (a + 158))), (3, .long v53), (0, .ref h), (1, .int (nI i))]) hx hb dX0_extend_61 hl (by decide) rfl (fun ls hl => ?_)
        refine lv_goto (tgt := 26) hx hb dX0_extend_63 (by decide) ?_
        exact ih26 (a + 158) (q + 1) v53 (vp_updL g1 (a + i) v48) (by omega) (by omega) (by omega) _ _ hP hS ls (lv_sub hl [2, 3, 1, 0] rfl)
  have hl := lv_entry ([.ref h, .int (nI i), .int (nI (158 * j0))]) (n := 6) (Nat.le_of_ble_eq_true rfl)
  have he9 : entryFrame m args 6 = entryFrame m ([.ref h, .int (nI i), .int (nI (158 * j0))] : List Value).toArray 6 := by rw [hargs]
  rw [he9, lg_entry_eq]
  generalize (lg_sl ([.ref h, .int (nI i), .int (nI (158 * j0))]) ++ List.replicate (6 - (lg_sl ([.ref h, .int (nI i), .int (nI (158 * j0))])).length) Slot.unset).toArray = ls at hl ⊢
  have hl : lv_has ls 6 [(0, .ref h), (1, .int (nI i)), (2, .int (nI (158 * j0)))] := hl
  refine lv_aload_n hx hb dX0_extend_0 rfl (lv_at hl 0 rfl) ?_
  refine mw_get (C := RX0) (T := TX0) (N := 4) hx hb hts in_X0_extend_X0 hown hK hP ((mu_n ne0_1).trans (hh)) rfl 2 (by decide) (hts (.fieldLink RX0 18 "OctagonDesk$Numbers" "limbs" "[J") (by decide +kernel)) (fun _ h9 => h9) rfl dX0_extend_1 ?_
  refine lv_iload_n hx hb dX0_extend_4 rfl (lv_at hl 2 rfl) ?_
  refine lv_iload_n hx hb dX0_extend_5 rfl (lv_at hl 1 rfl) ?_
  refine nv_iadd hx hb dX0_extend_6 ?_
  refine mw_lald hx hb hK hP 0 (mu_s _ _ _) rfl (by omega) (by omega) dX0_extend_7 ?_
  refine lv_topl (fun v8 ev8 => ?_)
  refine lv_lstore_n (lv' := [(3, .long v8), (0, .ref h), (1, .int (nI i)), (2, .int (nI (158 * j0)))]) hx hb dX0_extend_8 rfl hl (by decide) rfl (fun ls hl => ?_)
  refine lv_lload_n hx hb dX0_extend_9 rfl (lv_at hl 0 rfl) ?_
  refine lv_ldc2 (v := (9223372036854775807)) hx hb hown (hts (.constantLong RX0 25 (9223372036854775807)) (by decide +kernel)) dX0_extend_10 ?_
  refine nl_if_ne (tgt := 23) hx hb dX0_extend_13 dX0_extend_14 (by decide) (fun hc13 => ?_) (fun hc13 => ?_)
  · refine lv_iload_n hx hb dX0_extend_23 rfl (lv_at hl 3 rfl) ?_
    refine lv_istore (lv' := [(5, .int (nI (158 * j0))), (3, .long v8), (0, .ref h), (1, .int (nI i)), (2, .int (nI (158 * j0)))]) hx hb dX0_extend_24 hl (by decide) rfl (fun ls hl => ?_)
    exact L26 _ (158 * j0) j0 v8 f (Nat.lt_succ_self _) (by omega) (by omega) _ _ hP hS ls (lv_sub hl [2, 3, 1, 0] rfl)
  · refine lv_aload_n hx hb dX0_extend_17 rfl (lv_at hl 1 rfl) ?_
    refine lv_iload_n hx hb dX0_extend_18 rfl (lv_at hl 2 rfl) ?_
    refine kc_v (va_runV (As := [.int (nI i)]) (rest := []) ⟨hx, hb, hml, hown, hts⟩ (c_X0_setInfinite l G B (mu μ la (.inl (G.2 0, 158 * k + 158, .inr (.inl f)))) h la k f i ((mu_n ne0_1).trans (hh)) (mu_s _ _ _) (by omega) (by omega)) (cwV 1 hts gX0_extend_X0_setInfinite rfl rfl rfl (by decide +kernel) ⟨Nat.le_of_ble_eq_true rfl, Nat.le_of_ble_eq_true rfl⟩) ⟨KW.blind, hP.recv hK rfl ((mu_n ne0_1).trans (hh)), fun U9 hU9 hW9 => ⟨rfl, KW.pre hBs hKK hS hP U9 hU9 hW9⟩⟩ rfl rfl hl.1 rfl (lv_room (Nat.le_of_ble_eq_true rfl)) dX0_extend_19 ⟨(Nat.le_of_ble_eq_true rfl), (Nat.le_of_ble_eq_true rfl)⟩) hS (fun m19 H locs hq9 hP hz9 hS => ?_)
    obtain ⟨g19, rfl, hg19⟩ := hq9
    have hP : mw G.1 vwCl B (mu μ la (.inl (G.2 0, 158 * k + 158, .inr (.inl g19)))) _ := mw_eq (mu_u _ _ _ _) hP
    rw [hQ]
    exact W.vret hx hb hr (fun t99 ht99 hW99 => ⟨⟨mu μ la (.inl (G.2 0, 158 * k + 158, .inr (.inl g19))), rfl, (⟨_, rfl⟩), by show mw _ _ _ _ t99.heap; rw [ht99]; exact hP⟩, hS.F ht99⟩) hS.2.2 dX0_extend_22

abbrev rm_X0_growTwofold (k : Nat) : Room := { frames := 2, cells := 1, slots := 2 * (158 * k + 158), locals := 82 }
set_option maxHeartbeats 4000000 in
set_option maxRecDepth 100000 in
theorem c_X0_growTwofold (l : Launch) (G : GG) (B : Nat) (μ : mp) (h la k : Nat) (f : Nat → Int64) (hh : μ h = some (.inr (0, [.int (nI 158), .int (nI 157), .ref la, .int (nI (158 * k))]))) (ha : μ la = some (.inl (G.2 0, 158 * k + 158, .inr (.inl f)))) (hk : k ≤ 1022) : Met l yX0_growTwofold wsX0_growTwofold (rm_X0_growTwofold k) (va_Pc [.ref h] (KW G B μ)) (va_Qv (fun μ2 => ∃ (la9 k9 : Nat) (g9 : Nat → Int64), μ2 = mu (mu μ h (.inr (0, [.int (nI 158), .int (nI 157), .ref la9, .int (nI (158 * k9))]))) la9 (.inl (G.2 0, 158 * k9 + 158, .inr (.inl g9))) ∧ k9 ≤ 1022 ∧ (la9 = la ∨ μ la9 = none) ∧ k9 = gr k) (BB G B) (fun q => B ≤ q)) 1 (2 * (158 * k + 158)) (fun q => B ≤ q) := by
  refine Met.ofW (cc := cX0_growTwofold) (maxL := 3) (ret := none) (by decide) rfl ?_
  intro p e s m args below meth c s₁ B9 hml hv
  obtain ⟨hargs, hBs, hP, hKK⟩ := hv
  have hx := B9.exec
  have hb := B9.bytes
  have hr := B9.returns
  have hts := atoms_spec (ws := wsX0_growTwofold) B9.pre
  have hown : s.vm.findClass RX0 = some m.cls := findClass_of_methodNamed B9.named
  have hlocks := B9.notSynchronized
  have hK := hKK.k
  have hS : va_S (fun q => B ≤ q) s.heap s.heap [] := va_S.rf
  obtain ⟨Q, hQ⟩ : ∃ Q, Q = MQ below (va_Qv (fun μ2 => ∃ (la9 k9 : Nat) (g9 : Nat → Int64), μ2 = mu (mu μ h (.inr (0, [.int (nI 158), .int (nI 157), .ref la9, .int (nI (158 * k9))]))) la9 (.inl (G.2 0, 158 * k9 + 158, .inr (.inl g9))) ∧ k9 ≤ 1022 ∧ (la9 = la ∨ μ la9 = none) ∧ k9 = gr k) (BB G B) (fun q => B ≤ q)) args s 1 (2 * (158 * k + 158)) (fun q => B ≤ q) := ⟨_, rfl⟩
  rw [← hQ]
  have ne0_1 : h ≠ la := mp_ne hh ha (by simp)
  have in_X0_growTwofold_X0 : ∀ w ∈ wsX00, w ∈ wsX0_growTwofold := by decide +kernel
  have hP : mw G.1 vwCl B (mu μ h (.inr (0, [.int (nI 158), .int (nI 157), .ref la, .int (nI (158 * k))]))) s.heap := mw_eq (mu_i hh).symm hP
  have L56 : ∀ (N56 : Nat) (i1 : Nat) (q9 : Nat) (g1 : Nat → Int64) (hN56 : 158 - i1 < N56) (hi : i1 ≤ 158) (hk2 : k + 1 < 512) (hqn : μ q9 = none), ∀ (H : Heap) (locs : List Loc), mw G.1 vwCl B (mu (mu μ h (.inr (0, [.int (nI 158), .int (nI 157), .ref q9, .int (nI (158 * (2 * k + 1)))]))) q9 (.inl (G.2 0, 158 * (2 * k + 1) + 158, .inr (.inl g1)))) H → va_S (fun q => B ≤ q) s.heap H locs → ∀ ls : Array Slot, lv_has ls 3 [(0, .ref h), (1, .int (nI (158 * k))), (2, .int (nI i1))] → W p l e (rm_X0_growTwofold k) s m args below meth c H locs 1 (2 * (158 * k + 158)) Q (F0 m 56 ls []) := by
    intro N56
    induction N56 with
    | zero => intro i1 q9 g1 hN56; exact absurd hN56 (Nat.not_lt_zero _)
    | succ N56 ih56 =>
      intro i1 q9 g1 hN56 hi hk2 hqn H locs hP hS ls hl
      refine lv_iload_n hx hb dX0_growTwofold_56 rfl (lv_at hl 2 rfl) ?_
      refine lv_aload_n hx hb dX0_growTwofold_57 rfl (lv_at hl 0 rfl) ?_
      refine mw_get (C := RX0) (T := TX0) (N := 4) hx hb hts in_X0_growTwofold_X0 hown hK hP ((mu_n ((mp_nn hh hqn))).trans (mu_s _ _ _)) rfl 0 (by decide) (hts (.fieldLink RX0 15 "OctagonDesk$Numbers" "cells" "I") (by decide +kernel)) (fun _ h9 => h9) rfl dX0_growTwofold_58 ?_
      refine nv_icmp_ge (tgt := 76) hx hb (by omega) (by omega) dX0_growTwofold_61 (by decide) (fun hc61 => ?_) (fun hc61 => ?_)
      · rw [hQ]
        refine W.widen (k := 1) (n := 2 * (158 * k + 158)) (by omega) (by omega) ?_
        exact W.vret hx hb hr (fun t99 ht99 hW99 => ⟨⟨mu (mu μ h (.inr (0, [.int (nI 158), .int (nI 157), .ref q9, .int (nI (158 * (2 * k + 1)))]))) q9 (.inl (G.2 0, 158 * (2 * k + 1) + 158, .inr (.inl g1))), rfl, (⟨q9, 2 * k + 1, _, rfl, by omega, Or.inr hqn, by rw [gr, if_pos hk2]⟩), by show mw _ _ _ _ t99.heap; rw [ht99]; exact hP⟩, hS.F ht99⟩) hS.2.2 dX0_growTwofold_76
      · refine lv_aload_n hx hb dX0_growTwofold_64 rfl (lv_at hl 0 rfl) ?_
        refine lv_iload_n hx hb dX0_growTwofold_65 rfl (lv_at hl 2 rfl) ?_
        refine lv_iload_n hx hb dX0_growTwofold_66 rfl (lv_at hl 1 rfl) ?_
        refine kc_v (va_runV (As := [.int (nI i1), .int (nI (158 * k))]) (rest := []) ⟨hx, hb, hml, hown, hts⟩ (c_X0_extend l G B (mu (mu μ h (.inr (0, [.int (nI 158), .int (nI 157), .ref q9, .int (nI (158 * (2 * k + 1)))]))) q9 (.inl (G.2 0, 158 * (2 * k + 1) + 158, .inr (.inl g1)))) h q9 ((2 * k + 1)) g1 i1 k ((mu_n ((mp_nn hh hqn))).trans (mu_s _ _ _)) (mu_s _ _ _) (by omega) (by omega) (by omega)) (cwV 2 hts gX0_growTwofold_X0_extend rfl rfl rfl (by decide +kernel) ⟨Nat.le_of_ble_eq_true rfl, Nat.le_of_ble_eq_true rfl⟩) ⟨KW.blind, hP.recv hK rfl ((mu_n ((mp_nn hh hqn))).trans (mu_s _ _ _)), fun U9 hU9 hW9 => ⟨rfl, KW.pre hBs hKK hS hP U9 hU9 hW9⟩⟩ rfl rfl hl.1 rfl (lv_room (Nat.le_of_ble_eq_true rfl)) dX0_growTwofold_67 ⟨(Nat.le_of_ble_eq_true rfl), (Nat.le_trans (m := 2 * (158 * k + 158)) (by omega) (Nat.le_refl _))⟩) hS (fun m67 H locs hq9 hP hz9 hS => ?_)
        obtain ⟨g67, rfl⟩ := hq9
        have hP : mw G.1 vwCl B (mu (mu μ h (.inr (0, [.int (nI 158), .int (nI 157), .ref q9, .int (nI (158 * (2 * k + 1)))]))) q9 (.inl (G.2 0, 158 * (2 * k + 1) + 158, .inr (.inl g67)))) _ := mw_eq (mu_u _ _ _ _) hP
        refine lv_iinc (v := nI (i1 + 1)) (lv' := [(2, .int (nI (i1 + 1))), (0, .ref h), (1, .int (nI (158 * k)))]) hx hb dX0_growTwofold_70 hl (k := 2) rfl (nI_add _ _) (by decide) rfl (fun ls hl => ?_)
        refine lv_goto (tgt := 56) hx hb dX0_growTwofold_73 (by decide) ?_
        refine W.widen (k := 1) (n := 2 * (158 * k + 158)) (by omega) (by omega) ?_
        exact ih56 (i1 + 1) q9 g67 (by omega) (by omega) (by omega) (hqn) _ _ hP hS ls (lv_sub hl [1, 2, 0] rfl)
  have hl := lv_entry ([.ref h]) (n := 3) (Nat.le_of_ble_eq_true rfl)
  have he9 : entryFrame m args 3 = entryFrame m ([.ref h] : List Value).toArray 3 := by rw [hargs]
  rw [he9, lg_entry_eq]
  generalize (lg_sl ([.ref h]) ++ List.replicate (3 - (lg_sl ([.ref h])).length) Slot.unset).toArray = ls at hl ⊢
  have hl : lv_has ls 3 [(0, .ref h)] := hl
  refine lv_aload_n hx hb dX0_growTwofold_0 rfl (lv_at hl 0 rfl) ?_
  refine mw_get (C := RX0) (T := TX0) (N := 4) hx hb hts in_X0_growTwofold_X0 hown hK hP (mu_s _ _ _) rfl 2 (by decide) (hts (.fieldLink RX0 18 "OctagonDesk$Numbers" "limbs" "[J") (by decide +kernel)) (fun _ h9 => h9) rfl dX0_growTwofold_1 ?_
  refine mw_alen hx hb hK hP 0 ((mu_n ((Ne.symm ne0_1))).trans (ha)) rfl dX0_growTwofold_4 ?_
  refine lv_sipush (v := nI 512) hx hb dX0_growTwofold_5 (by decide) ?_
  refine lv_aload_n hx hb dX0_growTwofold_8 rfl (lv_at hl 0 rfl) ?_
  refine mw_get (C := RX0) (T := TX0) (N := 4) hx hb hts in_X0_growTwofold_X0 hown hK hP (mu_s _ _ _) rfl 0 (by decide) (hts (.fieldLink RX0 15 "OctagonDesk$Numbers" "cells" "I") (by decide +kernel)) (fun _ h9 => h9) rfl dX0_growTwofold_9 ?_
  refine nv_imul hx hb dX0_growTwofold_12 ?_
  refine nv_icmp_lt (tgt := 17) hx hb (by omega) (by omega) dX0_growTwofold_13 (by decide) (fun hc13 => ?_) (fun hc13 => ?_)
  · refine lv_aload_n hx hb dX0_growTwofold_17 rfl (lv_at hl 0 rfl) ?_
    refine mw_get (C := RX0) (T := TX0) (N := 4) hx hb hts in_X0_growTwofold_X0 hown hK hP (mu_s _ _ _) rfl 3 (by decide) (hts (.fieldLink RX0 22 "OctagonDesk$Numbers" "top" "I") (by decide +kernel)) (fun _ h9 => h9) rfl dX0_growTwofold_18 ?_
    refine lv_istore_n (lv' := [(1, .int (nI (158 * k))), (0, .ref h)]) hx hb dX0_growTwofold_21 rfl hl (by decide) rfl (fun ls hl => ?_)
    refine lv_aload_n hx hb dX0_growTwofold_22 rfl (lv_at hl 1 rfl) ?_
    refine lv_aload_n hx hb dX0_growTwofold_23 rfl (lv_at hl 1 rfl) ?_
    refine mw_get (C := RX0) (T := TX0) (N := 4) hx hb hts in_X0_growTwofold_X0 hown hK hP (mu_s _ _ _) rfl 2 (by decide) (hts (.fieldLink RX0 18 "OctagonDesk$Numbers" "limbs" "[J") (by decide +kernel)) (fun _ h9 => h9) rfl dX0_growTwofold_24 ?_
    refine lv_iconst (v := nI 2) hx hb dX0_growTwofold_27 (by decide) ?_
    refine lv_aload_n hx hb dX0_growTwofold_28 rfl (lv_at hl 1 rfl) ?_
    refine mw_get (C := RX0) (T := TX0) (N := 4) hx hb hts in_X0_growTwofold_X0 hown hK hP (mu_s _ _ _) rfl 2 (by decide) (hts (.fieldLink RX0 18 "OctagonDesk$Numbers" "limbs" "[J") (by decide +kernel)) (fun _ h9 => h9) rfl dX0_growTwofold_29 ?_
    refine mw_alen hx hb hK hP 0 ((mu_n ((Ne.symm ne0_1))).trans (ha)) rfl dX0_growTwofold_32 ?_
    refine nv_imul hx hb dX0_growTwofold_33 ?_
    refine kc_r (va_runS (As := [.ref la, .int (nI (2 * (158 * k + 158)))]) (rest := [.ref h]) ⟨hx, hb, hml, hown, hts⟩ (c_J7_copyOf_c38d5 l G B (mu μ h (.inr (0, [.int (nI 158), .int (nI 157), .ref la, .int (nI (158 * k))]))) la (158 * k + 158) f ((mu_n ((Ne.symm ne0_1))).trans (ha)) (by omega) (by omega)) (va_cwS 2 hts gX0_growTwofold_J7_copyOf_c38d5 rfl rfl rfl (by decide +kernel) ⟨Nat.le_of_ble_eq_true rfl, Nat.le_of_ble_eq_true rfl⟩) ⟨KW.blind, fun U9 hU9 hW9 => ⟨rfl, KW.pre hBs hKK hS hP U9 hU9 hW9⟩⟩ rfl rfl hl.1 rfl (lv_room (Nat.le_of_ble_eq_true rfl)) dX0_growTwofold_34 ⟨(Nat.le_of_ble_eq_true rfl), (Nat.le_trans (m := 2 * (158 * k + 158)) (by omega) (Nat.le_refl _))⟩) hS (fun m34 r34 H locs hq9 hP hz9 hS => ?_)
    obtain ⟨hn34, g34, rfl⟩ := hq9
    have nqh_r34 : h ≠ r34 := mp_nn (mu_s _ _ _) hn34
    have nqla_r34 : la ≠ r34 := mp_nn ((mu_n ((Ne.symm ne0_1))).trans (ha)) hn34
    have hP : mw G.1 vwCl B (mu (mu μ h (.inr (0, [.int (nI 158), .int (nI 157), .ref la, .int (nI (158 * k))]))) r34 (.inl (G.2 0, 2 * (158 * k + 158), .inr (.inl g34)))) _ := hP
    refine mw_put (ty := .array .long) (v := .ref r34) (C := RX0) (T := TX0) (N := 4) hx hb hts in_X0_growTwofold_X0 tyX0 tyX0_ok nmX0 hown hK hP hS ((mu_n nqh_r34).trans (mu_s _ _ _)) rfl 2 (by decide) (hts (.fieldLink RX0 18 "OctagonDesk$Numbers" "limbs" "[J") (by decide +kernel)) (fun _ h9 => h9) rfl (by decide +kernel) (by first | rfl | decide +kernel) (by first | rfl | decide +kernel) (Nat.le_of_ble_eq_true rfl) dX0_growTwofold_37 (fun H locs hP hS => ?_)
    have hP : mw G.1 vwCl B (mu (mu μ h (.inr (0, [.int (nI 158), .int (nI 157), .ref r34, .int (nI (158 * k))]))) r34 (.inl (G.2 0, 2 * (158 * k + 158), .inr (.inl g34)))) _ := mw_eq ((mu_c _ _ ((Ne.symm nqh_r34))).trans (congrArg (fun z => mu z r34 (.inl (G.2 0, 2 * (158 * k + 158), .inr (.inl g34)))) (mu_u _ _ _ _))) hP
    rw [show 2 * (158 * k + 158) = 158 * (2 * k + 1) + 158 by omega] at hP
    have hP : mw G.1 vwCl B (mu (mu μ h (.inr (0, [.int (nI 158), .int (nI 157), .ref r34, .int (nI (158 * k))]))) r34 (.inl (G.2 0, 158 * (2 * k + 1) + 158, .inr (.inl g34)))) _ := hP
    refine lv_aload_n hx hb dX0_growTwofold_40 rfl (lv_at hl 1 rfl) ?_
    refine lv_aload_n hx hb dX0_growTwofold_41 rfl (lv_at hl 1 rfl) ?_
    refine mw_get (C := RX0) (T := TX0) (N := 4) hx hb hts in_X0_growTwofold_X0 hown hK hP ((mu_n nqh_r34).trans (mu_s _ _ _)) rfl 2 (by decide) (hts (.fieldLink RX0 18 "OctagonDesk$Numbers" "limbs" "[J") (by decide +kernel)) (fun _ h9 => h9) rfl dX0_growTwofold_42 ?_
    refine mw_alen hx hb hK hP 0 (mu_s _ _ _) rfl dX0_growTwofold_45 ?_
    refine lv_aload_n hx hb dX0_growTwofold_46 rfl (lv_at hl 1 rfl) ?_
    refine mw_get (C := RX0) (T := TX0) (N := 4) hx hb hts in_X0_growTwofold_X0 hown hK hP ((mu_n nqh_r34).trans (mu_s _ _ _)) rfl 0 (by decide) (hts (.fieldLink RX0 15 "OctagonDesk$Numbers" "cells" "I") (by decide +kernel)) (fun _ h9 => h9) rfl dX0_growTwofold_47 ?_
    refine nv_isub hx hb (by omega) dX0_growTwofold_50 ?_
    refine nv_eqi (y := nI (158 * (2 * k + 1))) (congrArg nI (by omega)) ?_
    refine mw_put (ty := .int) (v := .int (nI (158 * (2 * k + 1)))) (C := RX0) (T := TX0) (N := 4) hx hb hts in_X0_growTwofold_X0 tyX0 tyX0_ok nmX0 hown hK hP hS ((mu_n nqh_r34).trans (mu_s _ _ _)) rfl 3 (by decide) (hts (.fieldLink RX0 22 "OctagonDesk$Numbers" "top" "I") (by decide +kernel)) (fun _ h9 => h9) rfl (by decide +kernel) (by first | rfl | decide +kernel) (by first | rfl | decide +kernel) (Nat.le_of_ble_eq_true rfl) dX0_growTwofold_51 (fun H locs hP hS => ?_)
    have hP : mw G.1 vwCl B (mu (mu μ h (.inr (0, [.int (nI 158), .int (nI 157), .ref r34, .int (nI (158 * (2 * k + 1)))]))) r34 (.inl (G.2 0, 158 * (2 * k + 1) + 158, .inr (.inl g34)))) _ := mw_eq ((mu_c _ _ ((Ne.symm nqh_r34))).trans (congrArg (fun z => mu z r34 (.inl (G.2 0, 158 * (2 * k + 1) + 158, .inr (.inl g34)))) (mu_u _ _ _ _))) hP
    refine lv_iconst (v := nI 0) hx hb dX0_growTwofold_54 (by decide) ?_
    refine lv_istore_n (lv' := [(2, .int (nI 0)), (1, .int (nI (158 * k))), (0, .ref h)]) hx hb dX0_growTwofold_55 rfl hl (by decide) rfl (fun ls hl => ?_)
    refine W.widen (k := 1) (n := 2 * (158 * k + 158)) (by omega) (by omega) ?_
    exact L56 _ 0 r34 g34 (Nat.lt_succ_self _) (by omega) (by omega) ((mu_none hn34).2) _ _ hP hS ls (lv_sub hl [2, 1, 0] rfl)
  · rw [hQ]
    refine W.widen (k := 1) (n := 2 * (158 * k + 158)) (by omega) (by omega) ?_
    exact W.vret hx hb hr (fun t99 ht99 hW99 => ⟨⟨mu μ h (.inr (0, [.int (nI 158), .int (nI 157), .ref la, .int (nI (158 * k))])), rfl, (⟨la, k, f, (mu_i ((mu_n (Ne.symm ne0_1)).trans ha)).symm, hk, Or.inl rfl, by rw [gr, if_neg (by omega)]⟩), by show mw _ _ _ _ t99.heap; rw [ht99]; exact hP⟩, hS.F ht99⟩) hS.2.2 dX0_growTwofold_16
