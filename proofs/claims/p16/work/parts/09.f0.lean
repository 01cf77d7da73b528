theorem EM.arr {G : GG} {μ μ1 : mp} {n a n9 c9 : Nat} {sa na la bE : Nat → Nat} {F : Nat → Nat → Int64} {fA : Nat → Option Nat} (h : EM G μ μ1 n sa na la bE F) (ha : μ1 a = some (.inl (G.2 c9, n9, .inr (.inr (.inr (.inr fA)))))) : ∀ j, j < n → sa j ≠ a ∧ na j ≠ a ∧ la j ≠ a := by
  intro j hj
  obtain ⟨h1, h2, h3⟩ := (h.2.1 j hj).1
  exact ⟨mp_ne h1 ha (by simp), mp_ne h2 ha (by simp), mp_ne h3 ha (by simp)⟩
theorem EM.next {G : GG} {μ μ1 : mp} {i a q hn l n9 : Nat} {sa na la bE : Nat → Nat} {F : Nat → Nat → Int64} {fA : Nat → Option Nat} {e : va_E} {o : va_E} (h : EM G μ μ1 i sa na la bE F) (h0 : μ a = none) (ha : μ1 a = some (.inl (G.2 3, n9, .inr (.inr (.inr (.inr fA)))))) (h1 : μ1 q = none) (h2 : mu μ1 q o hn = none) (h3 : mu μ1 q o l = none) (h6 : hn ≠ l) :
    EM G μ (mu (mu (mu (mu μ1 a e) q (.inr (1, [.ref hn, .int (nI 1)]))) hn (.inr (0, [.int (nI 158), .int (nI 157), .ref l, .int (nI (158 * 0))]))) l (.inl (G.2 0, 158 * 0 + 158, .inr (.inl (fun _ => 0))))) (i + 1) (va_up sa i q) (va_up na i hn) (va_up la i l) (va_up bE i 1) (va_up F i (fun _ => 0)) := by
  obtain ⟨a1, a2⟩ := mu_none h2
  obtain ⟨b1, b2⟩ := mu_none h3
  have hs := h.set (e := e) h0 (h.arr ha)
  refine hs.add ?_ ?_ ?_ a1 b1 h6
  · rw [mu_n (Ne.symm (mp_nn ha h1))]; exact h1
  · rw [mu_n (Ne.symm (mp_nn ha a2))]; exact a2
  · rw [mu_n (Ne.symm (mp_nn ha b2))]; exact b2
theorem es_A {i q : Nat} {fA : Nat → Option Nat} {sa bE : Nat → Nat} {F : Nat → Nat → Int64} (h : ∀ j, j < i → fA j = some (sa j) ∧ bE j = 1 ∧ F j = fun _ => 0) : ∀ j, j < i + 1 → va_up fA i (some q) j = some (va_up sa i q j) ∧ va_up bE i 1 j = 1 ∧ va_up F i (fun _ => 0) j = fun _ => 0 := by
  intro j hj
  by_cases e : j = i
  · subst e; rw [va_up_self, va_up_self, va_up_self, va_up_self]; exact ⟨rfl, rfl, rfl⟩
  · rw [va_up_ne _ _ e, va_up_ne _ _ e, va_up_ne _ _ e, va_up_ne _ _ e]; exact h j (by omega)
abbrev rm_X3_emptyShapes (n9 : Nat) : Room := { frames := 3, cells := 1 + 3 * n9, slots := n9 + 164 * n9, locals := 53 }
set_option maxHeartbeats 4000000 in
set_option maxRecDepth 100000 in
theorem c_X3_emptyShapes (l : Launch) (G : GG) (B : Nat) (μ : mp) (n9 : Nat) (hn9 : n9 ≤ 8) : Met l yX3_emptyShapes wsX3_emptyShapes (rm_X3_emptyShapes n9) (va_Pc [.int (nI n9)] (KW G B μ)) (va_Qr (fun (_ : mp) => True) (fun μ2 ra t9 => (fun (μ2 : mp) (ra : Nat) => μ ra = none ∧ ∃ (fA : Nat → Option Nat) (sa na la bE : Nat → Nat) (F : Nat → Nat → Int64), μ2 ra = some (.inl (G.2 3, n9, .inr (.inr (.inr (.inr fA))))) ∧ (∀ j, j < n9 → fA j = some (sa j) ∧ bE j = 1 ∧ F j = fun _ => 0) ∧ EM G μ μ2 n9 sa na la bE F) μ2 ra ∧ BB G B μ2 t9) (fun q => B ≤ q)) (1 + 3 * n9) (n9 + 164 * n9) (fun q => B ≤ q) := by
  refine Met.ofW (cc := cX3_emptyShapes) (maxL := 3) (ret := (some (.array (.object "OctagonDesk$Shape")))) (by decide) rfl ?_
  intro p e s m args below meth c s₁ B9 hml hv
  obtain ⟨hargs, hBs, hP, hKK⟩ := hv
  have hx := B9.exec
  have hb := B9.bytes
  have hr := B9.returns
  have hts := atoms_spec (ws := wsX3_emptyShapes) B9.pre
  have hown : s.vm.findClass RX3 = some m.cls := findClass_of_methodNamed B9.named
  have hlocks := B9.notSynchronized
  have hK := hKK.k
  have hS : va_S (fun q => B ≤ q) s.heap s.heap [] := va_S.rf
  obtain ⟨Q, hQ⟩ : ∃ Q, Q = MQ below (va_Qr (fun (_ : mp) => True) (fun μ2 ra t9 => (fun (μ2 : mp) (ra : Nat) => μ ra = none ∧ ∃ (fA : Nat → Option Nat) (sa na la bE : Nat → Nat) (F : Nat → Nat → Int64), μ2 ra = some (.inl (G.2 3, n9, .inr (.inr (.inr (.inr fA))))) ∧ (∀ j, j < n9 → fA j = some (sa j) ∧ bE j = 1 ∧ F j = fun _ => 0) ∧ EM G μ μ2 n9 sa na la bE F) μ2 ra ∧ BB G B μ2 t9) (fun q => B ≤ q)) args s (1 + 3 * n9) (n9 + 164 * n9) (fun q => B ≤ q) := ⟨_, rfl⟩
  rw [← hQ]
  have in_X3_emptyShapes_X1 : ∀ w ∈ wsX10, w ∈ wsX3_emptyShapes := by decide +kernel
  have L7 : ∀ (N7 : Nat) (i1 : Nat) (a1 : Nat) (μ1 : mp) (fA : Nat → Option Nat) (sa : Nat → Nat) (na : Nat → Nat) (la : Nat → Nat) (bE : Nat → Nat) (F : Nat → Nat → Int64) (hN7 : n9 - i1 < N7) (hi : i1 ≤ n9) (h0a : μ a1 = none) (ha1 : μ1 a1 = some (.inl (G.2 3, n9, .inr (.inr (.inr (.inr fA)))))) (hA : ∀ j, j < i1 → fA j = some (sa j) ∧ bE j = 1 ∧ F j = fun _ => 0) (hE : EM G μ μ1 i1 sa na la bE F), ∀ (H : Heap) (locs : List Loc), mw G.1 vwCl B (μ1) H → va_S (fun q => B ≤ q) s.heap H locs → ∀ ls : Array Slot, lv_has ls 3 [(0, .int (nI n9)), (1, .ref a1), (2, .int (nI i1))] → W p l e (rm_X3_emptyShapes n9) s m args below meth c H locs (1 + 3 * (i1)) (n9 + 164 * (i1)) Q (F0 m 7 ls []) := by
    intro N7
    induction N7 with
    | zero => intro i1 a1 μ1 fA sa na la bE F hN7; exact absurd hN7 (Nat.not_lt_zero _)
    | succ N7 ih7 =>
      intro i1 a1 μ1 fA sa na la bE F hN7 hi h0a ha1 hA hE H locs hP hS ls hl
      refine lv_iload_n hx hb dX3_emptyShapes_7 rfl (lv_at hl 2 rfl) ?_
      refine lv_iload_n hx hb dX3_emptyShapes_8 rfl (lv_at hl 0 rfl) ?_
      refine nv_icmp_ge (tgt := 28) hx hb (by omega) (by omega) dX3_emptyShapes_9 (by decide) (fun hc9 => ?_) (fun hc9 => ?_)
      · refine lv_aload_n hx hb dX3_emptyShapes_28 rfl (lv_at hl 1 rfl) ?_
        rw [hQ]
        refine W.widen (k := 1 + 3 * n9) (n := n9 + 164 * n9) (by omega) (by omega) ?_
        exact W.aret (v := .ref a1) hx hb hr (Or.inr ⟨_, rfl⟩) (Or.inr ⟨_, rfl⟩) (fun t99 ht99 hW99 => ⟨⟨μ1, a1, rfl, trivial, (⟨h0a, fA, sa, na, la, bE, F, ha1, fun j hj => hA j (by omega), by have e : i1 = n9 := (by omega); subst e; exact hE⟩), by show mw _ _ _ _ t99.heap; rw [ht99]; exact hP⟩, hS.F ht99⟩) hS.2.2 dX3_emptyShapes_29
      · refine lv_aload_n hx hb dX3_emptyShapes_12 rfl (lv_at hl 1 rfl) ?_
        refine lv_iload_n hx hb dX3_emptyShapes_13 rfl (lv_at hl 2 rfl) ?_
        refine mw_new (ci := 1) (fs := [.null, .int (nI 0)]) (C := RX1) (T := TX1) (N := 2) hx hb hts in_X3_emptyShapes_X1 tyX1 tyX1_ok hown (hts (.classLink RX3 18 RX1) (by decide +kernel)) (hts (.instantiable RX1 2) (by decide +kernel)) (hts (.initialized RX1) (by decide +kernel)) hK hP hS hBs rfl (fun j hj => by rcases (show j = 0 ∨ j = 1 by omega) with rfl | rfl <;> rfl) (Nat.le_trans (m := 1 + 3 * n9) (by omega) (Nat.le_refl _)) (Nat.le_trans (m := n9 + 164 * n9) (by omega) (Nat.le_refl _)) dX3_emptyShapes_14 (fun q14 H hsq14 hzq14 hnq14 hP hS => ?_)
        have nqa1_q14 : a1 ≠ q14 := mp_nn (ha1) hnq14
        have hP : mw G.1 vwCl B (mu μ1 q14 (.inr (1, [.null, .int (nI 0)]))) _ := hP
        refine lv_dup hx hb dX3_emptyShapes_17 rfl ?_
        refine kc_v (va_runI (As := []) (rest := [.ref q14, .int (nI i1), .ref a1]) ⟨hx, hb, hml, hown, hts⟩ (c_X1_init l G B (mu μ1 q14 (.inr (1, [.null, .int (nI 0)]))) q14 (mu_s _ _ _)) (cwI 0 hts gX3_emptyShapes_X1_init rfl rfl rfl (hts (.initialized RX1) (by decide +kernel)) (hts (.methodLink RX3 28 yX1_init) (by decide +kernel)) (hts (.instanceMethod yX1_init) (by decide +kernel)) rfl (by decide +kernel) ⟨Nat.le_of_ble_eq_true rfl, Nat.le_of_ble_eq_true rfl⟩) ⟨KW.blind, fun U9 hU9 hW9 => ⟨rfl, KW.pre hBs hKK hS hP U9 hU9 hW9⟩⟩ rfl rfl hl.1 rfl (lv_room (Nat.le_of_ble_eq_true rfl)) dX3_emptyShapes_18 ⟨(Nat.le_trans (m := 1 + 3 * n9) (by omega) (Nat.le_refl _)), (Nat.le_trans (m := n9 + 164 * n9) (by omega) (Nat.le_refl _))⟩) hS (fun m18 H locs hq9 hP hz9 hS => ?_)
        obtain ⟨hn18, la18, he18, hf18, hg18, -, -, rfl⟩ := hq9
        have nqa1_hn18 : a1 ≠ hn18 := mp_nn ((mu_n nqa1_q14).trans (ha1)) he18
        have nqq14_hn18 : q14 ≠ hn18 := mp_nn (mu_s _ _ _) he18
        have nqa1_la18 : a1 ≠ la18 := mp_nn ((mu_n nqa1_q14).trans (ha1)) hf18
        have nqq14_la18 : q14 ≠ la18 := mp_nn (mu_s _ _ _) hf18
        have hP : mw G.1 vwCl B (mu (mu (mu μ1 q14 (.inr (1, [.ref hn18, .int (nI 1)]))) hn18 (.inr (0, [.int (nI 158), .int (nI 157), .ref la18, .int (nI (158 * 0))]))) la18 (.inl (G.2 0, 158 * 0 + 158, .inr (.inl (fun _ => 0))))) _ := mw_eq (congrArg (fun z => mu z la18 (.inl (G.2 0, 158 * 0 + 158, .inr (.inl (fun _ => 0))))) (congrArg (fun z => mu z hn18 (.inr (0, [.int (nI 158), .int (nI 157), .ref la18, .int (nI (158 * 0))]))) (mu_u _ _ _ _))) hP
        refine mw_astq (r := (RX1, TX1, 2)) hx hb hK hP hS 3 1 ((mu_n nqa1_la18).trans ((mu_n nqa1_hn18).trans ((mu_n nqa1_q14).trans (ha1)))) rfl ((mu_n nqq14_la18).trans ((mu_n nqq14_hn18).trans (mu_s _ _ _))) rfl (by omega) (by omega) dX3_emptyShapes_21 (fun H locs hP hS => ?_)
        have hP : mw G.1 vwCl B (mu (mu (mu (mu μ1 q14 (.inr (1, [.ref hn18, .int (nI 1)]))) hn18 (.inr (0, [.int (nI 158), .int (nI 157), .ref la18, .int (nI (158 * 0))]))) la18 (.inl (G.2 0, 158 * 0 + 158, .inr (.inl (fun _ => 0))))) a1 (.inl (G.2 3, n9, .inr (.inr (.inr (.inr (va_up fA i1 (some q14)))))))) _ := hP
        refine lv_iinc (v := nI (i1 + 1)) (lv' := [(2, .int (nI (i1 + 1))), (0, .int (nI n9)), (1, .ref a1)]) hx hb dX3_emptyShapes_22 hl (k := 2) rfl (nI_add _ _) (by decide) rfl (fun ls hl => ?_)
        refine lv_goto (tgt := 7) hx hb dX3_emptyShapes_25 (by decide) ?_
        have hP : mw G.1 vwCl B (mu (mu (mu (mu μ1 a1 (.inl (G.2 3, n9, .inr (.inr (.inr (.inr (va_up fA i1 (some q14)))))))) q14 (.inr (1, [.ref hn18, .int (nI 1)]))) hn18 (.inr (0, [.int (nI 158), .int (nI 157), .ref la18, .int (nI (158 * 0))]))) la18 (.inl (G.2 0, 158 * 0 + 158, .inr (.inl (fun _ => 0))))) _ := mw_eq ((mu_c _ _ ((Ne.symm nqa1_la18))).trans (congrArg (fun z => mu z la18 (.inl (G.2 0, 158 * 0 + 158, .inr (.inl (fun _ => 0))))) ((mu_c _ _ ((Ne.symm nqa1_hn18))).trans (congrArg (fun z => mu z hn18 (.inr (0, [.int (nI 158), .int (nI 157), .ref la18, .int (nI (158 * 0))]))) (mu_c _ _ ((Ne.symm nqa1_q14))))))) hP
        refine W.widen (k := 1 + 3 * (i1 + 1)) (n := n9 + 164 * (i1 + 1)) (by omega) (by omega) ?_
        exact ih7 (i1 + 1) a1 (mu (mu (mu (mu μ1 a1 (.inl (G.2 3, n9, .inr (.inr (.inr (.inr (va_up fA i1 (some q14)))))))) q14 (.inr (1, [.ref hn18, .int (nI 1)]))) hn18 (.inr (0, [.int (nI 158), .int (nI 157), .ref la18, .int (nI (158 * 0))]))) la18 (.inl (G.2 0, 158 * 0 + 158, .inr (.inl (fun _ => 0))))) (va_up fA i1 (some q14)) (va_up sa i1 q14) (va_up na i1 hn18) (va_up la i1 la18) (va_up bE i1 1) (va_up F i1 (fun _ => 0)) (by omega) (by omega) (h0a) ((mu_n nqa1_la18).trans ((mu_n nqa1_hn18).trans ((mu_n nqa1_q14).trans (mu_s _ _ _)))) (es_A hA) (hE.next h0a ha1 hnq14 he18 hf18 hg18) _ _ hP hS ls (lv_sub hl [1, 2, 0] rfl)
  have hl := lv_entry ([.int (nI n9)]) (n := 3) (Nat.le_of_ble_eq_true rfl)
  have he9 : entryFrame m args 3 = entryFrame m ([.int (nI n9)] : List Value).toArray 3 := by rw [hargs]
  rw [he9, lg_entry_eq]
  generalize (lg_sl ([.int (nI n9)]) ++ List.replicate (3 - (lg_sl ([.int (nI n9)])).length) Slot.unset).toArray = ls at hl ⊢
  have hl : lv_has ls 3 [(0, .int (nI n9))] := hl
  refine lv_iload_n hx hb dX3_emptyShapes_0 rfl (lv_at hl 0 rfl) ?_
  refine mw_newq hx hb hown (hts (.classLink RX3 18 RX1) (by decide +kernel)) hKK.2.2.1.1 hK hP hS hBs 3 rfl (by omega) (Nat.le_trans (m := 1 + 3 * n9) (by omega) (Nat.le_refl _)) (Nat.le_trans (m := n9 + 164 * n9) (by omega) (Nat.le_refl _)) dX3_emptyShapes_1 (fun q1 H hsq1 hzq1 hnq1 hP hS => ?_)
  have hP : mw G.1 vwCl B (mu μ q1 (.inl (G.2 3, n9, .inr (.inr (.inr (.inr (fun _ => none))))))) _ := hP
  refine lv_astore_n (lv' := [(1, .ref q1), (0, .int (nI n9))]) hx hb dX3_emptyShapes_4 rfl hl (by decide) rfl (fun ls hl => ?_)
  refine lv_iconst (v := nI 0) hx hb dX3_emptyShapes_5 (by decide) ?_
  refine lv_istore_n (lv' := [(2, .int (nI 0)), (1, .ref q1), (0, .int (nI n9))]) hx hb dX3_emptyShapes_6 rfl hl (by decide) rfl (fun ls hl => ?_)
  refine W.widen (k := 1 + 3 * (0)) (n := n9 + 164 * (0)) (by omega) (by omega) ?_
  exact L7 _ 0 q1 (mu μ q1 (.inl (G.2 3, n9, .inr (.inr (.inr (.inr (fun _ => none))))))) (fun _ => none) (fun _ => 0) (fun _ => 0) (fun _ => 0) (fun _ => 0) (fun _ _ => 0) (Nat.lt_succ_self _) (by omega) (hnq1) ((mu_s _ _ _)) (fun j hj => absurd hj (by omega)) (EM.zero G ((Ext.rf μ).mo hnq1) _ _ _ _ _) _ _ hP hS ls (lv_sub hl [2, 1, 0] rfl)
def SHk (G : GG) (μ : mp) (s n l b k : Nat) (f : Nat → Int64) : Prop := μ s = some (.inr (1, [.ref n, .int (nI b)])) ∧ μ n = some (.inr (0, [.int (nI 158), .int (nI 157), .ref l, .int (nI (158 * k))])) ∧ μ l = some (.inl (G.2 0, 158 * k + 158, .inr (.inl f)))
/-- the desk's 23 shapes: 6 slots, 8 left, 8 reached, the one that is made; each with its numbers' width -/
def SHS (G : GG) (μ : mp) (sa na la bE kf : Nat → Nat) (F : Nat → Nat → Int64) : Prop := (∀ j, j < 23 → SHk G μ (sa j) (na j) (la j) (bE j) (kf j) (F j) ∧ bE j ≤ 1 ∧ kf j ≤ 1022) ∧ (∀ i j, i < 23 → j < 23 → i ≠ j → sa i ≠ sa j ∧ na i ≠ na j ∧ la i ≠ la j)
/-- what is neither numbers nor limbs of a shape stays -/
def FRN (μ μ2 : mp) (na la : Nat → Nat) : Prop := ∀ (a : Nat) (e : va_E), μ a = some e → (∀ j, j < 23 → a ≠ na j ∧ a ≠ la j) → μ2 a = some e
/-- what is no cell of a shape stays -/
def FRS (μ μ2 : mp) (sa na la : Nat → Nat) : Prop := ∀ (a : Nat) (e : va_E), μ a = some e → (∀ j, j < 23 → a ≠ sa j ∧ a ≠ na j ∧ a ≠ la j) → μ2 a = some e
theorem SHS.kinds {G : GG} {μ : mp} {sa na la bE kf : Nat → Nat} {F : Nat → Nat → Int64} (h : SHS G μ sa na la bE kf F) {i j : Nat} (hi : i < 23) (hj : j < 23) : sa i ≠ na j ∧ sa i ≠ la j ∧ na i ≠ la j := by
  obtain ⟨⟨a1, a2, a3⟩, -⟩ := h.1 i hi
  obtain ⟨⟨b1, b2, b3⟩, -⟩ := h.1 j hj
  exact ⟨mp_ne a1 b2 (by simp), mp_ne a1 b3 (by simp), mp_ne a2 b3 (by simp)⟩
theorem SHS.grow {G : GG} {μ : mp} {sa na la bE kf : Nat → Nat} {F : Nat → Nat → Int64} (h : SHS G μ sa na la bE kf F) {j l9 k9 : Nat} {g9 : Nat → Int64} (hj : j < 23) (hk : k9 ≤ 1022) (hl : l9 = la j ∨ μ l9 = none) :
    SHS G (mu (mu μ (na j) (.inr (0, [.int (nI 158), .int (nI 157), .ref l9, .int (nI (158 * k9))]))) l9 (.inl (G.2 0, 158 * k9 + 158, .inr (.inl g9)))) sa na (va_up la j l9) bE (va_up kf j k9) (va_up F j g9) := by
  have hn : ∀ i, i < 23 → sa i ≠ l9 ∧ na i ≠ l9 := by
    intro i hi
    rcases hl with e | e
    · subst e; exact ⟨(h.kinds hi hj).2.1, (h.kinds hi hj).2.2⟩
    · exact ⟨mp_nn (h.1 i hi).1.1 e, mp_nn (h.1 i hi).1.2.1 e⟩
  have hL : ∀ i, i < 23 → i ≠ j → la i ≠ l9 := by
    intro i hi hij
    rcases hl with e | e
    · subst e; exact (h.2 i j hi hj hij).2.2
    · exact mp_nn (h.1 i hi).1.2.2 e
  refine ⟨fun i hi => ?_, fun x y hx hy hxy => ⟨(h.2 x y hx hy hxy).1, (h.2 x y hx hy hxy).2.1, ?_⟩⟩
  · obtain ⟨⟨a1, a2, a3⟩, a4, a5⟩ := h.1 i hi
    by_cases e : i = j
    · subst e
      rw [va_up_self, va_up_self, va_up_self]
      exact ⟨⟨(mu_n (hn i hi).1).trans ((mu_n (h.kinds hi hi).1).trans a1), (mu_n (hn i hi).2).trans (mu_s _ _ _), mu_s _ _ _⟩, a4, hk⟩
    · rw [va_up_ne _ _ e, va_up_ne _ _ e, va_up_ne _ _ e]
      exact ⟨⟨(mu_n (hn i hi).1).trans ((mu_n (h.kinds hi hj).1).trans a1), (mu_n (hn i hi).2).trans ((mu_n (h.2 i j hi hj e).2.1).trans a2), (mu_n (hL i hi e)).trans ((mu_n (Ne.symm (h.kinds hj hi).2.2)).trans a3)⟩, a4, a5⟩
  · by_cases ex : x = j
    · have ey : y ≠ j := fun q => hxy (ex.trans q.symm)
      subst ex; rw [va_up_self, va_up_ne _ _ ey]; exact Ne.symm (hL y hy ey)
    · by_cases ey : y = j
      · subst ey; rw [va_up_self, va_up_ne _ _ ex]; exact hL x hx ex
      · rw [va_up_ne _ _ ex, va_up_ne _ _ ey]; exact (h.2 x y hx hy hxy).2.2
theorem FRN.grow {μ μ1 : mp} {na la la1 : Nat → Nat} (h : FRN μ μ1 na la) {j l9 : Nat} {e1 e2 : va_E} (hj : j < 23) (h1 : ∀ i, i < 23 → la1 i = la i ∨ μ (la1 i) = none) (hl : l9 = la1 j ∨ μ1 l9 = none) : FRN μ (mu (mu μ1 (na j) e1) l9 e2) na la := by
  intro a e ha hne
  have h2 := h a e ha hne
  have h3 : a ≠ l9 := by
    rcases hl with e | e
    · subst e
      rcases h1 j hj with e | e
      · rw [e]; exact (hne j hj).2
      · exact mp_nn ha e
    · exact mp_nn h2 e
  exact (mu_n h3).trans ((mu_n (hne j hj).1).trans h2)
theorem new_up {μ μ1 : mp} {na la la1 : Nat → Nat} (h : FRN μ μ1 na la) {j l9 : Nat} (h1 : ∀ i, i < 23 → la1 i = la i ∨ μ (la1 i) = none) (h2 : ∀ i, i < 23 → μ (la i) ≠ none → True) (hl : l9 = la1 j ∨ μ l9 = none) (hj : j < 23) : ∀ i, i < 23 → va_up la1 j l9 i = la i ∨ μ (va_up la1 j l9 i) = none := by
  intro i hi
  by_cases e : i = j
  · subst e; rw [va_up_self]
    rcases hl with e | e
    · rw [e]; exact h1 i hi
    · exact Or.inr e
  · rw [va_up_ne _ _ e]; exact h1 i hi
/-- while a desk is built: its cell, n shapes of it, all new since μ; the rest of μ as it was -/
def DI (G : GG) (μ μ1 : mp) (d : Nat) (fs : List Value) (n : Nat) (sa na la bE : Nat → Nat) (F : Nat → Nat → Int64) : Prop := (∀ (a : Nat) (e : va_E), μ a = some e → a ≠ d → μ1 a = some e) ∧ μ1 d = some (.inr (3, fs)) ∧ (∀ j, j < n → SHc G μ1 (sa j) (na j) (la j) (bE j) (F j) ∧ μ (sa j) = none ∧ μ (na j) = none ∧ μ (la j) = none) ∧ (∀ i j, i < n → j < n → i ≠ j → sa i ≠ sa j ∧ na i ≠ na j ∧ la i ≠ la j)
theorem DI.no {G : GG} {μ μ1 : mp} {d n : Nat} {fs : List Value} {sa na la bE : Nat → Nat} {F : Nat → Nat → Int64} (h : DI G μ μ1 d fs n sa na la bE F) {a : Nat} (h1 : μ1 a = none) : μ a = none := by
  cases h2 : μ a with
  | none => rfl
  | some e => rw [h.1 a e h2 (fun q => by rw [q, h.2.1] at h1; cases h1)] at h1; cases h1
theorem DI.apn {G : GG} {μ μ1 : mp} {d n : Nat} {fs : List Value} {sa na la bE : Nat → Nat} {F : Nat → Nat → Int64} (h : DI G μ μ1 d fs n sa na la bE F) {a : Nat} (ha : μ1 a = none) : ∀ j, j < n → sa j ≠ a ∧ na j ≠ a ∧ la j ≠ a := by
  intro j hj
  obtain ⟨a1, a2, a3⟩ := (h.2.2.1 j hj).1
  exact ⟨mp_nn a1 ha, mp_nn a2 ha, mp_nn a3 ha⟩
theorem DI.set {G : GG} {μ μ1 : mp} {d n a : Nat} {fs : List Value} {sa na la bE : Nat → Nat} {F : Nat → Nat → Int64} {e : va_E} (h : DI G μ μ1 d fs n sa na la bE F) (h0 : μ a = none) (hd : d ≠ a) (h1 : ∀ j, j < n → sa j ≠ a ∧ na j ≠ a ∧ la j ≠ a) : DI G μ (mu μ1 a e) d fs n sa na la bE F :=
  ⟨fun b x hb hbd => (mu_n (mp_nn hb h0)).trans (h.1 b x hb hbd), (mu_n hd).trans h.2.1, fun j hj => ⟨(h.2.2.1 j hj).1.set (h1 j hj).1 (h1 j hj).2.1 (h1 j hj).2.2, (h.2.2.1 j hj).2⟩, h.2.2.2⟩
theorem DI.fld {G : GG} {μ μ1 : mp} {d n : Nat} {fs fs' : List Value} {sa na la bE : Nat → Nat} {F : Nat → Nat → Int64} (h : DI G μ μ1 d fs n sa na la bE F) : DI G μ (mu μ1 d (.inr (3, fs'))) d fs' n sa na la bE F :=
  ⟨fun b x hb hbd => (mu_n hbd).trans (h.1 b x hb hbd), mu_s _ _ _, fun j hj => by
    obtain ⟨a1, a2, a3⟩ := (h.2.2.1 j hj).1
    exact ⟨(h.2.2.1 j hj).1.set (mp_ne a1 h.2.1 (by simp)) (mp_ne a2 h.2.1 (by simp)) (mp_ne a3 h.2.1 (by simp)), (h.2.2.1 j hj).2⟩, h.2.2.2⟩
theorem DI.first {G : GG} {μ μ1 : mp} {d n : Nat} {fs : List Value} {sa na la bE : Nat → Nat} {F : Nat → Nat → Int64} (hd : μ d = some (.inr (3, fs))) (h : EM G μ μ1 n sa na la bE F) : DI G μ μ1 d fs n sa na la bE F :=
  ⟨fun a e ha _ => h.1 a e ha, h.1 d _ hd, h.2.1, h.2.2⟩
def ap {α : Type} (n : Nat) (f g : Nat → α) : Nat → α := fun i => if i < n then f i else g (i - n)
theorem ap_l {α : Type} {n i : Nat} (f g : Nat → α) (h : i < n) : ap n f g i = f i := if_pos h
theorem ap_r {α : Type} {n i : Nat} (f g : Nat → α) (h : ¬ i < n) : ap n f g i = g (i - n) := if_neg h
theorem DI.app {G : GG} {μ μ1 μ2 : mp} {d n m : Nat} {fs : List Value} {sa na la bE sb nb lb bb : Nat → Nat} {F F2 : Nat → Nat → Int64} (h : DI G μ μ1 d fs n sa na la bE F) (h2 : EM G μ1 μ2 m sb nb lb bb F2) : DI G μ μ2 d fs (n + m) (ap n sa sb) (ap n na nb) (ap n la lb) (ap n bE bb) (ap n F F2) := by
  refine ⟨fun a e ha hd => h2.1 a e (h.1 a e ha hd), h2.1 _ _ h.2.1, fun j hj => ?_, fun i j hi hj hij => ?_⟩
  · by_cases e : j < n
    · rw [ap_l _ _ e, ap_l _ _ e, ap_l _ _ e, ap_l _ _ e, ap_l _ _ e]
      exact ⟨(h.2.2.1 j e).1.ext h2.1, (h.2.2.1 j e).2⟩
    · rw [ap_r _ _ e, ap_r _ _ e, ap_r _ _ e, ap_r _ _ e, ap_r _ _ e]
      obtain ⟨b1, b2, b3, b4⟩ := h2.2.1 (j - n) (by omega)
      exact ⟨b1, h.no b2, h.no b3, h.no b4⟩
  · by_cases e : i < n
    · by_cases e2 : j < n
      · rw [ap_l _ _ e, ap_l _ _ e, ap_l _ _ e, ap_l _ _ e2, ap_l _ _ e2, ap_l _ _ e2]
        exact h.2.2.2 i j e e2 hij
      · rw [ap_l _ _ e, ap_l _ _ e, ap_l _ _ e, ap_r _ _ e2, ap_r _ _ e2, ap_r _ _ e2]
        obtain ⟨-, b2, b3, b4⟩ := h2.2.1 (j - n) (by omega)
        exact ⟨(h.apn b2 i e).1, (h.apn b3 i e).2.1, (h.apn b4 i e).2.2⟩
    · by_cases e2 : j < n
      · rw [ap_r _ _ e, ap_r _ _ e, ap_r _ _ e, ap_l _ _ e2, ap_l _ _ e2, ap_l _ _ e2]
        obtain ⟨-, b2, b3, b4⟩ := h2.2.1 (i - n) (by omega)
        exact ⟨Ne.symm (h.apn b2 j e2).1, Ne.symm (h.apn b3 j e2).2.1, Ne.symm (h.apn b4 j e2).2.2⟩
      · rw [ap_r _ _ e, ap_r _ _ e, ap_r _ _ e, ap_r _ _ e2, ap_r _ _ e2, ap_r _ _ e2]
        exact h2.2.2 (i - n) (j - n) (by omega) (by omega) (by omega)
theorem DI.one {G : GG} {μ μ1 : mp} {d n q hn l b : Nat} {fs : List Value} {sa na la bE : Nat → Nat} {F : Nat → Nat → Int64} {f : Nat → Int64} {o : va_E} (h : DI G μ μ1 d fs n sa na la bE F) (h1 : μ1 q = none) (h2 : mu μ1 q o hn = none) (h3 : mu μ1 q o l = none) (h6 : hn ≠ l) :
    DI G μ (mu (mu (mu μ1 q (.inr (1, [.ref hn, .int (nI b)]))) hn (.inr (0, [.int (nI 158), .int (nI 157), .ref l, .int (nI (158 * 0))]))) l (.inl (G.2 0, 158 * 0 + 158, .inr (.inl f)))) d fs (n + 1) (va_up sa n q) (va_up na n hn) (va_up la n l) (va_up bE n b) (va_up F n f) := by
  obtain ⟨a1, a2⟩ := mu_none h2
  obtain ⟨b1, b2⟩ := mu_none h3
  have e0 : EM G μ1 μ1 0 sa na la bE F := EM.zero G (Ext.rf μ1) _ _ _ _ _
  have e1 := e0.add (b := b) (f := f) h1 a2 b2 a1 b1 h6
  have e2 := h.app e1
  have e3 : ∀ {α : Type} (f : Nat → α) (v : α) (j : Nat), j < n + 1 → ap n f (va_up f 0 v) j = va_up f n v j := by
    intro α f v j hj
    by_cases e : j = n
    · subst e; rw [ap_r _ _ (by omega), va_up_self, Nat.sub_self, va_up_self]
    · rw [ap_l _ _ (by omega), va_up_ne _ _ e]
  refine ⟨e2.1, e2.2.1, fun j hj => ?_, fun i j hi hj hij => ?_⟩
  · have := e2.2.2.1 j (by omega)
    rw [e3 _ _ _ hj, e3 _ _ _ hj, e3 _ _ _ hj, e3 _ _ _ hj, e3 _ _ _ hj] at this
    exact this
  · have := e2.2.2.2 i j (by omega) (by omega) hij
    rw [e3 _ _ _ hi, e3 _ _ _ hi, e3 _ _ _ hi, e3 _ _ _ hj, e3 _ _ _ hj, e3 _ _ _ hj] at this
    exact this
theorem DI.sh {G : GG} {μ μ1 : mp} {d n j b : Nat} {fs : List Value} {sa na la bE : Nat → Nat} {F : Nat → Nat → Int64} {g : Nat → Int64} (h : DI G μ μ1 d fs n sa na la bE F) (hj : j < n) : DI G μ (mu (mu μ1 (sa j) (.inr (1, [.ref (na j), .int (nI b)]))) (la j) (.inl (G.2 0, 158 * 0 + 158, .inr (.inl g)))) d fs n sa na la (va_up bE j b) (va_up F j g) := by
  obtain ⟨⟨j1, j2, j3⟩, n1, n2, n3⟩ := h.2.2.1 j hj
  refine ⟨fun b x hb hbd => (mu_n (mp_nn hb n3)).trans ((mu_n (mp_nn hb n1)).trans (h.1 b x hb hbd)), (mu_n (mp_ne h.2.1 j3 (by simp))).trans ((mu_n (mp_ne h.2.1 j1 (by simp))).trans h.2.1), fun i hi => ⟨?_, (h.2.2.1 i hi).2⟩, h.2.2.2⟩
  obtain ⟨⟨i1, i2, i3⟩, -⟩ := h.2.2.1 i hi
  by_cases e : i = j
  · subst e
    rw [va_up_self, va_up_self]
    exact ⟨(mu_n (mp_ne j1 j3 (by simp))).trans (mu_s _ _ _), (mu_n (mp_ne j2 j3 (by simp))).trans ((mu_n (mp_ne j2 j1 (by simp))).trans j2), mu_s _ _ _⟩
  · obtain ⟨d1, d2, d3⟩ := h.2.2.2 i j hi hj e
    rw [va_up_ne _ _ e, va_up_ne _ _ e]
    exact ⟨(mu_n (mp_ne i1 j3 (by simp))).trans ((mu_n d1).trans i1), (mu_n (mp_ne i2 j3 (by simp))).trans ((mu_n (mp_ne i2 j1 (by simp))).trans i2), (mu_n d3).trans ((mu_n (mp_ne i3 j1 (by simp))).trans i3)⟩
/-- a slot's shape that lets all places be -/
def Fr (F : Nat → Nat → Int64) (bE : Nat → Nat) (j : Nat) : Prop := bE j = 0 ∧ (∀ c, c < 144 → F j c = tz c) ∧ ∀ c, 144 ≤ c → F j c = 0
/-- the desk's arrays, and which shapes they hold -/
def DA (G : GG) (μ1 : mp) (aS aL aR aO : Nat) (sa : Nat → Nat) (fS fL fR : Nat → Option Nat) (fO : Nat → Int64) : Prop := μ1 aS = some (.inl (G.2 3, 6, .inr (.inr (.inr (.inr fS))))) ∧ μ1 aL = some (.inl (G.2 3, 8, .inr (.inr (.inr (.inr fL))))) ∧ μ1 aR = some (.inl (G.2 3, 8, .inr (.inr (.inr (.inr fR))))) ∧ μ1 aO = some (.inl (G.2 0, 6, .inr (.inl fO))) ∧ (∀ j, j < 6 → fS j = some (sa j)) ∧ (∀ j, j < 8 → fL j = some (sa (6 + j))) ∧ (∀ j, j < 8 → fR j = some (sa (14 + j)))
theorem DA.set {G : GG} {μ1 : mp} {aS aL aR aO a : Nat} {sa : Nat → Nat} {fS fL fR : Nat → Option Nat} {fO : Nat → Int64} {e : va_E} (h : DA G μ1 aS aL aR aO sa fS fL fR fO) (h1 : aS ≠ a) (h2 : aL ≠ a) (h3 : aR ≠ a) (h4 : aO ≠ a) : DA G (mu μ1 a e) aS aL aR aO sa fS fL fR fO :=
  ⟨(mu_n h1).trans h.1, (mu_n h2).trans h.2.1, (mu_n h3).trans h.2.2.1, (mu_n h4).trans h.2.2.2.1, h.2.2.2.2⟩
def Stps (μ1 : mp) (fT : Nat → Option Nat) (sp : Nat → Nat) (n : Nat) : Prop := ∀ j, j < n → fT j = some (sp j) ∧ ∃ x1 x2 x3 x4 x5 x6 : Int32, μ1 (sp j) = some (.inr (2, [.int x1, .int x2, .int x3, .int x4, .int x5, .int x6]))
theorem Stps.next {G : GG} {μ1 : mp} {fT : Nat → Option Nat} {sp : Nat → Nat} {n q a : Nat} (h : Stps μ1 fT sp n) (hq : μ1 q = none) (ha : μ1 a = some (.inl (G.2 4, 20, .inr (.inr (.inr (.inr fT)))))) : Stps (mu (mu μ1 q (.inr (2, [.int (nI 0), .int (nI 0), .int (nI 0), .int (nI 0), .int (nI 0), .int (nI 0)]))) a (.inl (G.2 4, 20, .inr (.inr (.inr (.inr (va_up fT n (some q)))))))) (va_up fT n (some q)) (va_up sp n q) (n + 1) := by
  intro j hj
  by_cases e : j = n
  · subst e; rw [va_up_self, va_up_self]; exact ⟨rfl, _, _, _, _, _, _, (mu_n (Ne.symm (mp_nn ha hq))).trans (mu_s _ _ _)⟩
  · rw [va_up_ne _ _ e, va_up_ne _ _ e]
    obtain ⟨h1, x1, x2, x3, x4, x5, x6, h2⟩ := h j (by omega)
    exact ⟨h1, x1, x2, x3, x4, x5, x6, (mu_n (mp_ne h2 ha (by simp))).trans ((mu_n (mp_nn h2 hq)).trans h2)⟩
theorem mu_iff {μ : mp} {a q : Nat} {e : va_E} : mu μ a e q = none ↔ (q ≠ a ∧ μ q = none) := ⟨mu_none, fun h => (mu_n h.1).trans h.2⟩
theorem DI.new {G : GG} {μ μ1 : mp} {d n q : Nat} {fs : List Value} {sa na la bE : Nat → Nat} {F : Nat → Nat → Int64} {e : va_E} (h : DI G μ μ1 d fs n sa na la bE F) (hn : μ1 q = none) : DI G μ (mu μ1 q e) d fs n sa na la bE F := h.set (h.no hn) (mp_nn h.2.1 hn) (h.apn hn)
theorem DI.apT {G : GG} {μ μ1 : mp} {d n a : Nat} {fs : List Value} {sa na la bE : Nat → Nat} {F : Nat → Nat → Int64} {fT : Nat → Option Nat} (h : DI G μ μ1 d fs n sa na la bE F) (ha : μ1 a = some (.inl (G.2 4, 20, .inr (.inr (.inr (.inr fT)))))) : ∀ j, j < n → sa j ≠ a ∧ na j ≠ a ∧ la j ≠ a := by
  intro j hj
  obtain ⟨a1, a2, a3⟩ := (h.2.2.1 j hj).1
  exact ⟨mp_ne a1 ha (by simp), mp_ne a2 ha (by simp), mp_ne a3 ha (by simp)⟩
theorem fr_s {F : Nat → Nat → Int64} {bE : Nat → Nat} {i : Nat} {g : Nat → Int64} (h : ∀ j, j < 6 → (j < i → Fr F bE j) ∧ (i ≤ j → F j = fun _ => 0)) (hi : i < 6) (hg : (∀ c, c < 144 → g c = tz c) ∧ Hi (F i) g) : ∀ j, j < 6 → (j < i + 1 → Fr (va_up F i g) (va_up bE i 0) j) ∧ (i + 1 ≤ j → va_up F i g j = fun _ => 0) := by
  intro j hj
  by_cases e : j = i
  · subst e
    refine ⟨fun _ => ⟨va_up_self _ _ _, ?_, ?_⟩, fun h1 => absurd h1 (by omega)⟩
    · rw [va_up_self]; exact hg.1
    · intro c hc
      rw [va_up_self, hg.2 c hc, (h j hj).2 (by omega)]
  · refine ⟨fun h1 => ?_, fun h1 => by rw [va_up_ne _ _ e]; exact (h j hj).2 (by omega)⟩
    have := (h j hj).1 (by omega)
    exact ⟨(va_up_ne _ _ e).trans this.1, fun c hc => by rw [va_up_ne _ _ e]; exact this.2.1 c hc, fun c hc => by rw [va_up_ne _ _ e]; exact this.2.2 c hc⟩
/-- a desk: its cell, its arrays, its steps, its 23 shapes; all numbers of one width -/
def DK (G : GG) (μ : mp) (d aS aL aR aT aO k sc : Nat) (sa na la bE : Nat → Nat) (F : Nat → Nat → Int64) (fS fL fR fT : Nat → Option Nat) (sp : Nat → Nat) (fO : Nat → Int64) : Prop := μ d = some (.inr (3, [.ref aS, .ref (sa 22), .ref aT, .ref aO, .int (nI sc), .ref aL, .ref aR])) ∧ DA G μ aS aL aR aO sa fS fL fR fO ∧ μ aT = some (.inl (G.2 4, 20, .inr (.inr (.inr (.inr fT))))) ∧ Stps μ fT sp 20 ∧ SHS G μ sa na la bE (fun _ => k) F ∧ sc ≤ 20
def FS (F : Nat → Nat → Int64) (bE : Nat → Nat) : Prop := (∀ j, j < 6 → Fr F bE j) ∧ ∀ j, 6 ≤ j → j < 23 → bE j = 1
theorem DI.dk {G : GG} {μ μ1 : mp} {d aS aL aR aT aO : Nat} {sa na la bE : Nat → Nat} {F : Nat → Nat → Int64} {fS fL fR fT : Nat → Option Nat} {sp : Nat → Nat} {fO : Nat → Int64} (h : DI G μ μ1 d [.ref aS, .ref (sa 22), .ref aT, .ref aO, .int (nI 0), .ref aL, .ref aR] 23 sa na la bE F) (h1 : DA G μ1 aS aL aR aO sa fS fL fR fO) (h2 : μ1 aT = some (.inl (G.2 4, 20, .inr (.inr (.inr (.inr fT)))))) (h3 : Stps μ1 fT sp 20) (h4 : FS F bE) : DK G μ1 d aS aL aR aT aO 0 0 sa na la bE F fS fL fR fT sp fO := by
  refine ⟨h.2.1, h1, h2, h3, ⟨fun j hj => ⟨(h.2.2.1 j hj).1, ?_, Nat.zero_le _⟩, h.2.2.2⟩, Nat.zero_le _⟩
  by_cases e : j < 6
  · rw [(h4.1 j e).1]; exact Nat.zero_le _
  · rw [h4.2 j (by omega) hj]; exact Nat.le_refl _
theorem fs_fin {F F2 F3 : Nat → Nat → Int64} {bE b2 b3 : Nat → Nat} {f : Nat → Int64} (h : ∀ j, j < 6 → (j < 6 → Fr F bE j) ∧ (6 ≤ j → F j = fun _ => 0)) (h2 : ∀ j, j < 8 → b2 j = 1) (h3 : ∀ j, j < 8 → b3 j = 1) : FS (va_up (ap (6 + 8) (ap 6 F F2) F3) 22 f) (va_up (ap (6 + 8) (ap 6 bE b2) b3) 22 1) := by
  refine ⟨fun j hj => ?_, fun j h1 hj => ?_⟩
  · unfold Fr
    rw [va_up_ne _ _ (by omega), va_up_ne _ _ (by omega), ap_l _ _ (by omega), ap_l _ _ (by omega), ap_l _ _ (by omega), ap_l _ _ (by omega)]
    exact (h j hj).1 hj
  · by_cases e : j = 22
    · subst e; exact va_up_self _ _ _
    · rw [va_up_ne _ _ e]
      by_cases e2 : j < 14
      · rw [ap_l _ _ (by omega), ap_r _ _ (by omega)]; exact h2 _ (by omega)
      · rw [ap_r _ _ (by omega)]; exact h3 _ (by omega)
theorem ap_A {n m : Nat} {sa sb : Nat → Nat} {fA : Nat → Option Nat} {j q : Nat} (hm : n + j ≠ m) (hj : fA j = some (sb j)) : fA j = some (va_up (ap n sa sb) m q (n + j)) := by
  rw [va_up_ne _ _ hm, ap_r _ _ (by omega), Nat.add_sub_cancel_left]; exact hj
