/-! The start: what the tables and the given say of it -/
theorem st_arr {args : Array Value} {s : State} {ty : FieldType} (h : (Cond.arrayClass ty).before args s = true) : ∃ cA : ClassId, ArrOfT s cA ty ∧ s.vm.findClass ("[" ++ ty.toString) = some cA := by
  obtain ⟨cA, kA, comp, h1, h2, h3⟩ := Cond.arrayClass_spec h
  exact ⟨cA, fun n z => ⟨fun k h => (by cases h), kA, h2, comp, h3⟩, h1⟩
theorem st_arq {args : Array Value} {s : State} {C : String} (h : (Cond.arrayOver (.object C)).before args s = true) : ∃ cA : ClassId, ArrOfT s cA (.object C) ∧ va_RA s cA (.object C) := by
  obtain ⟨comp, cA, kA, f1, f0, f2, f3, f4⟩ := Cond.arrayOver_spec h
  exact ⟨cA, fun n z => ⟨fun k h => (by cases h), kA, f2, comp, f3⟩, kA, comp, f2, f3, f1, f4⟩
theorem st_k {args : Array Value} {s : State} {ws : List Cond} (hts : ∀ w ∈ ws, w.before args s = true)
    (i0 : ∀ w ∈ u_ws RX0 TX0 3, w ∈ ws) (i1 : ∀ w ∈ u_ws RX1 TX1 2, w ∈ ws) (i2 : ∀ w ∈ u_ws RX2 TX2 6, w ∈ ws) (i3 : ∀ w ∈ u_ws RX3 TX3 9, w ∈ ws) (i4 : ∀ w ∈ u_ws RX4 TX4 4, w ∈ ws) (i5 : ∀ w ∈ u_ws RX5 TX5 6, w ∈ ws) (i6 : ∀ w ∈ u_ws RX6 TX6 7, w ∈ ws) (i7 : ∀ w ∈ u_ws RX7 TX7 13, w ∈ ws)
    (j0 : (Cond.instantiable RX0 3).before args s = true) (j1 : (Cond.instantiable RX1 2).before args s = true) (j2 : (Cond.instantiable RX2 6).before args s = true) (j3 : (Cond.instantiable RX3 9).before args s = true) (j4 : (Cond.instantiable RX4 4).before args s = true) (j5 : (Cond.instantiable RX5 6).before args s = true) (j6 : (Cond.instantiable RX6 7).before args s = true) (j7 : (Cond.instantiable RX7 13).before args s = true)
    (aJ : (Cond.arrayClass .long).before args s = true) (aI : (Cond.arrayClass .int).before args s = true) (aZ : (Cond.arrayClass .boolean).before args s = true) (a4 : (Cond.arrayOver (.object RX4)).before args s = true) (a5 : (Cond.arrayOver (.object RX5)).before args s = true) (a2 : (Cond.arrayOver (.object RX2)).before args s = true) (a1 : (Cond.arrayOver (.object RX1)).before args s = true) : ∃ G : GG, va_K G.1 vwCl (tysG G) s := by
  obtain ⟨c0, iS0, h0⟩ := u_known (C := RX0) (T := TX0) (N := 3) (n := 3) hts i0 j0
  obtain ⟨c1, iS1, h1⟩ := u_known (C := RX1) (T := TX1) (N := 2) (n := 2) hts i1 j1
  obtain ⟨c2, iS2, h2⟩ := u_known (C := RX2) (T := TX2) (N := 6) (n := 6) hts i2 j2
  obtain ⟨c3, iS3, h3⟩ := u_known (C := RX3) (T := TX3) (N := 9) (n := 9) hts i3 j3
  obtain ⟨c4, iS4, h4⟩ := u_known (C := RX4) (T := TX4) (N := 4) (n := 4) hts i4 j4
  obtain ⟨c5, iS5, h5⟩ := u_known (C := RX5) (T := TX5) (N := 6) (n := 6) hts i5 j5
  obtain ⟨c6, iS6, h6⟩ := u_known (C := RX6) (T := TX6) (N := 7) (n := 7) hts i6 j6
  obtain ⟨c7, iS7, h7⟩ := u_known (C := RX7) (T := TX7) (N := 13) (n := 13) hts i7 j7
  obtain ⟨b0, k0⟩ := st_arr aJ
  obtain ⟨b1, k1⟩ := st_arr aI
  obtain ⟨b2, k2⟩ := st_arr aZ
  obtain ⟨b3, k3⟩ := st_arq a4
  obtain ⟨b4, k4⟩ := st_arq a5
  obtain ⟨b5, k5⟩ := st_arq a2
  obtain ⟨b6, k6⟩ := st_arq a1
  refine ⟨((fun k => if k = 0 then c0 else if k = 1 then c1 else if k = 2 then c2 else if k = 3 then c3 else if k = 4 then c4 else if k = 5 then c5 else if k = 6 then c6 else c7, fun k => if k = 0 then iS0 else if k = 1 then iS1 else if k = 2 then iS2 else if k = 3 then iS3 else if k = 4 then iS4 else if k = 5 then iS5 else if k = 6 then iS6 else iS7), fun k => if k = 0 then b0 else if k = 1 then b1 else if k = 2 then b2 else if k = 3 then b3 else if k = 4 then b4 else if k = 5 then b5 else b6), ?_, ?_⟩
  · intro k q hq
    match k, hq with
    | 0, hq => cases hq; exact h0
    | 1, hq => cases hq; exact h1
    | 2, hq => cases hq; exact h2
    | 3, hq => cases hq; exact h3
    | 4, hq => cases hq; exact h4
    | 5, hq => cases hq; exact h5
    | 6, hq => cases hq; exact h6
    | 7, hq => cases hq; exact h7
    | k + 8, hq => simp [vwCl] at hq
  · intro k q hq
    match k, hq with
    | 0, hq => cases hq; exact k0
    | 1, hq => cases hq; exact k1
    | 2, hq => cases hq; exact k2
    | 3, hq => cases hq; exact k3
    | 4, hq => cases hq; exact k4
    | 5, hq => cases hq; exact k5
    | 6, hq => cases hq; exact k6
    | k + 7, hq => simp [tysG] at hq
theorem st_str : ∀ q ∈ strs, Cond.stringRef RX6 q.1 q.2 ∈ lw_tbl := by decide +kernel
theorem st_dec : ∀ x ∈ exI, Cond.declares (Jvm.Bundle.initS x) ∈ lw_tbl := by decide +kernel
theorem st_all {s : State} {b : Nat} (hts : ∀ w ∈ lw_tbl, w.before #[Value.ref b] s = true) (hgv : (Jvm.Cond.and given_1 narrow_1).before #[Value.ref b] s = true) : ∃ G : GG, KK G s.heap.size s ∧ DcI s := by
  obtain ⟨G, hk⟩ := st_k hts inX0 inX1 inX2 inX3 inX4 inX5 inX6 inX7 (hts (.instantiable RX0 3) (by decide +kernel)) (hts (.instantiable RX1 2) (by decide +kernel)) (hts (.instantiable RX2 6) (by decide +kernel)) (hts (.instantiable RX3 9) (by decide +kernel)) (hts (.instantiable RX4 4) (by decide +kernel)) (hts (.instantiable RX5 6) (by decide +kernel)) (hts (.instantiable RX6 7) (by decide +kernel)) (hts (.instantiable RX7 13) (by decide +kernel))
    (hts (.arrayClass .long) (by decide +kernel)) (hts (.arrayClass .int) (by decide +kernel)) (hts (.arrayClass .boolean) (by decide +kernel)) (hts (.arrayOver (.object RX4)) (by decide +kernel)) (hts (.arrayOver (.object RX5)) (by decide +kernel)) (hts (.arrayOver (.object RX2)) (by decide +kernel)) (hts (.arrayOver (.object RX1)) (by decide +kernel))
  have hs := flat_of_before _ hgv
  have hA : ∀ a : Nat, a < s.heap.size → ¬ (fun q => s.heap.size ≤ q) a := fun a h h2 => Nat.lt_irrefl _ (Nat.lt_of_lt_of_le h h2)
  refine ⟨G, ⟨hk, ⟨va_Nw.of rfl (hts (.methodLinkNest RX4 70 yX6_negation RX6) (by decide +kernel)), va_Nw.of rfl (hts (.methodLinkNest RX6 52 yX5_init RX6) (by decide +kernel))⟩, ⟨va_AO.of (hts (.arrayOver (.object RX4)) (by decide +kernel)), va_AO.of (hts (.arrayOver (.object RX5)) (by decide +kernel)), va_AO.of (hts (.arrayOver (.object RX2)) (by decide +kernel)), va_AO.of (hts (.arrayOver (.object RX1)) (by decide +kernel))⟩, ?_, ⟨va_Nw.of rfl (hts (.castable exA exA) (by decide +kernel)), va_Nw.of rfl (hts (.castable exS exS) (by decide +kernel))⟩, ?_, ?_⟩, ?_⟩
  · intro q hq
    have h1 := hts _ (st_str q hq)
    obtain ⟨k, cf, i, a, -, -, -, -, -, hev⟩ := Cond.stringRef_spec (hk.1 6 _ rfl).2.1 h1
    exact ⟨a, vk_R.of h1 hev⟩
  · exact vx_Zqof (hts (.laysStatic Jvm.Bundle.tN "UNASSIGNED_STACK" Jvm.Bundle.steD) (by decide +kernel)) (hts (.initialized Jvm.Bundle.tN) (by decide +kernel)) (hs (.isRef (.static Jvm.Bundle.tN "UNASSIGNED_STACK" Jvm.Bundle.steD)) (by decide +kernel)) hA
  · exact vx_Zqof (hts (.laysStatic Jvm.Bundle.tN "SUPPRESSED_SENTINEL" Jvm.Bundle.listD) (by decide +kernel)) (hts (.initialized Jvm.Bundle.tN) (by decide +kernel)) (hs (.isRef (.static Jvm.Bundle.tN "SUPPRESSED_SENTINEL" Jvm.Bundle.listD)) (by decide +kernel)) hA
  · exact fun x hx => va_Nw.of rfl (hts _ (st_dec x hx))
