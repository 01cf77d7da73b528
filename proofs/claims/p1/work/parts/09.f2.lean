/-- while a desk is built: its cell, n shapes of it -/
def DI (G : GG) (bn nn : Nat) (μ1 : mp) (d : Nat) (fs : List Value) (n : Nat) (sa la bE : Nat → Nat) (F : Nat → Nat → Int64) : Prop := μ1 d = some (.inr (6, fs)) ∧ (∀ j, j < n → SHc G bn nn μ1 (sa j) (la j) (bE j) (F j)) ∧ (∀ i j, i < n → j < n → i ≠ j → sa i ≠ sa j ∧ la i ≠ la j)
theorem DI.apn {G : GG} {bn nn : Nat} {μ1 : mp} {d n : Nat} {fs : List Value} {sa la bE : Nat → Nat} {F : Nat → Nat → Int64} (h : DI G bn nn μ1 d fs n sa la bE F) {a : Nat} (ha : μ1 a = none) : ∀ j, j < n → sa j ≠ a ∧ la j ≠ a := by
  intro j hj
  obtain ⟨a1, a3⟩ := h.2.1 j hj
  exact ⟨mp_nn a1 ha, mp_nn a3 ha⟩
theorem DI.set {G : GG} {bn nn : Nat} {μ1 : mp} {d n a : Nat} {fs : List Value} {sa la bE : Nat → Nat} {F : Nat → Nat → Int64} {e : va_E} (h : DI G bn nn μ1 d fs n sa la bE F) (hd : d ≠ a) (h1 : ∀ j, j < n → sa j ≠ a ∧ la j ≠ a) : DI G bn nn (mu μ1 a e) d fs n sa la bE F :=
  ⟨(mu_n hd).trans h.1, fun j hj => (h.2.1 j hj).set (h1 j hj).1 (h1 j hj).2, h.2.2⟩
theorem DI.fld {G : GG} {bn nn : Nat} {μ1 : mp} {d n : Nat} {fs fs' : List Value} {sa la bE : Nat → Nat} {F : Nat → Nat → Int64} (h : DI G bn nn μ1 d fs n sa la bE F) : DI G bn nn (mu μ1 d (.inr (6, fs'))) d fs' n sa la bE F :=
  ⟨mu_s _ _ _, fun j hj => by
    obtain ⟨a1, a3⟩ := h.2.1 j hj
    exact (h.2.1 j hj).set (mp_ne a1 h.1 (by simp)) (mp_ne a3 h.1 (by simp)), h.2.2⟩
theorem DI.first {G : GG} {bn nn : Nat} {μ μ1 : mp} {d n : Nat} {fs : List Value} {sa la bE : Nat → Nat} {F : Nat → Nat → Int64} (hd : μ d = some (.inr (6, fs))) (h : EM G bn nn μ μ1 n sa la bE F) : DI G bn nn μ1 d fs n sa la bE F :=
  ⟨h.1 d _ hd, fun j hj => (h.2.1 j hj).1, h.2.2⟩
def ap {α : Type} (n : Nat) (f g : Nat → α) : Nat → α := fun i => if i < n then f i else g (i - n)
theorem ap_l {α : Type} {n i : Nat} (f g : Nat → α) (h : i < n) : ap n f g i = f i := if_pos h
theorem ap_r {α : Type} {n i : Nat} (f g : Nat → α) (h : ¬ i < n) : ap n f g i = g (i - n) := if_neg h
theorem DI.app {G : GG} {bn nn : Nat} {μ1 μ2 : mp} {d n m : Nat} {fs : List Value} {sa la bE sb lb bb : Nat → Nat} {F F2 : Nat → Nat → Int64} (h : DI G bn nn μ1 d fs n sa la bE F) (h2 : EM G bn nn μ1 μ2 m sb lb bb F2) : DI G bn nn μ2 d fs (n + m) (ap n sa sb) (ap n la lb) (ap n bE bb) (ap n F F2) := by
  refine ⟨h2.1 _ _ h.1, fun j hj => ?_, fun i j hi hj hij => ?_⟩
  · by_cases e : j < n
    · rw [ap_l _ _ e, ap_l _ _ e, ap_l _ _ e, ap_l _ _ e]
      exact (h.2.1 j e).ext h2.1
    · rw [ap_r _ _ e, ap_r _ _ e, ap_r _ _ e, ap_r _ _ e]
      exact (h2.2.1 (j - n) (by omega)).1
  · by_cases e : i < n
    · by_cases e2 : j < n
      · rw [ap_l _ _ e, ap_l _ _ e, ap_l _ _ e2, ap_l _ _ e2]
        exact h.2.2 i j e e2 hij
      · rw [ap_l _ _ e, ap_l _ _ e, ap_r _ _ e2, ap_r _ _ e2]
        obtain ⟨-, b2, b4⟩ := h2.2.1 (j - n) (by omega)
        exact ⟨(h.apn b2 i e).1, (h.apn b4 i e).2⟩
    · by_cases e2 : j < n
      · rw [ap_r _ _ e, ap_r _ _ e, ap_l _ _ e2, ap_l _ _ e2]
        obtain ⟨-, b2, b4⟩ := h2.2.1 (i - n) (by omega)
        exact ⟨Ne.symm (h.apn b2 j e2).1, Ne.symm (h.apn b4 j e2).2⟩
      · rw [ap_r _ _ e, ap_r _ _ e, ap_r _ _ e2, ap_r _ _ e2]
        exact h2.2.2 (i - n) (j - n) (by omega) (by omega) (by omega)
theorem DI.one {G : GG} {bn nn : Nat} {μ1 : mp} {d n q l b : Nat} {fs : List Value} {sa la bE : Nat → Nat} {F : Nat → Nat → Int64} {f : Nat → Int64} {o : va_E} (h : DI G bn nn μ1 d fs n sa la bE F) (h1 : μ1 q = none) (h3 : mu μ1 q o l = none) :
    DI G bn nn (mu (mu μ1 q (.inr (4, [.ref bn, .ref nn, .ref l, .int (nI b)]))) l (.inl (G.2 0, 78, .inr (.inl f)))) d fs (n + 1) (va_up sa n q) (va_up la n l) (va_up bE n b) (va_up F n f) := by
  obtain ⟨b1, b2⟩ := mu_none h3
  have e0 : EM G bn nn μ1 μ1 0 sa la bE F := EM.zero G bn nn (Ext.rf μ1) _ _ _ _
  have e1 := e0.add (b := b) (f := f) h1 b2 b1
  have e2 := h.app e1
  have e3 : ∀ {α : Type} (f : Nat → α) (v : α) (j : Nat), j < n + 1 → ap n f (va_up f 0 v) j = va_up f n v j := by
    intro α f v j hj
    by_cases e : j = n
    · subst e; rw [ap_r _ _ (by omega), va_up_self, Nat.sub_self, va_up_self]
    · rw [ap_l _ _ (by omega), va_up_ne _ _ e]
  refine ⟨e2.1, fun j hj => ?_, fun i j hi hj hij => ?_⟩
  · have := e2.2.1 j (by omega)
    rw [e3 _ _ _ hj, e3 _ _ _ hj, e3 _ _ _ hj, e3 _ _ _ hj] at this
    exact this
  · have := e2.2.2 i j (by omega) (by omega) hij
    rw [e3 _ _ _ hi, e3 _ _ _ hi, e3 _ _ _ hj, e3 _ _ _ hj] at this
    exact this
theorem DI.sh {G : GG} {bn nn : Nat} {μ1 : mp} {d n j b : Nat} {fs : List Value} {sa la bE : Nat → Nat} {F : Nat → Nat → Int64} {g : Nat → Int64} (h : DI G bn nn μ1 d fs n sa la bE F) (hj : j < n) : DI G bn nn (mu (mu μ1 (sa j) (.inr (4, [.ref bn, .ref nn, .ref (la j), .int (nI b)]))) (la j) (.inl (G.2 0, 78, .inr (.inl g)))) d fs n sa la (va_up bE j b) (va_up F j g) := by
  obtain ⟨j1, j3⟩ := h.2.1 j hj
  refine ⟨(mu_n (mp_ne h.1 j3 (by simp))).trans ((mu_n (mp_ne h.1 j1 (by simp))).trans h.1), fun i hi => ?_, h.2.2⟩
  obtain ⟨i1, i3⟩ := h.2.1 i hi
  by_cases e : i = j
  · subst e
    rw [va_up_self, va_up_self]
    exact ⟨(mu_n (mp_ne j1 j3 (by simp))).trans (mu_s _ _ _), mu_s _ _ _⟩
  · obtain ⟨d1, d3⟩ := h.2.2 i j hi hj e
    rw [va_up_ne _ _ e, va_up_ne _ _ e]
    exact ⟨(mu_n (mp_ne i1 j3 (by simp))).trans ((mu_n d1).trans i1), (mu_n d3).trans ((mu_n (mp_ne i3 j1 (by simp))).trans i3)⟩
theorem BF.sh {G : GG} {μ1 : mp} {bn nn s9 lo s l b : Nat} {nf : List Value} {f : Nat → Int64} {e1 e2 : va_E} (h : BF G μ1 bn nn s9 lo nf) (hs : SHc G bn nn μ1 s l b f) : BF G (mu (mu μ1 s e1) l e2) bn nn s9 lo nf :=
  (h.set (mp_ne h.1 hs.1 (by simp)) (mp_ne h.2.1 hs.1 (by simp)) (mp_ne h.2.2.1 hs.1 (by simp)) (mp_ne h.2.2.2 hs.1 (by simp))).set (mp_ne h.1 hs.2 (by simp)) (mp_ne h.2.1 hs.2 (by simp)) (mp_ne h.2.2.1 hs.2 (by simp)) (mp_ne h.2.2.2 hs.2 (by simp))
/-- a slot's shape that lets all places be -/
def Fr (F : Nat → Nat → Int64) (bE : Nat → Nat) (j : Nat) : Prop := bE j = 0 ∧ ∀ c, c < 78 → F j c = tz c
/-- the desk's arrays, and which shapes they hold -/
def DA (G : GG) (μ1 : mp) (aS aL aR aO : Nat) (sa : Nat → Nat) (fS fL fR : Nat → Option Nat) (fO : Nat → Int64) : Prop := μ1 aS = some (.inl (G.2 3, 6, .inr (.inr (.inr (.inr fS))))) ∧ μ1 aL = some (.inl (G.2 3, 8, .inr (.inr (.inr (.inr fL))))) ∧ μ1 aR = some (.inl (G.2 3, 8, .inr (.inr (.inr (.inr fR))))) ∧ μ1 aO = some (.inl (G.2 0, 6, .inr (.inl fO))) ∧ (∀ j, j < 6 → fS j = some (sa j)) ∧ (∀ j, j < 8 → fL j = some (sa (6 + j))) ∧ (∀ j, j < 8 → fR j = some (sa (14 + j)))
theorem DA.set {G : GG} {μ1 : mp} {aS aL aR aO a : Nat} {sa : Nat → Nat} {fS fL fR : Nat → Option Nat} {fO : Nat → Int64} {e : va_E} (h : DA G μ1 aS aL aR aO sa fS fL fR fO) (h1 : aS ≠ a) (h2 : aL ≠ a) (h3 : aR ≠ a) (h4 : aO ≠ a) : DA G (mu μ1 a e) aS aL aR aO sa fS fL fR fO :=
  ⟨(mu_n h1).trans h.1, (mu_n h2).trans h.2.1, (mu_n h3).trans h.2.2.1, (mu_n h4).trans h.2.2.2.1, h.2.2.2.2⟩
def Stps (μ1 : mp) (fT : Nat → Option Nat) (sp : Nat → Nat) (n : Nat) : Prop := ∀ j, j < n → fT j = some (sp j) ∧ ∃ x1 x2 x3 x4 x5 x6 : Int32, μ1 (sp j) = some (.inr (5, [.int x1, .int x2, .int x3, .int x4, .int x5, .int x6]))
theorem Stps.next {G : GG} {μ1 : mp} {fT : Nat → Option Nat} {sp : Nat → Nat} {n q a : Nat} (h : Stps μ1 fT sp n) (hq : μ1 q = none) (ha : μ1 a = some (.inl (G.2 4, 20, .inr (.inr (.inr (.inr fT)))))) : Stps (mu (mu μ1 q (.inr (5, [.int (nI 0), .int (nI 0), .int (nI 0), .int (nI 0), .int (nI 0), .int (nI 0)]))) a (.inl (G.2 4, 20, .inr (.inr (.inr (.inr (va_up fT n (some q)))))))) (va_up fT n (some q)) (va_up sp n q) (n + 1) := by
  intro j hj
  by_cases e : j = n
  · subst e; rw [va_up_self, va_up_self]; exact ⟨rfl, _, _, _, _, _, _, (mu_n (Ne.symm (mp_nn ha hq))).trans (mu_s _ _ _)⟩
  · rw [va_up_ne _ _ e, va_up_ne _ _ e]
    obtain ⟨h1, x1, x2, x3, x4, x5, x6, h2⟩ := h j (by omega)
    exact ⟨h1, x1, x2, x3, x4, x5, x6, (mu_n (mp_ne h2 ha (by simp))).trans ((mu_n (mp_nn h2 hq)).trans h2)⟩
theorem DI.new {G : GG} {bn nn : Nat} {μ1 : mp} {d n q : Nat} {fs : List Value} {sa la bE : Nat → Nat} {F : Nat → Nat → Int64} {e : va_E} (h : DI G bn nn μ1 d fs n sa la bE F) (hn : μ1 q = none) : DI G bn nn (mu μ1 q e) d fs n sa la bE F := h.set (mp_nn h.1 hn) (h.apn hn)
theorem DI.apT {G : GG} {bn nn : Nat} {μ1 : mp} {d n a : Nat} {fs : List Value} {sa la bE : Nat → Nat} {F : Nat → Nat → Int64} {fT : Nat → Option Nat} (h : DI G bn nn μ1 d fs n sa la bE F) (ha : μ1 a = some (.inl (G.2 4, 20, .inr (.inr (.inr (.inr fT)))))) : ∀ j, j < n → sa j ≠ a ∧ la j ≠ a := by
  intro j hj
  obtain ⟨a1, a3⟩ := h.2.1 j hj
  exact ⟨mp_ne a1 ha (by simp), mp_ne a3 ha (by simp)⟩
theorem BF.T {G : GG} {μ1 : mp} {bn nn s9 lo a : Nat} {nf : List Value} {fT : Nat → Option Nat} {e : va_E} (h : BF G μ1 bn nn s9 lo nf) (ha : μ1 a = some (.inl (G.2 4, 20, .inr (.inr (.inr (.inr fT)))))) : BF G (mu μ1 a e) bn nn s9 lo nf := h.set (mp_ne h.1 ha (by simp)) (mp_ne h.2.1 ha (by simp)) (mp_ne h.2.2.1 ha (by simp)) (mp_ne h.2.2.2 ha (by simp))
theorem BF.d {G : GG} {μ1 : mp} {bn nn s9 lo a : Nat} {nf fs : List Value} {e : va_E} (h : BF G μ1 bn nn s9 lo nf) (ha : μ1 a = some (.inr (6, fs))) : BF G (mu μ1 a e) bn nn s9 lo nf := h.set (mp_ne h.1 ha (by simp)) (mp_ne h.2.1 ha (by simp)) (mp_ne h.2.2.1 ha (by simp)) (mp_ne h.2.2.2 ha (by simp))
theorem fr_s {F : Nat → Nat → Int64} {bE : Nat → Nat} {i : Nat} {g : Nat → Int64} (h : ∀ j, j < 6 → (j < i → Fr F bE j) ∧ (i ≤ j → F j = fun _ => 0)) (hi : i < 6) (hg : ∀ c, c < 78 → g c = tz c) : ∀ j, j < 6 → (j < i + 1 → Fr (va_up F i g) (va_up bE i 0) j) ∧ (i + 1 ≤ j → va_up F i g j = fun _ => 0) := by
  intro j hj
  by_cases e : j = i
  · subst e
    refine ⟨fun _ => ⟨va_up_self _ _ _, ?_⟩, fun h1 => absurd h1 (by omega)⟩
    rw [va_up_self]; exact hg
  · refine ⟨fun h1 => ?_, fun h1 => by rw [va_up_ne _ _ e]; exact (h j hj).2 (by omega)⟩
    have := (h j hj).1 (by omega)
    exact ⟨(va_up_ne _ _ e).trans this.1, fun c hc => by rw [va_up_ne _ _ e]; exact this.2 c hc⟩
/-- the desk's shapes, and what they share -/
def SHS (G : GG) (μ : mp) (bn nn s9 lo : Nat) (nf : List Value) (sa la bE : Nat → Nat) (F : Nat → Nat → Int64) (g : Nat → Int64) (w9 : Nat → Int32) : Prop := (μ bn = some (.inr (0, [.ref nn, .ref s9, .ref lo])) ∧ μ nn = some (.inr (3, nf)) ∧ μ s9 = some (.inl (G.2 0, 13, .inr (.inl g))) ∧ μ lo = some (.inl (G.2 2, 78, .inl w9))) ∧ (∀ j, j < 23 → SHc G bn nn μ (sa j) (la j) (bE j) (F j) ∧ bE j ≤ 1) ∧ (∀ i j, i < 23 → j < 23 → i ≠ j → sa i ≠ sa j ∧ la i ≠ la j)
/-- a desk: its cell, its arrays, its steps, its 23 shapes -/
def DK (G : GG) (μ : mp) (d aS aL aR aT aO bn nn s9 lo sc : Nat) (nf : List Value) (sa la bE : Nat → Nat) (F : Nat → Nat → Int64) (g : Nat → Int64) (w9 : Nat → Int32) (fS fL fR fT : Nat → Option Nat) (sp : Nat → Nat) (fO : Nat → Int64) : Prop := μ d = some (.inr (6, [.ref aS, .ref (sa 22), .ref aT, .ref aO, .int (nI sc), .ref aL, .ref aR])) ∧ DA G μ aS aL aR aO sa fS fL fR fO ∧ μ aT = some (.inl (G.2 4, 20, .inr (.inr (.inr (.inr fT))))) ∧ Stps μ fT sp 20 ∧ SHS G μ bn nn s9 lo nf sa la bE F g w9 ∧ sc ≤ 20
def FS (F : Nat → Nat → Int64) (bE : Nat → Nat) (g : Nat → Int64) : Prop := (∀ j, j < 6 → Fr F bE j) ∧ (∀ j, 6 ≤ j → j < 23 → bE j = 1 ∧ Za (F j)) ∧ Sn g
theorem za0 {f : Nat → Int64} (h : f = fun _ => 0) : Za f := by subst h; exact fun _ _ => Or.inr rfl
theorem DI.dk {G : GG} {μ1 : mp} {d aS aL aR aT aO bn nn s9 lo : Nat} {nf : List Value} {sa la bE : Nat → Nat} {F : Nat → Nat → Int64} {fS fL fR fT : Nat → Option Nat} {sp : Nat → Nat} {fO : Nat → Int64} (h : DI G bn nn μ1 d [.ref aS, .ref (sa 22), .ref aT, .ref aO, .int (nI 0), .ref aL, .ref aR] 23 sa la bE F) (hb : BF G μ1 bn nn s9 lo nf) (h1 : DA G μ1 aS aL aR aO sa fS fL fR fO) (h2 : μ1 aT = some (.inl (G.2 4, 20, .inr (.inr (.inr (.inr fT)))))) (h3 : Stps μ1 fT sp 20) (h4 : FS F bE (fun _ => 0)) : DK G μ1 d aS aL aR aT aO bn nn s9 lo 0 nf sa la bE F (fun _ => 0) (fun _ => 0) fS fL fR fT sp fO := by
  refine ⟨h.1, h1, h2, h3, ⟨hb, fun j hj => ⟨h.2.1 j hj, ?_⟩, h.2.2⟩, Nat.zero_le _⟩
  by_cases e : j < 6
  · rw [(h4.1 j e).1]; exact Nat.zero_le _
  · rw [(h4.2.1 j (by omega) hj).1]; exact Nat.le_refl _
theorem fs_fin {F F2 F3 : Nat → Nat → Int64} {bE b2 b3 : Nat → Nat} (h : ∀ j, j < 6 → (j < 6 → Fr F bE j) ∧ (6 ≤ j → F j = fun _ => 0)) (h2 : ∀ j, j < 8 → b2 j = 1 ∧ F2 j = fun _ => 0) (h3 : ∀ j, j < 8 → b3 j = 1 ∧ F3 j = fun _ => 0) : FS (va_up (ap (6 + 8) (ap 6 F F2) F3) 22 (fun _ => 0)) (va_up (ap (6 + 8) (ap 6 bE b2) b3) 22 1) (fun _ => 0) := by
  refine ⟨fun j hj => ?_, fun j h1 hj => ?_, fun _ _ => Pn.z⟩
  · unfold Fr
    rw [va_up_ne _ _ (by omega), va_up_ne _ _ (by omega), ap_l _ _ (by omega), ap_l _ _ (by omega), ap_l _ _ (by omega), ap_l _ _ (by omega)]
    exact (h j hj).1 hj
  · by_cases e : j = 22
    · subst e; exact ⟨va_up_self _ _ _, za0 (va_up_self _ _ _)⟩
    · rw [va_up_ne _ _ e, va_up_ne _ _ e]
      by_cases e2 : j < 14
      · rw [ap_l _ _ (by omega), ap_r _ _ (by omega), ap_l _ _ (by omega), ap_r _ _ (by omega)]; exact ⟨(h2 _ (by omega)).1, za0 (h2 _ (by omega)).2⟩
      · rw [ap_r _ _ (by omega), ap_r _ _ (by omega)]; exact ⟨(h3 _ (by omega)).1, za0 (h3 _ (by omega)).2⟩
theorem ap_A {n m : Nat} {sa sb : Nat → Nat} {fA : Nat → Option Nat} {j q : Nat} (hm : n + j ≠ m) (hj : fA j = some (sb j)) : fA j = some (va_up (ap n sa sb) m q (n + j)) := by
  rw [va_up_ne _ _ hm, ap_r _ _ (by omega), Nat.add_sub_cancel_left]; exact hj
theorem ps0 {f : Nat → Int64} (h : f = fun _ => 0) : Ps f := by subst h; exact fun _ _ => Pn.z.ng
