def Za (f : Nat → Int64) : Prop := ∀ c, c < 158 → f c = INF ∨ f c = 0
def ZZ (f g : Nat → Int64) : Prop := Za f → Za g
theorem Za.upd {f : Nat → Int64} (h : Za f) {c : Nat} {v : Int64} (hv : v = INF ∨ v = 0) : Za (vp_updL f c v) := by
  intro x hx
  by_cases e : x = c
  · subst e; rw [pk_uLs]; exact hv
  · rw [pk_uLn e]; exact h x hx
theorem Za.sum {f : Nat → Int64} (h : Za f) {i j : Nat} (hi : i < 158) (hj : j < 158) : sm (f i) (f j) = INF ∨ sm (f i) (f j) = 0 := (sm_z (h i hi) (h j hj)).imp id And.left
theorem Za.half {f : Nat → Int64} (h : Za f) {i : Nat} (hi : i < 158) : hf (f i) = INF ∨ hf (f i) = 0 := by
  rcases h i hi with e | e <;> rw [e]
  · left; rfl
  · right; decide
theorem Za.neg {f : Nat → Int64} (h : Za f) {i : Nat} (hi : i < 158) : ng (f i) = INF ∨ ng (f i) = 0 := by
  rcases h i hi with e | e <;> rw [e]
  · left; decide
  · right; decide
theorem Za.low {f : Nat → Int64} (h : Za f) {i j m : Nat} (hj : j < 158) (hm : m < 158) : Za (lw f i j m) := by
  unfold lw
  split
  · exact (h.upd (h.sum hj hm)).upd (h.sum hj hm)
  · exact h.upd (h.sum hj hm)
theorem Sm.rf (f : Nat → Int64) : Sm f f := fun _ _ => rfl
theorem zb_n {b : Nat} (h : b ≤ 1) : narrow .boolean (.int (nI b)) = .int (nI b) := by
  rcases (show b = 0 ∨ b = 1 by omega) with rfl | rfl <;> rfl
theorem zb_f {b : Nat} (h : b ≤ 1) : fits .boolean (.int (nI b)) = true := by
  rcases (show b = 0 ∨ b = 1 by omega) with rfl | rfl <;> rfl
theorem nb_0 {b : Nat} (hb : b ≤ 1) (h : nI b = 0) : b = 0 := by
  rcases (show b = 0 ∨ b = 1 by omega) with rfl | rfl
  · rfl
  · exact absurd h (by decide)
theorem nb_1 {b : Nat} (hb : b ≤ 1) (h : ¬ nI b = 0) : b = 1 := by
  rcases (show b = 0 ∨ b = 1 by omega) with rfl | rfl
  · exact absurd rfl h
  · rfl

def RD (i p q c : Nat) : Prop := (2 * i ≤ c / 12 ∧ c / 12 < p) ∨ (2 * i ≤ c % 12 ∧ c % 12 < p) ∨ (c / 12 = p ∧ c % 12 < q) ∨ (c % 12 = p ∧ c / 12 < q)
def RelJ (f g : Nat → Int64) (i p q : Nat) : Prop := ∀ c, c < 144 → (RD i p q c → g c = INF) ∧ (¬ RD i p q c → g c = f c)
def Hi (f g : Nat → Int64) : Prop := ∀ c, 144 ≤ c → g c = f c
theorem Hi.upd {f g : Nat → Int64} (h : Hi f g) {c : Nat} (hc : c < 144) (v : Int64) : Hi f (vp_updL g c v) := fun x hx => by rw [pk_uLn (by omega)]; exact h x hx
def RelI (f g : Nat → Int64) (i p q : Nat) : Prop := RelJ f g i p q ∧ Hi f g
theorem RelI.z (f : Nat → Int64) (i : Nat) : RelI f f i (2 * i) 0 := by
  refine ⟨?_, fun _ _ => rfl⟩
  intro c hc
  refine ⟨fun h => ?_, fun _ => rfl⟩
  unfold RD at h; omega
theorem RelI.s {f g : Nat → Int64} {i p q : Nat} (hi : 2 * i ≤ p) (hp : p < 12) (hq : q < 12) (h : RelI f g i p q) : RelI f (vp_updL (vp_updL g (p * 12 + q) INF) (q * 12 + p) INF) i p (q + 1) := by
  refine ⟨?_, (h.2.upd (by omega) _).upd (by omega) _⟩
  intro c hc
  obtain ⟨h1, h2⟩ := h.1 c hc
  by_cases e1 : c = q * 12 + p
  · subst e1
    rw [pk_uLs]
    exact ⟨fun _ => rfl, fun h3 => absurd (show RD i p (q + 1) (q * 12 + p) by unfold RD; omega) h3⟩
  · rw [pk_uLn e1]
    by_cases e2 : c = p * 12 + q
    · subst e2
      rw [pk_uLs]
      exact ⟨fun _ => rfl, fun h3 => absurd (show RD i p (q + 1) (p * 12 + q) by unfold RD; omega) h3⟩
    · rw [pk_uLn e2]
      refine ⟨fun h3 => h1 ?_, fun h3 => h2 (fun h4 => h3 ?_)⟩
      · unfold RD at *; omega
      · unfold RD at *; omega
theorem RelI.n {f g : Nat → Int64} {i p : Nat} (hi : 2 * i ≤ p) (h : RelI f g i p 12) : RelI f g i (p + 1) 0 := by
  refine ⟨?_, h.2⟩
  intro c hc
  obtain ⟨h1, h2⟩ := h.1 c hc
  refine ⟨fun h3 => h1 ?_, fun h3 => h2 (fun h4 => h3 ?_)⟩
  · unfold RD at *; omega
  · unfold RD at *; omega
def rl (f : Nat → Int64) (i c : Nat) : Int64 := if c / 12 / 2 = i ∨ c % 12 / 2 = i then tz c else f c
theorem RelI.e {f g : Nat → Int64} {i p : Nat} (hi : i < 6) (hp : p = 2 * i + 2) (h : RelI f g i p 0) : (∀ c, c < 144 → vp_updL (vp_updL g (2 * i * 12 + (2 * i + 1)) 0) ((2 * i + 1) * 12 + 2 * i) 0 c = rl f i c) ∧ Hi f (vp_updL (vp_updL g (2 * i * 12 + (2 * i + 1)) 0) ((2 * i + 1) * 12 + 2 * i) 0) := by
  refine ⟨?_, (h.2.upd (by omega) _).upd (by omega) _⟩
  intro c hc
  obtain ⟨h1, h2⟩ := h.1 c hc
  subst hp
  unfold rl
  by_cases e1 : c = (2 * i + 1) * 12 + 2 * i
  · rw [e1, pk_uLs, if_pos (by omega), tz, if_pos (by unfold ne; split <;> omega)]
  · rw [pk_uLn e1]
    by_cases e2 : c = 2 * i * 12 + (2 * i + 1)
    · rw [e2, pk_uLs, if_pos (by omega), tz, if_pos (by unfold ne; split <;> omega)]
    · rw [pk_uLn e2]
      by_cases h3 : RD i (2 * i + 2) 0 c
      · rw [h1 h3, if_pos (by unfold RD at h3; omega), tz, if_neg (by unfold RD at h3; unfold ne; split <;> omega)]
      · rw [h2 h3, if_neg (by unfold RD at h3; omega)]

theorem aa_s {f g : Nat → Int64} {i : Nat} (h : ∀ c, c < 144 → (c / 12 / 2 < i ∨ c % 12 / 2 < i) → f c = tz c) (hg : ∀ c, c < 144 → g c = rl f i c) : ∀ c, c < 144 → (c / 12 / 2 < i + 1 ∨ c % 12 / 2 < i + 1) → g c = tz c := by
  intro c hc hi
  rw [hg c hc, rl]
  by_cases h1 : c / 12 / 2 = i ∨ c % 12 / 2 = i
  · rw [if_pos h1]
  · rw [if_neg h1]; exact h c hc (by omega)

theorem fc_1 {k c b : Nat} {f : Nat → Int64} {r : Int32} (hr : r = if f (158 * k + c) < 0 then (1 : Int32) else 0) (hc : ¬ r = 0) (h0 : k = 0) (h : ¬ f c < 0) : 1 = b := by
  subst h0
  rw [Nat.mul_zero, Nat.zero_add, if_neg h] at hr
  exact absurd hr hc
theorem RR.fc {f g : Nat → Int64} {b b2 : Nat} (h : RR f g b b) (h2 : (∀ p, p < 12 → ¬ g (p * 12 + ne p) < 0) → b2 = b) : RR f g b b2 := by
  refine ⟨fun hc => ?_, fun d hd hz => ?_⟩
  · obtain ⟨a1, -⟩ := h.1 hc
    exact ⟨a1, h2 (fun p hp => by rw [a1 _ (lt144 hp (ne_lt hp))]; exact hc.2.2.2.1 p hp)⟩
  · obtain ⟨a1, a2, -⟩ := h.2 d hd hz
    exact ⟨a1, a2, h2 (fun p hp => by rcases a1 p (ne p) hp (ne_lt hp) with h3 | ⟨h3, -⟩ <;> rw [h3]; exact INF_lt0; exact z_lt0)⟩

def Al (f g : Nat → Int64) (n : Nat) : Prop := ∀ p, p < n → g (144 + p) = hf (f (p * 12 + p))
theorem hf_z {x : Int64} (h : x = INF ∨ x = 0) : (hf x = INF ∧ x = INF) ∨ (hf x = 0 ∧ x = 0) := by
  rcases h with h | h
  · left; subst h; exact ⟨rfl, rfl⟩
  · right; subst h; exact ⟨by decide, rfl⟩
theorem cs_h {f g : Nat → Int64} {p : Nat} (hp : p < 12) (h : Sm f g ∧ Al f g p) : Sm f (vp_updL g (144 + p) (hf (g (p * 12 + p)))) ∧ Al f (vp_updL g (144 + p) (hf (g (p * 12 + p)))) (p + 1) := by
  obtain ⟨h1, h2⟩ := h
  refine ⟨h1.upd (by omega) _, fun q hq => ?_⟩
  by_cases e : q = p
  · subst e; rw [pk_uLs, h1 _ (lt144 hp hp)]
  · rw [pk_uLn (by omega)]; exact h2 q (by omega)
theorem cs_l {f g : Nat → Int64} {b p q : Nat} (hp : p < 12) (hq : q < 12) (h : RR f g b b ∧ Al f g 12) : RR f (lw g (p * 12 + q) (144 + p) (144 + q)) b b ∧ Al f (lw g (p * 12 + q) (144 + p) (144 + q)) 12 := by
  obtain ⟨h1, h2⟩ := h
  refine ⟨h1.low hp hq (fun hc => ?_) (fun d hd hz => ?_), fun x hx => ?_⟩
  · rw [h2 p hp, h2 q hq]; exact hc.2.2.1 p q hp hq
  · rw [h2 p hp, h2 q hq]
    have e1 := hz p p hp hp
    have e2 := hz q q hq hq
    have no : ∀ x, ¬ x = ne x := fun x => by unfold ne; split <;> omega
    have a1 := hf_z (x := f (p * 12 + p)) (e1.imp id And.left)
    have a2 := hf_z (x := f (q * 12 + q)) (e2.imp id And.left)
    rcases sm_z (x := hf (f (p * 12 + p))) (y := hf (f (q * 12 + q))) (a1.imp And.left And.left) (a2.imp And.left And.left) with h3 | ⟨h3, h4, h5⟩
    · exact Or.inl h3
    · refine Or.inr ⟨h3, Or.inr ?_⟩
      rcases e1 with e1 | ⟨-, e1 | e1⟩
      · rw [e1] at h4; exact absurd h4 (by decide)
      · exact absurd e1 (no p)
      · rcases e2 with e2 | ⟨-, e2 | e2⟩
        · rw [e2] at h5; exact absurd h5 (by decide)
        · exact absurd e2 (no q)
        · exact ⟨e1.1, e2.1⟩
  · rw [lw_x (by omega) (by have := lt144 hp hq; omega)]; exact h2 x hx

def SP (f g : Nat → Int64) (p q i : Nat) : Prop := (Cl f → g 156 = sm (f (i * 12 + ne p)) (f (p * 12 + q))) ∧ (∀ d, d % 2 = 0 → Zb d f → g 156 = INF ∨ (g 156 = 0 ∧ In d i q))
theorem zz {d p q : Nat} {f : Nat → Int64} (hz : Zb d f) (hp : p < 12) (hq : q < 12) : f (p * 12 + q) = INF ∨ f (p * 12 + q) = 0 := (hz p q hp hq).imp id And.left
theorem zin {d p q : Nat} {f : Nat → Int64} (hz : Zb d f) (hp : p < 12) (hq : q < 12) (h : f (p * 12 + q) = 0) : In d p q := by
  rcases hz p q hp hq with h1 | h1
  · rw [h1] at h; exact absurd h (by decide)
  · exact h1.2
theorem sm_in {d p r q : Nat} {f : Nat → Int64} (hz : Zb d f) (hp : p < 12) (hr : r < 12) (hq : q < 12) : sm (f (p * 12 + r)) (f (ne r * 12 + q)) = INF ∨ (sm (f (p * 12 + r)) (f (ne r * 12 + q)) = 0 ∧ In d p q) := by
  rcases sm_z (zz hz hp hr) (zz hz (ne_lt hr) hq) with h | ⟨h, h1, h2⟩
  · exact Or.inl h
  · exact Or.inr ⟨h, (zin hz hp hr h1).comp (zin hz (ne_lt hr) hq h2)⟩
theorem pt_0 {f g : Nat → Int64} {p q i b : Nat} (hp : p < 12) (hq : q < 12) (hi : i < 12) (h : RR f g b b) : RR f (vp_updL g 156 (sm (g (i * 12 + ne p)) (g (p * 12 + q)))) b b ∧ SP f (vp_updL g 156 (sm (g (i * 12 + ne p)) (g (p * 12 + q)))) p q i := by
  refine ⟨h.al ((Sm.rf g).upd (by omega) _), fun hc => ?_, fun d hd hz => ?_⟩
  · obtain ⟨a1, -⟩ := h.1 hc
    rw [pk_uLs, a1 _ (lt144 hi (ne_lt hp)), a1 _ (lt144 hp hq)]
  · obtain ⟨a1, -⟩ := h.2 d hd hz
    rw [pk_uLs]
    have := sm_in a1 hi (ne_lt hp) hq
    rw [ne_ne] at this
    exact this
theorem pt_1 {f g : Nat → Int64} {p q i j b : Nat} (hp : p < 12) (hq : q < 12) (hi : i < 12) (hj : j < 12) (h : RR f g b b ∧ SP f g p q i) : RR f (lw g (i * 12 + j) 156 (ne q * 12 + j)) b b ∧ SP f (lw g (i * 12 + j) 156 (ne q * 12 + j)) p q i := by
  obtain ⟨h1, h2, h3⟩ := h
  have hl := lt144 hi hj
  have e156 : lw g (i * 12 + j) 156 (ne q * 12 + j) 156 = g 156 := lw_x (by omega) (by omega)
  refine ⟨h1.low hi hj (fun hc => ?_) (fun d hd hz => ?_), fun hc => by rw [e156]; exact h2 hc, fun d hd hz => by rw [e156]; exact h3 d hd hz⟩
  · rw [h2 hc, (h1.1 hc).1 _ (lt144 (ne_lt hq) hj)]; exact hc.2.1 i j p q hi hj hp hq
  · have a1 := (h1.2 d hd hz).1
    have a2 := h3 d hd hz
    rcases sm_z (a2.imp id And.left) (zz a1 (ne_lt hq) hj) with h4 | ⟨h4, h5, h6⟩
    · exact Or.inl h4
    · refine Or.inr ⟨h4, ?_⟩
      rcases a2 with a2 | ⟨-, a2⟩
      · rw [a2] at h5; exact absurd h5 (by decide)
      · exact a2.comp (zin a1 (ne_lt hq) hj h6)
theorem pt_n {f g : Nat → Int64} {k p q b : Nat} {r : Int32} (hp : p < 12) (hq : q < 12) (h0 : k = 0) (hg : g = vp_updL f 156 (sm (f (p * 12 + q)) (f (ne q * 12 + ne p)))) (hr : r = if g (158 * k + 156) < 0 then (1 : Int32) else 0) (hc : ¬ r = 0) : RR f g b 1 := by
  subst h0
  have hn : ¬ ¬ sm (f (p * 12 + q)) (f (ne q * 12 + ne p)) < 0 := by
    intro h
    rw [Nat.mul_zero, Nat.zero_add, hg, pk_uLs, if_neg h] at hr
    exact hc hr
  refine ⟨fun hcl => absurd (hcl.2.2.2.2 p q hp hq) hn, fun d hd hz => absurd ?_ hn⟩
  rcases sm_in hz hp hq (ne_lt hp) with h | ⟨h, -⟩ <;> rw [h]
  · exact INF_lt0
  · exact z_lt0

def hs (f : Nat → Int64) (p q b : Nat) : Nat → Int64 := if b = 0 ∧ f 156 < f (p * 12 + q) then vp_updL (vp_updL f (p * 12 + q) (f 156)) (q * 12 + p) (f 156) else f

def sc (f : Nat → Int64) (i : Nat) (l9 u9 : Int64) (c : Nat) : Int64 := if c = (2 * i + 1) * 12 + (2 * i + 1) then -2 * l9 else if c = 2 * i * 12 + 2 * i then 2 * u9 else rl f i c
theorem sc_e {f g : Nat → Int64} {i : Nat} {l9 u9 : Int64} (h : ∀ c, c < 144 → g c = rl f i c) : Sm (sc f i l9 u9) (vp_updL (vp_updL g (2 * i * 12 + 2 * i) (2 * u9)) ((2 * i + 1) * 12 + (2 * i + 1)) (-2 * l9)) := by
  intro c hc
  unfold sc
  by_cases e1 : c = (2 * i + 1) * 12 + (2 * i + 1)
  · rw [if_pos e1, e1, pk_uLs]
  · rw [if_neg e1, pk_uLn e1]
    by_cases e2 : c = 2 * i * 12 + 2 * i
    · rw [if_pos e2, e2, pk_uLs]
    · rw [if_neg e2, pk_uLn e2]; exact h c hc
theorem RR.pre {f f2 g : Nat → Int64} {b b2 : Nat} (e : Sm f f2) (h : RR f2 g b b2) : RR f g b b2 := by
  refine ⟨fun hc => ?_, fun d hd hz => ?_⟩
  · obtain ⟨a1, a2⟩ := h.1 (hc.of e)
    exact ⟨fun c hl => (a1 c hl).trans (e c hl), a2⟩
  · obtain ⟨a1, a2, a3⟩ := h.2 d hd (hz.of e)
    exact ⟨a1, fun c hl hf => a2 c hl ((e c hl).trans hf), a3⟩

theorem cl_1 {f g : Nat → Int64} {b p q r : Nat} (hp : p < 12) (hq : q < 12) (hr : r < 12) (h : RR f g b b) : RR f (lw g (p * 12 + q) (p * 12 + r) (ne r * 12 + q)) b b := by
  refine h.low hp hq (fun hc => ?_) (fun d hd hz => sm_in (h.2 d hd hz).1 hp hr hq)
  rw [(h.1 hc).1 _ (lt144 hp hr), (h.1 hc).1 _ (lt144 (ne_lt hr) hq)]
  exact hc.1 p q r hp hq hr
theorem RR.b0 {f g : Nat → Int64} {b b2 : Nat} (h : RR f g b b2) (e : b2 = 0) : RR f g b 0 := e ▸ h
theorem RR.fc2 {f g : Nat → Int64} {b b1 b2 : Nat} (h : RR f g b b1) (h2 : (∀ p, p < 12 → ¬ g (p * 12 + ne p) < 0) → b2 = b1) : RR f g b b2 := h.tr ((RR.rf g b1).fc h2)
theorem cl_2 {f g : Nat → Int64} {b b1 p q r : Nat} (hp : p < 12) (hq : q < 12) (hr : r < 12) (h : RR f g b b1) : RR f (lw g (p * 12 + q) (p * 12 + r) (ne r * 12 + q)) b b1 := h.tr (cl_1 hp hq hr (RR.rf g b1))

theorem ct_s {f g g1 g2 : Nat → Int64} {k i : Nat} {r : Int32} (h0 : k = 0) (hi : i < 144) (h : ∀ c, c < 144 → ¬ g c < f c) (hs : Sm f g1) (hr : k = 0 → r = if g i < g1 i then (1 : Int32) else 0) (hc : ¬ r = 0) : Sm f g2 := by
  have e := hr h0
  rw [hs i hi, if_neg (h i hi)] at e
  exact absurd e hc

theorem ng_z {x : Int64} (h : x = INF ∨ x = 0) : ng x = INF ∨ ng x = 0 := by
  rcases h with h | h <;> subst h
  · left; decide
  · right; decide
theorem Zb.mono {d e : Nat} {f : Nat → Int64} (h : Zb d f) (hd : d ≤ e) : Zb e f := fun p q hp hq => (h p q hp hq).imp id (fun h1 => ⟨h1.1, h1.2.imp id (fun h2 => ⟨by omega, by omega⟩)⟩)
theorem se_h {d p b : Nat} {g : Nat → Int64} {v : Int64} (hp : p < d) (hp2 : p < 12) (hz : Zb d g) (hv : v = INF ∨ v = 0) : Zb d (hs (vp_updL g 156 v) p p b) ∧ ∀ c, c < 144 → g c = 0 → hs (vp_updL g 156 v) p p b c = 0 := by
  have hl := lt144 hp2 hp2
  unfold hs
  rw [pk_uLs]
  split
  · rename_i hc
    rw [pk_uLn (by omega)] at hc
    have e0 : v = 0 := by
      rcases hv with hv | hv
      · rw [hv] at hc
        rcases zz hz hp2 hp2 with h1 | h1 <;> rw [h1] at hc
        · exact absurd hc.2 (by decide)
        · exact absurd hc.2 (by decide)
      · exact hv
    subst e0
    refine ⟨fun x y hx hy => ?_, fun c hc2 h0 => ?_⟩
    · by_cases e1 : x * 12 + y = p * 12 + p
      · have e2 : x = p := by omega
        have e3 : y = p := by omega
        subst e2; subst e3
        rw [pk_uLs]; exact Or.inr ⟨rfl, Or.inr ⟨hp, hp⟩⟩
      · have := lt144 hx hy
        rw [pk_uLn e1, pk_uLn e1, pk_uLn (by omega)]; exact hz x y hx hy
    · by_cases e1 : c = p * 12 + p
      · subst e1; rw [pk_uLs]
      · rw [pk_uLn e1, pk_uLn e1, pk_uLn (by omega)]; exact h0
  · exact ⟨hz.of ((Sm.rf g).upd (by omega) v), fun c hc h0 => by rw [pk_uLn (by omega)]; exact h0⟩
theorem se_a {f g : Nat → Int64} {i b9 : Nat} (hi : i < 6) (hz : Zb (2 * i) f) (h : RR (hs (vp_updL f 156 0) (2 * i) (2 * i) 0) g 0 b9) : Zb (2 * i + 2) g ∧ g (2 * i * 12 + 2 * i) = 0 ∧ b9 = 0 := by
  obtain ⟨h1, -⟩ := se_h (b := 0) (show 2 * i < 2 * i + 2 by omega) (by omega) (hz.mono (by omega : 2 * i ≤ 2 * i + 2)) (Or.inr rfl : (0 : Int64) = INF ∨ (0 : Int64) = 0)
  obtain ⟨a1, a2, a3⟩ := h.2 (2 * i + 2) (by omega) h1
  refine ⟨a1, a2 _ (by omega) ?_, a3⟩
  have e : f (2 * i * 12 + 2 * i) = INF := by
    rcases hz (2 * i) (2 * i) (by omega) (by omega) with h2 | ⟨-, h2 | h2⟩
    · exact h2
    · unfold ne at h2; split at h2 <;> omega
    · omega
  unfold hs
  rw [pk_uLs, pk_uLn (show 2 * i * 12 + 2 * i ≠ 156 by omega), e, if_pos ⟨rfl, by decide⟩, pk_uLs]
theorem se_b {f : Nat → Int64} {k i p : Nat} {r : Int32} {X : Prop} (h0 : k = 0) (hp : p < 12) (hp2 : 2 * i ≤ p) (hz : Zb (2 * i) f) (hr : r = if f (158 * k + (p * 12 + p)) = INF then (1 : Int32) else 0) (hc : r = 0) : X := by
  subst h0
  exfalso
  rcases hz p p hp hp with h2 | ⟨-, h2 | h2⟩
  · rw [Nat.mul_zero, Nat.zero_add, if_pos h2, hc] at hr; exact absurd hr (by decide)
  · unfold ne at h2; split at h2 <;> omega
  · omega
theorem se_c {g g2 : Nat → Int64} {i p x b9 : Nat} (hi : i < 6) (hp : p < 2 * i + 2) (hx : x < 2 * i + 2) (h : Zb (2 * i + 2) g ∧ g (2 * i * 12 + 2 * i) = 0 ∧ (0 : Nat) = 0) (h2 : RR (hs (vp_updL g 156 (ng (g (x * 12 + x)))) p p 0) g2 0 b9) : Zb (2 * i + 2) g2 ∧ g2 (2 * i * 12 + 2 * i) = 0 ∧ b9 = 0 := by
  obtain ⟨h3, h4, -⟩ := h
  obtain ⟨h5, h6⟩ := se_h (b := 0) hp (by omega) h3 (ng_z (zz h3 (show x < 12 by omega) (show x < 12 by omega)))
  obtain ⟨a1, a2, a3⟩ := h2.2 (2 * i + 2) (by omega) h5
  exact ⟨a1, a2 _ (by omega) (h6 _ (by omega) h4), a3⟩
