/-! marks as bits; what a router is told of a name -/
def or_ (d c : Nat) : Nat := d ||| 2 ^ c
def an_ (d c : Nat) : Nat := d &&& (63 ^^^ 2 ^ c)
theorem bt_all : ∀ d, d < 64 → ∀ c, c < 6 → (nI d ||| ((1 : Int32) <<< (nI c &&& 31)) = nI (or_ d c) ∧ or_ d c < 64) ∧ (nI d &&& (((1 : Int32) <<< (nI c &&& 31)) ^^^ (-1)) = nI (an_ d c) ∧ an_ d c < 64) := by decide +kernel
theorem bt_or {d c : Nat} (hd : d < 64) (hc : c < 6) : nI d ||| ((1 : Int32) <<< (nI c &&& 31)) = nI (or_ d c) := (bt_all d hd c hc).1.1
theorem bt_an {d c : Nat} (hd : d < 64) (hc : c < 6) : nI d &&& (((1 : Int32) <<< (nI c &&& 31)) ^^^ (-1)) = nI (an_ d c) := (bt_all d hd c hc).2.1
theorem bt_orl {d c : Nat} (hd : d < 64) (hc : c < 6) : or_ d c < 64 := (bt_all d hd c hc).1.2
theorem bt_anl {d c : Nat} (hd : d < 64) (hc : c < 6) : an_ d c < 64 := (bt_all d hd c hc).2.2
theorem bt_an0 (c : Nat) : an_ 0 c = 0 := by unfold an_; exact Nat.zero_and _
theorem jz_up_id {m : jz_M} {k i : Nat} {v : Int32} (h : m k i = v) : jz_up m k i v = m := by
  funext q j; rw [pz_up]
  by_cases hz : q = k ∧ j = i
  · rw [if_pos hz, hz.1, hz.2, h]
  · rw [if_neg hz]
theorem jz_up_up {m : jz_M} {k i : Nat} {v w : Int32} : jz_up (jz_up m k i v) k i w = jz_up m k i w := by
  funext q j; simp only [pz_up]
  by_cases hz : q = k ∧ j = i
  · rw [if_pos hz, if_pos hz]
  · rw [if_neg hz, if_neg hz, if_neg hz]
/-- numbers of a description -/
theorem I_sl {c : Nat} {mc mm : jz_M} (h : I_ c mc mm) {l r n : Nat} (hl : l < 2) (hr : r < 6) (hn : n < 42) : ∃ s f d a : Nat, s ≤ c ∧ f ≤ 20 ∧ d < 64 ∧ a < 64 ∧ mm 8 (ix l r n) = nI s ∧ mm 10 (ix l r n) = nI f ∧ mm 16 (ix l r n) = nI d ∧ mm 17 (ix l r n) = nI a ∧ mc (bx l r + 1) n = nI s ∧ mc (bx l r + 3) n = nI f ∧ mc (bx l r + 9) n = nI d ∧ mc (bx l r + 10) n = nI a ∧ (s = 0 → f = 0 ∧ d = 0) := by
  obtain ⟨⟨a1, a2, a3, a4, a5, a6, a7, a8, a9, a10⟩, ⟨⟨s, t, b1, b2, b3, b4⟩, ⟨f, f1, f2⟩, b6, b7, b8, b9, bk, ⟨d, d1, d2⟩, ⟨a, a11, a12⟩⟩⟩ := h.2.2.2.2.2 l r n hl hr hn
  refine ⟨s, f, d, a, by omega, f1, d1, a11, b1, f2, d2, a12, by rw [a1, b1], by rw [a3, f2], by rw [a9, d2], by rw [a10, a12], fun z => ?_⟩
  have := b6 (by rw [b1, z]; rfl)
  rw [f2, d2, ← nI_0] at this
  exact ⟨(nI_eq (by omega) (by decide)).mp this.1, (nI_eq (by omega) (by decide)).mp this.2⟩
theorem I_due {c : Nat} {mc mm : jz_M} (h : I_ c mc mm) {l r n d : Nat} (hl : l < 2) (hr : r < 6) (hn : n < 42) (hd : d < 64) (h0 : mm 8 (ix l r n) = 0 → d = 0) : I_ c (jz_up mc (bx l r + 9) n (nI d)) (jz_up mm 16 (ix l r n) (nI d)) := by
  obtain ⟨s, f, d', a, _, _, _, ha, _, _, _, e17, _, _, _, e10, _⟩ := I_sl h hl hr hn
  have := I_marks h hl hr hn hd ha h0
  have q1 : jz_up (jz_up mc (bx l r + 9) n (nI d)) (bx l r + 10) n (nI a) = jz_up mc (bx l r + 9) n (nI d) := jz_up_id (by rw [jz_up_k (by omega)]; exact e10)
  have q2 : jz_up (jz_up mm 16 (ix l r n) (nI d)) 17 (ix l r n) (nI a) = jz_up mm 16 (ix l r n) (nI d) := jz_up_id (by rw [jz_up_k (by decide)]; exact e17)
  rw [q1, q2] at this
  exact this
theorem I_asked {c : Nat} {mc mm : jz_M} (h : I_ c mc mm) (hc : c ≤ 200000) {l r n a : Nat} (hl : l < 2) (hr : r < 6) (hn : n < 42) (ha : a < 64) : I_ c (jz_up mc (bx l r + 10) n (nI a)) (jz_up mm 17 (ix l r n) (nI a)) := by
  obtain ⟨s, f, d, a', hs, _, hd, _, e8, _, e16, _, _, _, e9, _, hz⟩ := I_sl h hl hr hn
  have := I_marks h hl hr hn hd ha (fun z => (hz ((nI_eq (a := s) (b := 0) (by omega) (by decide)).mp (e8.symm.trans (z.trans nI_0.symm)))).2)
  rwa [jz_up_id e9, jz_up_id e16] at this
theorem n_le0 {s : Nat} (h : s < 2 ^ 31) : (nI s ≤ 0) = (s = 0) := propext ⟨fun z => Nat.le_zero.mp ((nI_leI (b := 0) h (by decide)).mp z), fun z => by rw [z]; decide⟩
theorem n_eq0 {s : Nat} (h : s < 2 ^ 31) : (nI s = 0) = (s = 0) := propext ⟨fun z => (nI_eq (b := 0) h (by decide)).mp (z.trans nI_0.symm), fun z => by rw [z]; rfl⟩
theorem n_eq {s t : Nat} (h : s < 2 ^ 31) (h2 : t < 2 ^ 31) : (nI s = nI t) = (s = t) := propext (nI_eq h h2)
theorem n_lt {s t : Nat} (h : s < 2 ^ 31) (h2 : t < 2 ^ 31) : (nI s < nI t) = (s < t) := propext (nI_ltI h h2)
/-- mine (s, f) is newer than its (t, g) -/
def nw_ (s f t g : Nat) : Prop := t < s ∨ (s = t ∧ f = 0 ∧ g ≠ 0)
def sm_ (s f t g : Nat) : Prop := s = t ∧ (f = 0 ↔ g = 0)
theorem q_al {c l r n : Nat} {mc mm : jz_M} {f : Nat} (hn : n < 42) (hf : f ≤ 20) (e : mc (bx l r + 3) n = nI f) : f_Ba_isAlive (bx l r) (nI n) mc = some (b1 (decide (f ≠ 0))) := by
  unfold f_Ba_isAlive
  rw [pz_ix hn (by decide)]
  simp only [Option.bind_some, e, n_le0 (show f < 2 ^ 31 by omega)]
  by_cases h : f = 0
  · simp [h]
  · simp [h]
theorem q_ord {c l x r n : Nat} {mc mm : jz_M} (hI : I_ c mc mm) (hc : c ≤ 200000) (hl : l < 2) (hx : x < 6) (hr : r < 6) (hn : n < 42) {s f t g : Nat} (hs : s ≤ c) (hf : f ≤ 20) (ht : t ≤ c) (hg : g ≤ 20) (e1 : mc (bx l x + 1) n = nI s) (e2 : mc (bx l x + 3) n = nI f) (e3 : mc (bx l r + 1) n = nI t) (e4 : mc (bx l r + 3) n = nI g) : ∃ v, f_Ba_orderAgainst (bx l x) (bx l r) (nI n) mc = some v ∧ (0 < v.toInt ↔ nw_ s f t g) ∧ (v.toInt = 0 ↔ sm_ s f t g) := by
  unfold f_Ba_orderAgainst
  simp only [pz_ix hn (show 42 < 2 ^ 31 by decide), q_al (c := c) (mm := mm) hn hf e2, q_al (c := c) (mm := mm) hn hg e4, Option.bind_some, e1, e3, n_eq (show s < 2 ^ 31 by omega) (show t < 2 ^ 31 by omega)]
  unfold nw_ sm_
  have hz : (0 : Int32).toInt = 0 := rfl
  have h1 : (1 : Int32).toInt = 1 := rfl
  have hm : (-1 : Int32).toInt = -1 := rfl
  by_cases h : s = t
  · subst h
    rw [if_pos rfl]
    by_cases hf0 : f = 0
    · by_cases hg0 : g = 0
      · rw [show decide (f ≠ 0) = false by simp [hf0], show decide (g ≠ 0) = false by simp [hg0]]; exact ⟨0, rfl, by rw [hz]; omega, by rw [hz]; omega⟩
      · rw [show decide (f ≠ 0) = false by simp [hf0], show decide (g ≠ 0) = true by simp [hg0]]; exact ⟨1, rfl, by rw [h1]; omega, by rw [h1]; omega⟩
    · by_cases hg0 : g = 0
      · rw [show decide (f ≠ 0) = true by simp [hf0], show decide (g ≠ 0) = false by simp [hg0]]; exact ⟨-1, rfl, by rw [hm]; omega, by rw [hm]; omega⟩
      · rw [show decide (f ≠ 0) = true by simp [hf0], show decide (g ≠ 0) = true by simp [hg0]]; exact ⟨0, rfl, by rw [hz]; omega, by rw [hz]; omega⟩
  · rw [if_neg h]
    have := pk_sub_toInt (a := s) (b := t) (by omega) (by omega)
    exact ⟨_, rfl, by rw [this]; omega, by rw [this]; omega⟩
/-- the class is told of a name -/
theorem q_cwt {c l x r q n : Nat} {mc mm : jz_M} (hI : I_ c mc mm) (hc : c ≤ 200000) (hl : l < 2) (hx : x < 6) (hr : r < 6) (hq : q < 6) (hn : n < 42) {s f t g d a : Nat} (hs : s ≤ c) (hf : f ≤ 20) (ht : t ≤ c) (hg : g ≤ 20) (hd : d < 64) (ha : a < 64) (e1 : mc (bx l x + 1) n = nI s) (e2 : mc (bx l x + 3) n = nI f) (e3 : mc (bx l r + 1) n = nI t) (e4 : mc (bx l r + 3) n = nI g) (e9 : mc (bx l x + 9) n = nI d) (e10 : mc (bx l x + 10) n = nI a) :
    (nw_ s f t g → f_Ba_compareWithTold (bx l x) (bx l r) (nI n) (nI q) mc = some (jz_up mc (bx l x + 9) n (nI (or_ d q)))) ∧ (sm_ s f t g → f_Ba_compareWithTold (bx l x) (bx l r) (nI n) (nI q) mc = some (jz_up mc (bx l x + 9) n (nI (an_ d q)))) ∧ (¬ nw_ s f t g → ¬ sm_ s f t g → f_Ba_compareWithTold (bx l x) (bx l r) (nI n) (nI q) mc = some (jz_up (jz_up mc (bx l x + 9) n (nI (an_ d q))) (bx l x + 10) n (nI (or_ a q)))) := by
  obtain ⟨v, hv, v1, v2⟩ := q_ord (mm := mm) hI hc hl hx hr hn hs hf ht hg e1 e2 e3 e4
  have hz : (0 : Int32).toInt = 0 := rfl
  unfold f_Ba_compareWithTold f_Ba_compareWithTold_21 f_Ba_setDue f_Ba_setAsked
  have g10 : jz_up mc (bx l x + 9) n (nI (an_ d q)) (bx l x + 10) n = nI a := by rw [jz_up_k (by omega)]; exact e10
  simp only [hv, pz_n, pz_ix hn (show 42 < 2 ^ 31 by decide), Option.bind_some, if_true, i10, e9, bt_or hd hq, bt_an hd hq]
  refine ⟨fun h => ?_, fun h => ?_, fun h1 h2 => ?_⟩
  · have := v1.mpr h
    rw [if_neg (show ¬ v ≤ 0 by rw [i32_le, hz]; omega), if_pos (show 0 ≤ v by rw [i32_le, hz]; omega)]
  · have := v2.mpr h
    rw [if_pos (show v ≤ 0 by rw [i32_le, hz]; omega), if_pos (show 0 ≤ v by rw [i32_le, hz]; omega)]
  · have n1 : ¬ 0 < v.toInt := fun z => h1 (v1.mp z)
    have n2 : ¬ v.toInt = 0 := fun z => h2 (v2.mp z)
    rw [if_pos (show v ≤ 0 by rw [i32_le, hz]; omega), if_neg (show ¬ 0 ≤ v by rw [i32_le, hz]; omega), g10, bt_or ha hq]
/-- the reference is told of a name -/
theorem q_told {l x r q n c : Nat} {mm : jz_M} (hc : c ≤ 200000) (hl : l < 2) (hx : x < 6) (hr : r < 6) (hq : q < 6) (hn : n < 42) {s f t g d a : Nat} (hs : s ≤ c) (hf : f ≤ 20) (ht : t ≤ c) (hg : g ≤ 20) (hd : d < 64) (ha : a < 64) (e1 : mm 8 (ix l x n) = nI s) (e2 : mm 10 (ix l x n) = nI f) (e3 : mm 8 (ix l r n) = nI t) (e4 : mm 10 (ix l r n) = nI g) (e9 : mm 16 (ix l x n) = nI d) (e10 : mm 17 (ix l x n) = nI a) (hs0 : s = 0 → f = 0 ∧ d = 0) (ht0 : t = 0 → g = 0) :
    (nw_ s f t g → f_Mo_told (nI x) (nI r) (nI q) (nI (l + 1)) (nI n) mm = some (jz_up mm 16 (ix l x n) (nI (or_ d q)))) ∧ (sm_ s f t g → f_Mo_told (nI x) (nI r) (nI q) (nI (l + 1)) (nI n) mm = some (jz_up mm 16 (ix l x n) (nI (an_ d q)))) ∧ (¬ nw_ s f t g → ¬ sm_ s f t g → f_Mo_told (nI x) (nI r) (nI q) (nI (l + 1)) (nI n) mm = some (jz_up (jz_up mm 16 (ix l x n) (nI (an_ d q))) 17 (ix l x n) (nI (or_ a q)))) := by
  have g10 : jz_up mm 16 (ix l x n) (nI (an_ d q)) 17 (ix l x n) = nI a := by rw [jz_up_k (by decide)]; exact e10
  unfold f_Mo_told f_Mo_told_49 f_Mo_told_50 f_Mo_told_67 f_Mo_told_123 f_Mo_told_179 f_Mo_newer f_Mo_newer_18
  simp only [pz_n, q_mat, pz_ix (ix_lt hl hx hn) (show 504 < 2 ^ 31 by decide), pz_ix (ix_lt hl hr hn) (show 504 < 2 ^ 31 by decide), Option.bind_some, e1, e2, e3, e4, e9, bt_or hd hq, bt_an hd hq, g10, bt_or ha hq, n_le0 (show s < 2 ^ 31 by omega), n_le0 (show t < 2 ^ 31 by omega), n_eq0 (show f < 2 ^ 31 by omega), n_eq0 (show g < 2 ^ 31 by omega), n_eq (show s < 2 ^ 31 by omega) (show t < 2 ^ 31 by omega), n_lt (show t < 2 ^ 31 by omega) (show s < 2 ^ 31 by omega)]
  unfold nw_ sm_
  have hid : d = 0 → jz_up mm 16 (ix l x n) (nI (an_ d q)) = mm := fun z => jz_up_id (by rw [e9, z, bt_an0])
  by_cases h1 : t = 0
  · have hg0 := ht0 h1
    subst h1 hg0
    by_cases h2 : s = 0
    · obtain ⟨hf0, hd0⟩ := hs0 h2
      subst h2 hf0
      refine ⟨fun z => by omega, fun z => ?_, fun z1 z2 => by omega⟩
      rw [hid hd0]; simp
    · refine ⟨fun z => ?_, fun z => by omega, fun z1 z2 => by omega⟩
      simp [h2, show 0 < s by omega]
  · rcases Nat.lt_trichotomy s t with h | h | h
    · have k1 : ¬ t < s := by omega
      have k2 : ¬ s = t := by omega
      by_cases h2 : s = 0
      · have hf0 := (hs0 h2).1
        refine ⟨fun z => by omega, fun z => by omega, fun z1 z2 => ?_⟩
        by_cases h3 : g = 0 <;> simp [h1, h2, h3, hf0]
      · refine ⟨fun z => by omega, fun z => by omega, fun z1 z2 => ?_⟩
        by_cases h3 : g = 0 <;> by_cases h4 : f = 0 <;> simp [h1, h2, h3, h4, k1, k2]
    · subst h
      have k1 : ¬ s < s := by omega
      by_cases h3 : g = 0 <;> by_cases h4 : f = 0
      · refine ⟨fun z => by omega, fun z => ?_, fun z1 z2 => by omega⟩
        simp [h1, h3, h4]
      · refine ⟨fun z => by omega, fun z => by omega, fun z1 z2 => ?_⟩
        simp [h1, h3, h4]
      · refine ⟨fun z => ?_, fun z => by omega, fun z1 z2 => by omega⟩
        simp [h1, h3, h4]
      · refine ⟨fun z => by omega, fun z => ?_, fun z1 z2 => by omega⟩
        simp [h1, h3, h4]
    · have h2 : ¬ s = 0 := by omega
      refine ⟨fun z => ?_, fun z => by omega, fun z1 z2 => by omega⟩
      by_cases h3 : g = 0 <;> by_cases h4 : f = 0 <;> simp [h1, h2, h3, h4, h]
/-- class and reference are told of a name -/
theorem told_ {c l x r q n : Nat} {mc mm : jz_M} (hI : I_ c mc mm) (hc : c ≤ 200000) (hl : l < 2) (hx : x < 6) (hr : r < 6) (hq : q < 6) (hn : n < 42) : ∃ mc' mm' : jz_M, f_Ba_compareWithTold (bx l x) (bx l r) (nI n) (nI q) mc = some mc' ∧ f_Mo_told (nI x) (nI r) (nI q) (nI (l + 1)) (nI n) mm = some mm' ∧ I_ c mc' mm' ∧ ∀ k, k ≠ 16 → k ≠ 17 → mm' k = mm k := by
  obtain ⟨s, f, d, a, hs, hf, hd, ha, e1, e2, e3, e4, g1, g2, g3, g4, hs0⟩ := I_sl hI hl hx hn
  obtain ⟨t, g, _, _, ht, hg, _, _, j1, j2, _, _, k1, k2, _, _, ht0⟩ := I_sl hI hl hr hn
  obtain ⟨c1, c2, c3⟩ := q_cwt (mm := mm) hI hc hl hx hr hq hn hs hf ht hg hd ha g1 g2 k1 k2 g3 g4
  obtain ⟨m1, m2, m3⟩ := q_told hc hl hx hr hq hn hs hf ht hg hd ha e1 e2 j1 j2 e3 e4 hs0 (fun z => (ht0 z).1)
  have z0 : mm 8 (ix l x n) = 0 → s = 0 := fun z => (nI_eq (a := s) (b := 0) (by omega) (by decide)).mp (e1.symm.trans (z.trans nI_0.symm))
  by_cases h1 : nw_ s f t g
  · refine ⟨_, _, c1 h1, m1 h1, I_due hI hl hx hn (bt_orl hd hq) (fun z => ?_), fun k a1 a2 => jz_up_k a1⟩
    have := z0 z
    have := hs0 this
    unfold nw_ at h1
    omega
  by_cases h2 : sm_ s f t g
  · refine ⟨_, _, c2 h2, m2 h2, I_due hI hl hx hn (bt_anl hd hq) (fun z => ?_), fun k a1 a2 => jz_up_k a1⟩
    rw [(hs0 (z0 z)).2, bt_an0]
  · refine ⟨_, _, c3 h1 h2, m3 h1 h2, I_marks hI hl hx hn (bt_anl hd hq) (bt_orl ha hq) (fun z => ?_), fun k a1 a2 => by rw [jz_up_k a2, jz_up_k a1]⟩
    rw [(hs0 (z0 z)).2, bt_an0]
