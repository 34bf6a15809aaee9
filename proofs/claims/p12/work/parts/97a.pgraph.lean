/-! ways: a graph, and what its cheapest ways are -/
abbrev GR : Type := (Nat → Bool) × (Nat → Nat) × (Nat → Nat → Nat) × (Nat → Nat → Nat)
def al_ (G : GR) : Nat → Bool := G.1
def mn_ (G : GR) : Nat → Nat := G.2.1
def tg_ (G : GR) : Nat → Nat → Nat := G.2.2.1
def wt_ (G : GR) : Nat → Nat → Nat := G.2.2.2
/-- v lives and has a link to u -/
def lt_ (G : GR) (v u : Nat) : Prop := al_ G v = true ∧ ∃ k, k < mn_ G v ∧ tg_ G v k = u
/-- link k of u leads somewhere, and there is one back -/
def ed_ (G : GR) (u k : Nat) : Prop := al_ G u = true ∧ k < mn_ G u ∧ lt_ G (tg_ G u k) u
def GP_ (G : GR) : Prop := ∀ u, u < 42 → mn_ G u ≤ 10 ∧ ∀ k, k < mn_ G u → tg_ G u k < 42 ∧ wt_ G u k ≤ 60 ∧ (u % 7 = 0 → 1 ≤ wt_ G u k) ∧ (u % 7 ≠ 0 → wt_ G u k = 0 ∧ tg_ G u k % 7 = 0)
/-- the order: by cost, circuits before routers -/
def ky (K : Nat → Nat) (v : Nat) : Nat := 2 * K v + (if v % 7 = 0 then 1 else 0)
/-- first hops, one link on -/
def on_ (h v : Nat) : Nat := if h < 64 then h else (h - 64) ||| (if v % 7 = 0 then 2 ^ (v / 7) else 64)
theorem on_p : ∀ h, h < 128 → ∀ v, v < 42 → on_ h v < 128 ∧ (h = 0 ∨ on_ h v ≠ 0) ∧ (v % 7 ≠ 0 ∨ on_ h v < 64) := by decide +kernel
theorem tb_7 : ∀ x, x < 128 → x = 0 ∨ ∃ j, j < 7 ∧ x.testBit j = true := by decide +kernel
theorem tb_6 : ∀ x, x < 64 → x = 0 ∨ ∃ j, j < 6 ∧ x.testBit j = true := by decide +kernel
theorem tb_eq {x y : Nat} (hx : x < 128) (hy : y < 128) (h : ∀ j, j < 7 → (x.testBit j = true ↔ y.testBit j = true)) : x = y := by
  apply Nat.eq_of_testBit_eq
  intro j
  by_cases hj : j < 7
  · have := h j hj
    cases h1 : x.testBit j <;> cases h2 : y.testBit j <;> simp_all
  · have h2 : 2 ^ 7 ≤ 2 ^ j := Nat.pow_le_pow_right (by decide) (by omega)
    rw [Nat.testBit_lt_two_pow (show x < 2 ^ j by omega), Nat.testBit_lt_two_pow (show y < 2 ^ j by omega)]
/-- K and H are the costs and the first hops from s -/
def W_ (G : GR) (s : Nat) (K H : Nat → Nat) : Prop :=
  K s = 0 ∧ H s = 64 ∧ (∀ v, v < 42 → K v = 1000000 ∨ K v ≤ 2520) ∧
  (∀ u k, u < 42 → K u < 1000000 → ed_ G u k → K (tg_ G u k) ≤ K u + wt_ G u k) ∧
  (∀ v, v < 42 → v ≠ s → K v < 1000000 → ∃ u k, u < 42 ∧ K u < 1000000 ∧ ed_ G u k ∧ tg_ G u k = v ∧ K v = K u + wt_ G u k) ∧
  (∀ v, v < 42 → v ≠ s → K v < 1000000 → H v < 128 ∧ ∀ j, j < 7 → ((H v).testBit j = true ↔ ∃ u k, u < 42 ∧ K u < 1000000 ∧ ed_ G u k ∧ tg_ G u k = v ∧ K v = K u + wt_ G u k ∧ (on_ (H u) v).testBit j = true))
theorem ky_lt {G : GR} (hG : GP_ G) {K : Nat → Nat} {u k c : Nat} (hu : u < 42) (hk : k < mn_ G u) (h : c = K u + wt_ G u k) : ky K u < 2 * c + (if tg_ G u k % 7 = 0 then 1 else 0) := by
  obtain ⟨_, h2, h3, h4⟩ := (hG u hu).2 k hk
  unfold ky
  by_cases hu7 : u % 7 = 0
  · have := h3 hu7
    rw [if_pos hu7]
    split <;> omega
  · obtain ⟨h5, h6⟩ := h4 hu7
    rw [if_neg hu7, if_pos h6]; omega
theorem ky_tg {G : GR} (hG : GP_ G) {K : Nat → Nat} {u k v : Nat} (hu : u < 42) (hk : k < mn_ G u) (hv : tg_ G u k = v) (h : K v = K u + wt_ G u k) : ky K u < ky K v := by
  have := ky_lt hG hu hk h
  rw [hv] at this
  exact this
theorem W_le {G : GR} (hG : GP_ G) {s : Nat} {K H K' H' : Nat → Nat} (W : W_ G s K H) (W' : W_ G s K' H') : ∀ n v, v < 42 → K v < 1000000 → ky K v < n → K' v ≤ K v := by
  intro n
  induction n with
  | zero => intro v _ _ h; omega
  | succ n ih =>
    intro v hv hk hn
    by_cases hs : v = s
    · subst hs; rw [W.1, W'.1]; exact Nat.le_refl _
    · obtain ⟨u, k, h1, h2, h3, h4, h5⟩ := W.2.2.2.2.1 v hv hs hk
      have := ky_tg hG h1 h3.2.1 h4 h5
      have i := ih u h1 h2 (by omega)
      have e := W'.2.2.2.1 u k h1 (by omega) h3
      rw [h4] at e
      omega
theorem W_K {G : GR} (hG : GP_ G) {s : Nat} {K H K' H' : Nat → Nat} (W : W_ G s K H) (W' : W_ G s K' H') {v : Nat} (hv : v < 42) : K v = K' v := by
  have a := W_le hG W W' (ky K v + 1) v hv
  have b := W_le hG W' W (ky K' v + 1) v hv
  have c := W.2.2.1 v hv
  have d := W'.2.2.1 v hv
  by_cases h : K v < 1000000
  · have a' := a h (by omega)
    have b' := b (by omega) (by omega)
    omega
  · by_cases h' : K' v < 1000000
    · have b' := b h' (by omega)
      omega
    · omega
theorem W_h128 {G : GR} {s : Nat} {K H : Nat → Nat} (W : W_ G s K H) {v : Nat} (hv : v < 42) (h : K v < 1000000) : H v < 128 := by
  by_cases hs : v = s
  · subst hs; rw [W.2.1]; decide
  · exact (W.2.2.2.2.2 v hv hs h).1
theorem W_He {G : GR} (hG : GP_ G) {s : Nat} {K H K' H' : Nat → Nat} (W : W_ G s K H) (W' : W_ G s K' H') : ∀ n v, v < 42 → K v < 1000000 → ky K v < n → H v = H' v := by
  have kk : ∀ v, v < 42 → K v = K' v := fun v hv => W_K hG W W' hv
  intro n
  induction n with
  | zero => intro v _ _ h; omega
  | succ n ih =>
    intro v hv hk hn
    by_cases hs : v = s
    · subst hs; rw [W.2.1, W'.2.1]
    · have hk' : K' v < 1000000 := by rw [← kk v hv]; exact hk
      obtain ⟨a1, a2⟩ := W.2.2.2.2.2 v hv hs hk
      obtain ⟨b1, b2⟩ := W'.2.2.2.2.2 v hv hs hk'
      refine tb_eq a1 b1 (fun j hj => (a2 j hj).trans (Iff.trans ?_ (b2 j hj).symm))
      constructor
      · rintro ⟨u, k, h1, h2, h3, h4, h5, h6⟩
        have hl := ky_tg hG h1 h3.2.1 h4 h5
        have e := ih u h1 h2 (by omega)
        exact ⟨u, k, h1, by rw [← kk u h1]; exact h2, h3, h4, by rw [← kk u h1, ← kk v hv]; exact h5, by rw [← e]; exact h6⟩
      · rintro ⟨u, k, h1, h2, h3, h4, h5, h6⟩
        rw [← kk u h1] at h2 h5
        rw [← kk v hv] at h5
        have hl := ky_tg hG h1 h3.2.1 h4 h5
        have e := ih u h1 h2 (by omega)
        exact ⟨u, k, h1, h2, h3, h4, h5, by rw [e]; exact h6⟩
theorem W_H {G : GR} (hG : GP_ G) {s : Nat} {K H K' H' : Nat → Nat} (W : W_ G s K H) (W' : W_ G s K' H') {v : Nat} (hv : v < 42) (h : K v < 1000000) : H v = H' v := W_He hG W W' (ky K v + 1) v hv h (by omega)
theorem W_n0 {G : GR} (hG : GP_ G) {s : Nat} {K H : Nat → Nat} (W : W_ G s K H) : ∀ n v, v < 42 → K v < 1000000 → ky K v < n → H v ≠ 0 := by
  intro n
  induction n with
  | zero => intro v _ _ h; omega
  | succ n ih =>
    intro v hv hk hn
    by_cases hs : v = s
    · subst hs; rw [W.2.1]; decide
    · obtain ⟨u, k, h1, h2, h3, h4, h5⟩ := W.2.2.2.2.1 v hv hs hk
      have hl := ky_tg hG h1 h3.2.1 h4 h5
      have i := ih u h1 h2 (by omega)
      obtain ⟨p1, p2, _⟩ := on_p (H u) (W_h128 W h1 h2) v hv
      have p3 : on_ (H u) v ≠ 0 := by rcases p2 with z | z; exact absurd z i; exact z
      rcases tb_7 _ p1 with z | ⟨j, j1, j2⟩
      · exact absurd z p3
      · have := ((W.2.2.2.2.2 v hv hs hk).2 j j1).mpr ⟨u, k, h1, h2, h3, h4, h5, j2⟩
        intro z; rw [z] at this; simp at this
/-- a router that is reached has a first hop -/
theorem W_hop {G : GR} (hG : GP_ G) {s : Nat} {K H : Nat → Nat} (W : W_ G s K H) {v : Nat} (hv : v < 42) (h7 : v % 7 = 0) (hs : v ≠ s) (h : K v < 1000000) : ∃ j, j < 6 ∧ (H v).testBit j = true := by
  obtain ⟨u, k, h1, h2, h3, h4, h5⟩ := W.2.2.2.2.1 v hv hs h
  have i := W_n0 hG W (ky K u + 1) u h1 h2 (by omega)
  obtain ⟨p1, p2, p4⟩ := on_p (H u) (W_h128 W h1 h2) v hv
  have p3 : on_ (H u) v ≠ 0 := by rcases p2 with z | z; exact absurd z i; exact z
  rcases tb_6 _ (by rcases p4 with z | z; exact absurd h7 z; exact z) with z | ⟨j, j1, j2⟩
  · exact absurd z p3
  · exact ⟨j, j1, ((W.2.2.2.2.2 v hv hs h).2 j (by omega)).mpr ⟨u, k, h1, h2, h3, h4, h5, j2⟩⟩
/-- one that is reached lives -/
theorem W_al {G : GR} {s : Nat} {K H : Nat → Nat} (W : W_ G s K H) {v : Nat} (hv : v < 42) (hs : v ≠ s) (h : K v < 1000000) : al_ G v = true := by
  obtain ⟨u, k, h1, h2, h3, h4, h5⟩ := W.2.2.2.2.1 v hv hs h
  have := h3.2.2.1
  rw [h4] at this
  exact this
