/-! the reference's costs, from their start, and its first hops -/
theorem m_lives {m : jz_M} {l r : Nat} {G : GR} (h : gM m l r G) (hl : l < 2) (hr : r < 6) {v : Nat} (hv : v < 42) : f_Mo_lives (nI r) (nI (l + 1)) (nI v) m = some (b1 (al_ G v)) := by
  obtain ⟨⟨s, f, hs, hf, e8, e10, ha, hsf⟩, e14, e15⟩ := h v hv
  unfold f_Mo_lives
  simp only [q_mat, pz_ix (ix_lt hl hr hv) (show 504 < 2 ^ 31 by decide), Option.bind_some, e8, e10, n_le0 (show s < 2 ^ 31 by omega), n_le0 (show f < 2 ^ 31 by omega)]
  by_cases hf0 : f = 0
  · have : al_ G v = false := by
      cases z : al_ G v with
      | false => rfl
      | true => exact absurd hf0 (ha.mp z)
    rw [if_pos hf0, ite_self, this]; rfl
  · rw [if_neg hf0, if_neg (hsf hf0), ha.mpr hf0]; rfl
theorem ph_le (K : Nat → Nat) : ph_ K ≤ 105882 := by
  have := sm_le (f := fun v => min (K v) 2521) (g := fun _ => 2521) 42 (fun v _ => Nat.min_le_right _ _)
  rw [sm_c] at this
  exact this
/-- the reference's costs: cheapest, but that a dead start has none -/
def X_ (G : GR) (s : Nat) (K : Nat → Nat) : Prop := B2_ G s K ∧ (∀ u, u < 42 → K u < 1000000 → ∀ k, ed_ G u k → K (tg_ G u k) ≤ K u + wt_ G u k)
theorem m_c2 {l r : Nat} {G : GR} (hG : GP_ G) (hl : l < 2) (hr : r < 6) : ∀ (g i fu : Nat) (m : jz_M), i + g = 42 → g < fu → gM m l r G → (∀ v, v < i → m 19 v = -1) → ∃ (m' : jz_M) (K : Nat → Nat), f_Mo_costs_2 fu (nI r) (nI (l + 1)) (nI i) m = some m' ∧ (∀ q, q ≠ 19 → m' q = m q) ∧ rM m' K ∧ X_ G (7 * r) K := by
  have hs : 7 * r < 42 := by omega
  intro g
  induction g with
  | zero =>
    intro i fu m h1 h2 hg hv
    obtain ⟨fu, rfl⟩ : ∃ k, fu = k + 1 := ⟨fu - 1, by omega⟩
    rw [f_Mo_costs_2, if_pos (py42 (by omega) (by omega))]
    unfold f_Mo_costs_47
    simp only [n7, m_lives hg hl hr hs, Option.bind_some, b1_0, pz_ix hs (show 42 < 2 ^ 31 by decide), pz_n]
    by_cases ha : al_ G (7 * r) = true
    · rw [if_pos ha]
      have r1 : rM (jz_up m 19 (7 * r) (nI 0)) (up_ (fun _ => 1000000) (7 * r) 0) := rM_1 (fun v hv' => hv v (by omega)) (7 * r) (by decide)
      have B : B_ G (7 * r) (up_ (fun _ => 1000000) (7 * r) 0) := by
        refine ⟨ha, up_s _ _ _, fun v hv' => ?_, fun v hv' hvs hk => ?_⟩
        · by_cases hvs : v = 7 * r
          · rw [hvs, up_s]
            have e : sm 42 (rch (up_ (fun _ => 1000000) (7 * r) 0)) = sm 42 (up_ (fun _ => 0) (7 * r) 1) := sm_ext 42 (fun v _ => by
              unfold rch
              by_cases hvt : v = 7 * r
              · rw [hvt, up_s, up_s]; rfl
              · rw [up_n _ _ hvt, up_n _ _ hvt]; rfl)
            have e2 := sm_up (f := fun _ => 0) (t := 7 * r) (x := 1) 42 hs
            rw [sm_c] at e2
            rw [e]
            refine Or.inr ?_
            omega
          · rw [up_n _ _ hvs]; exact Or.inl rfl
        · rw [up_n _ _ hvs] at hk; exact absurd hk (by decide)
      obtain ⟨m2, K2, b1, b2, b3, b4, b5⟩ := m_c50 hG hl hr (s := 7 * r) 105882 1000000 _ _ (ph_le _) (by decide) (gM_fr hg (fun q hq => jz_up_k (by omega))) r1 (Or.inl ⟨ha, B⟩)
      exact ⟨m2, K2, b1, fun q hq => (b2 q hq).trans (jz_up_k hq), b3, b4, b5⟩
    · rw [if_neg ha]
      have r1 : rM (jz_up m 19 (7 * r) (-1)) (fun _ => 1000000) := fun v hv' => by
        rw [pz_up]
        by_cases hvt : v = 7 * r
        · rw [if_pos ⟨rfl, hvt⟩]; rfl
        · rw [if_neg (fun z => hvt z.2)]; exact hv v (by omega)
      obtain ⟨m2, K2, b1, b2, b3, b4, b5⟩ := m_c50 hG hl hr (s := 7 * r) 105882 1000000 _ _ (ph_le _) (by decide) (gM_fr hg (fun q hq => jz_up_k (by omega))) r1 (Or.inr ⟨by simpa using ha, fun _ _ => rfl⟩)
      exact ⟨m2, K2, b1, fun q hq => (b2 q hq).trans (jz_up_k hq), b3, b4, b5⟩
  | succ g ih =>
    intro i fu m h1 h2 hg hv
    obtain ⟨fu, rfl⟩ : ∃ k, fu = k + 1 := ⟨fu - 1, by omega⟩
    have hi : i < 42 := by omega
    rw [f_Mo_costs_2, if_neg (pn42 hi)]
    simp only [pz_ix hi (show 42 < 2 ^ 31 by decide), Option.bind_some, pz_n, nI_1]
    obtain ⟨m2, K2, b1, b2, b3⟩ := ih (i + 1) fu (jz_up m 19 i (-1)) (by omega) (by omega) (gM_fr hg (fun q hq => jz_up_k (by omega))) (fun v hv' => by
      rw [pz_up]
      by_cases hvi : v = i
      · rw [if_pos ⟨rfl, hvi⟩]
      · rw [if_neg (fun z => hvi z.2)]; exact hv v (by omega))
    exact ⟨m2, K2, b1, fun q hq => (b2 q hq).trans (jz_up_k hq), b3⟩
/-! first hops -/
def o2_ (h p : Nat) : Nat := if h < 64 then h else (h - 64) ||| 2 ^ p
theorem o2_e (h v : Nat) : on_ h v = o2_ h (if v % 7 = 0 then v / 7 else 6) := by
  unfold on_ o2_
  split
  · rfl
  · split <;> rfl
theorem o2_b : ∀ h, h < 128 → ∀ p, p < 7 → ∀ j, j < 7 → (o2_ h p).testBit j = ((decide (j < 6) && h.testBit j) || (h.testBit 6 && decide (j = p))) := by decide +kernel
theorem on_mono {a b v : Nat} (ha : a < 128) (hb : b < 128) (hv : v < 42) (h : ∀ j, j < 7 → a.testBit j = true → b.testBit j = true) {j : Nat} (hj : j < 7) (z : (on_ a v).testBit j = true) : (on_ b v).testBit j = true := by
  have hp : (if v % 7 = 0 then v / 7 else 6) < 7 := by split <;> omega
  rw [o2_e, o2_b a ha _ hp j hj] at z
  rw [o2_e, o2_b b hb _ hp j hj]
  simp only [Bool.or_eq_true, Bool.and_eq_true] at z ⊢
  rcases z with ⟨z1, z2⟩ | ⟨z1, z2⟩
  · exact Or.inl ⟨z1, h j hj z2⟩
  · exact Or.inr ⟨h 6 (by decide) z1, z2⟩
theorem q_onw : ∀ h, h < 128 → ∀ v, v < 42 → (if ¬ ((nI h >>> (6 &&& 31)) &&& 1) = 0 then (if ¬ nI (v % 7) = 0 then (nI h &&& 63) ||| 64 else (nI h &&& 63) ||| ((1 : Int32) <<< (nI (v / 7) &&& 31))) else (nI h &&& 63) ||| 0) = nI (on_ h v) := by decide +kernel
theorem m_onw {h v : Nat} (hh : h < 128) (hv : v < 42) (m : jz_M) : f_Mo_onward (nI h) (nI v) m = some (nI (on_ h v)) := by
  rw [← q_onw h hh v hv]
  have e7 : nI v - nI (v / 7) * 7 = nI (v % 7) := by have := (n_div7 v hv).2; rwa [(n_div7 v hv).1] at this
  unfold f_Mo_onward f_Mo_onward_31
  simp only [(n_div7 v hv).1, e7]
  by_cases h1 : (nI h >>> (6 &&& 31)) &&& 1 = 0
  · simp only [h1, not_true_eq_false, if_false]
  · simp only [h1, not_false_eq_true, if_true]
    by_cases h2 : nI (v % 7) = 0
    · simp only [h2, not_true_eq_false, if_false]
    · simp only [h2, not_false_eq_true, if_true]
def rH (m : jz_M) (H : Nat → Nat) : Prop := ∀ v, v < 42 → m 20 v = nI (H v)
/-- first hops that may still grow -/
def V_ (G : GR) (s : Nat) (K H : Nat → Nat) : Prop := H s = 64 ∧ (∀ v, v < 42 → H v < 128) ∧ (∀ v, v < 42 → v ≠ s → ∀ j, j < 7 → (H v).testBit j = true → ∃ u k, u < 42 ∧ K u < 1000000 ∧ ed_ G u k ∧ tg_ G u k = v ∧ K v = K u + wt_ G u k ∧ (on_ (H u) v).testBit j = true)
def p2_ (H : Nat → Nat) : Nat := sm 42 (fun v => 127 - H v)
/-- a cheapest link of u to another than the start -/
def tt_ (G : GR) (s : Nat) (K : Nat → Nat) (u k : Nat) : Prop := ed_ G u k ∧ tg_ G u k ≠ s ∧ K (tg_ G u k) = K u + wt_ G u k
theorem V_up {G : GR} (hG : GP_ G) {s : Nat} {K H : Nat → Nat} (V : V_ G s K H) {u k : Nat} (hu : u < 42) (hk : K u < 1000000) (ht : tt_ G s K u k) (hne : H (tg_ G u k) ||| on_ (H u) (tg_ G u k) ≠ H (tg_ G u k)) : V_ G s K (up_ H (tg_ G u k) (H (tg_ G u k) ||| on_ (H u) (tg_ G u k))) ∧ p2_ (up_ H (tg_ G u k) (H (tg_ G u k) ||| on_ (H u) (tg_ G u k))) < p2_ H := by
  obtain ⟨v1, v2, v3⟩ := V
  obtain ⟨he, hs, hw⟩ := ht
  obtain ⟨t1, t2, _⟩ := (hG u hu).2 k he.2.1
  obtain ⟨t, ht⟩ : ∃ t, t = tg_ G u k := ⟨_, rfl⟩
  rw [← ht] at hs hw hne t1 ⊢
  have ho := (on_p (H u) (v2 u hu) t t1).1
  have hlt : H t ||| on_ (H u) t < 128 := Nat.or_lt_two_pow (n := 7) (v2 t t1) ho
  have hge : H t ≤ H t ||| on_ (H u) t := Nat.left_le_or
  have h128 : ∀ v, v < 42 → up_ H t (H t ||| on_ (H u) t) v < 128 := fun v hv => by
    by_cases hvt : v = t
    · rw [hvt, up_s]; exact hlt
    · rw [up_n _ _ hvt]; exact v2 v hv
  have mono : ∀ v, ∀ j, j < 7 → (H v).testBit j = true → (up_ H t (H t ||| on_ (H u) t) v).testBit j = true := fun v j hj z => by
    by_cases hvt : v = t
    · rw [hvt] at z ⊢; rw [up_s, Nat.testBit_or, z]; rfl
    · rw [up_n _ _ hvt]; exact z
  refine ⟨⟨by rw [up_n _ _ (fun z => hs z.symm)]; exact v1, h128, fun v hv hvs j hj z => ?_⟩, ?_⟩
  · have old : (H v).testBit j = true → ∃ u' k', u' < 42 ∧ K u' < 1000000 ∧ ed_ G u' k' ∧ tg_ G u' k' = v ∧ K v = K u' + wt_ G u' k' ∧ (on_ (up_ H t (H t ||| on_ (H u) t) u') v).testBit j = true := fun y => by
      obtain ⟨u', k', a1, a2, a3, a4, a5, a6⟩ := v3 v hv hvs j hj y
      exact ⟨u', k', a1, a2, a3, a4, a5, on_mono (v2 u' a1) (h128 u' a1) hv (mono u') hj a6⟩
    by_cases hvt : v = t
    · subst hvt
      rw [up_s, Nat.testBit_or, Bool.or_eq_true] at z
      rcases z with z | z
      · exact old z
      · exact ⟨u, k, hu, hk, he, ht.symm, hw, on_mono (v2 u hu) (h128 u hu) hv (mono u) hj z⟩
    · rw [up_n _ _ hvt] at z; exact old z
  · unfold p2_
    refine sm_lt (t := t) 42 (fun v hv => ?_) t1 ?_
    · show 127 - up_ H t (H t ||| on_ (H u) t) v ≤ 127 - H v
      by_cases hvt : v = t
      · rw [hvt, up_s]; omega
      · rw [up_n _ _ hvt]; exact Nat.le_refl _
    · show 127 - up_ H t (H t ||| on_ (H u) t) t < 127 - H t
      rw [up_s]; omega
theorem rH_1 {m : jz_M} {H : Nat → Nat} (h : rH m H) (t x : Nat) : rH (jz_up m 20 t (nI x)) (up_ H t x) := by
  intro v hv
  rw [pz_up]
  by_cases hvt : v = t
  · rw [if_pos ⟨rfl, hvt⟩, hvt, up_s]
  · rw [if_neg (fun z => hvt z.2), up_n _ _ hvt]; exact h v hv
def Yh (m m' : jz_M) (H H' : Nat → Nat) (x x' : Int32) (S : Prop) : Prop := (x' = x ∧ m' = m ∧ H' = H ∧ S) ∨ (x' = 1 ∧ p2_ H' < p2_ H)
