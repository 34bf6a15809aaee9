/-! sections of the invariant, and attach -/
theorem x_on {mm mm' : jz_M} (g4 : mm' 4 = mm 4) : o_on mm' = o_on mm := by funext r q; unfold o_on; rw [g4]
theorem x_ct {mm mm' : jz_M} (g4 : mm' 4 = mm 4) : o_ct mm' = o_ct mm := by funext r g i a; unfold o_ct; simp only [o_on, g4]
theorem x_cs {mm mm' : jz_M} (g4 : mm' 4 = mm 4) : o_cs mm' = o_cs mm := by funext r g i a; unfold o_cs; simp only [o_on, g4]
theorem x_sh {mm mm' : jz_M} (g4 : mm' 4 = mm 4) : o_sh mm' = o_sh mm := by funext r; unfold o_sh; rw [x_ct g4]
theorem x_pl {mc mc' mm mm' : jz_M} (h1 : mc' 1 = mc 1) (h2 : mc' 2 = mc 2) (g1 : mm' 1 = mm 1) (g2 : mm' 2 = mm 2) (g3 : mm' 3 = mm 3) (g4 : mm' 4 = mm 4) : I_pl mc' mm' = I_pl mc mm := by funext r; unfold I_pl; rw [h1, h2, g1, g2, g3, x_on g4]
theorem x_wi {mc mc' mm mm' : jz_M} (h1 : mc' 4 = mc 4) (h2 : mc' 5 = mc 5) (g1 : mm' 4 = mm 4) (g2 : mm' 5 = mm 5) : I_wi mc' mm' = I_wi mc mm := by funext r; unfold I_wi; rw [h1, h2, g1, g2]
theorem x_he {mc mc' mm mm' : jz_M} (h : ∀ k, 7 ≤ k → k < 13 → mc' k = mc k) (g1 : mm' 6 = mm 6) (g2 : mm' 7 = mm 7) {l e : Nat} (hl : l < 2) : I_he mc' mm' l e = I_he mc mm l e := by unfold I_he; rw [h (8 + 3 * l) (by omega) (by omega), h (9 + 3 * l) (by omega) (by omega), g1, g2]
theorem x_ih {mm mm' : jz_M} (g4 : mm' 4 = mm 4) (g6 : mm' 6 = mm 6) (g7 : mm' 7 = mm 7) : ih_ mm' = ih_ mm := by funext l r c n; unfold ih_; rw [g6, g7, x_on g4]
theorem x_rd {mc mc' mm mm' : jz_M} (h : ∀ k, 14 ≤ k → k < 146 → mc' k = mc k) (g : ∀ k, 8 ≤ k → k ≤ 17 → mm' k = mm k) {l r n : Nat} (hl : l < 2) (hr : r < 6) : rd_ mc' mm' l r n = rd_ mc mm l r n := by
  unfold rd_
  simp only [h (bx l r + 1) (by unfold bx; omega) (by unfold bx; omega), h (bx l r + 2) (by unfold bx; omega) (by unfold bx; omega), h (bx l r + 3) (by unfold bx; omega) (by unfold bx; omega), h (bx l r + 4) (by unfold bx; omega) (by unfold bx; omega), h (bx l r + 5) (by unfold bx; omega) (by unfold bx; omega), h (bx l r + 6) (by unfold bx; omega) (by unfold bx; omega), h (bx l r + 7) (by unfold bx; omega) (by unfold bx; omega), h (bx l r + 8) (by unfold bx; omega) (by unfold bx; omega), h (bx l r + 9) (by unfold bx; omega) (by unfold bx; omega), h (bx l r + 10) (by unfold bx; omega) (by unfold bx; omega), g 8 (by decide) (by decide), g 9 (by decide) (by decide), g 10 (by decide) (by decide), g 11 (by decide) (by decide), g 12 (by decide) (by decide), g 13 (by decide) (by decide), g 14 (by decide) (by decide), g 15 (by decide) (by decide), g 16 (by decide) (by decide), g 17 (by decide) (by decide)]
theorem x_iv {c : Nat} {mm mm' : jz_M} (g : ∀ k, 8 ≤ k → k ≤ 17 → mm' k = mm k) {l r n : Nat} : iv_ c mm' l r n = iv_ c mm l r n := by
  unfold iv_
  simp only [g 8 (by decide) (by decide), g 9 (by decide) (by decide), g 10 (by decide) (by decide), g 11 (by decide) (by decide), g 12 (by decide) (by decide), g 13 (by decide) (by decide), g 14 (by decide) (by decide), g 15 (by decide) (by decide), g 16 (by decide) (by decide), g 17 (by decide) (by decide)]
theorem b6_n_set {f g : Nat → Bool} {r : Nat} (hr : r < 6) (h0 : f r = false) (h : ∀ x, x < 6 → g x = (f x || decide (x = r))) : b6_n g = b6_n f + 1 := by
  unfold b6_n
  rw [h 0 (by decide), h 1 (by decide), h 2 (by decide), h 3 (by decide), h 4 (by decide), h 5 (by decide)]
  rcases (show r = 0 ∨ r = 1 ∨ r = 2 ∨ r = 3 ∨ r = 4 ∨ r = 5 by omega) with rfl | rfl | rfl | rfl | rfl | rfl <;> rw [h0] <;> simp <;> omega
theorem I_att {c : Nat} {mc mm : jz_M} (h : I_ c mc mm) {r q a p : Nat} (hr : r < 6) (hq : q < 6) (ha1 : 1 ≤ a) (ha : a ≤ 60) (hp : p ≤ 100) (hct : o_on mm r q = true ∨ o_ct mm q 6 0 0 < 4) :
    I_ c (jz_up (jz_up mc 4 (6 * r + q) (nI a)) 5 (6 * r + q) (nI p)) (jz_up (jz_up (jz_up mm 3 r 1) 4 (6 * r + q) (nI a)) 5 (6 * r + q) (nI p)) := by
  obtain ⟨m2, hm2⟩ : ∃ x, x = jz_up (jz_up (jz_up mm 3 r 1) 4 (6 * r + q) (nI a)) 5 (6 * r + q) (nI p) := ⟨_, rfl⟩
  obtain ⟨c2, hc2⟩ : ∃ x, x = jz_up (jz_up mc 4 (6 * r + q) (nI a)) 5 (6 * r + q) (nI p) := ⟨_, rfl⟩
  rw [← hm2, ← hc2]
  have hk : ∀ k, k ≠ 3 → k ≠ 4 → k ≠ 5 → m2 k = mm k := fun k h1 h2 h3 => by rw [hm2, jz_up_k h3, jz_up_k h2, jz_up_k h1]
  have gk : ∀ k, k ≠ 4 → k ≠ 5 → c2 k = mc k := fun k h2 h3 => by rw [hc2, jz_up_k h3, jz_up_k h2]
  have on : ∀ x y, x < 6 → y < 6 → o_on m2 x y = (o_on mm x y || (decide (x = r) && decide (y = q))) := fun x y hx hy => by
    unfold o_on
    rw [hm2, jz_up_k (by decide), pz_up, jz_up_k (by decide)]
    by_cases e : x = r ∧ y = q
    · obtain ⟨rfl, rfl⟩ := e
      rw [if_pos ⟨rfl, rfl⟩, nI_toInt (by omega)]
      simp; omega
    · rw [if_neg (fun z => e (by omega))]
      have : (decide (x = r) && decide (y = q)) = false := by
        by_cases e1 : x = r
        · have e2 : y ≠ q := fun z => e ⟨e1, z⟩
          simp [e2]
        · simp [e1]
      rw [this, Bool.or_false]
  refine ⟨fun x hx => ?_, fun j hj => ?_, fun y hy => ?_, fun l e hl he => ?_, fun l x y n h1 h2 h3 h4 => ?_, fun l r n h1 h2 h3 => ?_⟩
  · obtain ⟨e1, e2, e3, e4, e5⟩ := h.1 x hx
    unfold I_pl
    rw [gk 1 (by decide) (by decide), gk 2 (by decide) (by decide), hk 1 (by decide) (by decide) (by decide), hk 2 (by decide) (by decide) (by decide)]
    refine ⟨e1, e2, e3, e4, ?_⟩
    rw [show m2 3 x = if x = r then 1 else mm 3 x by rw [hm2, jz_up_k (by decide), jz_up_k (by decide), pz_up]; simp]
    by_cases hxr : x = r
    · subst hxr
      rw [if_pos rfl]
      refine ⟨fun z => absurd z (by decide), fun z => ?_⟩
      have := z q hq
      rw [on x q hx hq] at this
      simp at this
    · rw [if_neg hxr, e5]
      refine ⟨fun z y hy => ?_, fun z y hy => ?_⟩
      · rw [on x y hx hy, z y hy]; simp [hxr]
      · have := z y hy
        rw [on x y hx hy] at this
        simpa [hxr] using this
  · obtain ⟨e1, e2, e3, e4⟩ := h.2.1 j hj
    unfold I_wi
    have f1 : m2 4 j = if j = 6 * r + q then nI a else mm 4 j := by rw [hm2, jz_up_k (by decide), pz_up, jz_up_k (by decide)]; simp
    have f2 : m2 5 j = if j = 6 * r + q then nI p else mm 5 j := by rw [hm2, pz_up, jz_up_k (by decide), jz_up_k (by decide)]; simp
    have f3 : c2 4 j = if j = 6 * r + q then nI a else mc 4 j := by rw [hc2, jz_up_k (by decide), pz_up]; simp
    have f4 : c2 5 j = if j = 6 * r + q then nI p else mc 5 j := by rw [hc2, pz_up, jz_up_k (by decide)]; simp
    rw [f1, f2, f3, f4]
    by_cases hj2 : j = 6 * r + q
    · rw [if_pos hj2, if_pos hj2, if_pos hj2, if_pos hj2]; exact ⟨rfl, rfl, ⟨a, ha, rfl⟩, ⟨p, hp, rfl⟩⟩
    · rw [if_neg hj2, if_neg hj2, if_neg hj2, if_neg hj2]; exact ⟨e1, e2, e3, e4⟩
  · have hy4 := h.2.2.1 y hy
    rw [o_ct_b] at hy4 ⊢
    by_cases hyq : y = q
    · subst hyq
      by_cases hon : o_on mm r y = true
      · rw [b6_n_c (g := fun r => o_on mm r y) (fun x hx => ?_)]
        · exact hy4
        · rw [on x y hx hy]
          by_cases hxr : x = r
          · subst hxr; rw [hon]; rfl
          · simp [hxr]
      · have hlt : b6_n (fun r => o_on mm r y) < 4 := by
          rcases hct with z | z
          · exact absurd z hon
          · rw [o_ct_b] at z; exact z
        rw [b6_n_set (f := fun r => o_on mm r y) hr (by simpa using hon) (fun x hx => by rw [on x y hx hy]; simp)]
        omega
    · rw [b6_n_c (g := fun r => o_on mm r y) (fun x hx => by rw [on x y hx hy]; simp [hyq])]
      exact hy4
  · rw [x_he (mc := mc) (mm := mm) (fun k h1 h2 => gk k (by omega) (by omega)) (hk 6 (by decide) (by decide) (by decide)) (hk 7 (by decide) (by decide) (by decide)) hl]
    exact h.2.2.2.1 l e hl he
  · obtain ⟨e1, e2, e3⟩ := h.2.2.2.2.1 l x y n h1 h2 h3 h4
    unfold ih_
    rw [hk 6 (by decide) (by decide) (by decide), hk 7 (by decide) (by decide) (by decide)]
    refine ⟨e1, e2, fun z => ?_⟩
    obtain ⟨f1, f2, f3⟩ := e3 z
    exact ⟨f1, by rw [on x y h2 h3, f2]; rfl, by rw [on n y h4 h3, f3]; rfl⟩
  · rw [x_rd (mc := mc) (mm := mm) (fun k h1 h2 => gk k (by omega) (by omega)) (fun k h1 h2 => hk k (by omega) (by omega) (by omega)) h1 h2, x_iv (mm := mm) (fun k h1 h2 => hk k (by omega) (by omega) (by omega))]
    exact h.2.2.2.2.2 l r n h1 h2 h3
theorem pz_aa (a : Int32) : (a ≤ 100) = ¬ (100 < a) := propext (by rw [i32_lt, i32_le]; omega)
theorem pz_ix6 {r q : Nat} (hr : r < 6) (hq : q < 6) : jz_ix 36 (nI r * 6 + nI q) = some (6 * r + q) := by
  rw [show nI r * 6 + nI q = nI (6 * r + q) by rw [show (6 : Int32) = nI 6 from rfl, nI_mul, nI_add, Nat.mul_comm]]; exact pz_ix (by omega) (by decide)
theorem pz_ix6m {r q : Nat} (hr : r < 6) (hq : q < 6) : jz_ix 36 ((6 : Int32) * nI r + nI q) = some (6 * r + q) := by
  rw [show (6 : Int32) * nI r + nI q = nI (6 * r + q) by rw [show (6 : Int32) = nI 6 from rfl, nI_mul, nI_add]]; exact pz_ix (by omega) (by decide)
theorem q_ct_in {r : Nat} (h : r < 6) (m : jz_M) : f_AR_isCircuit (nI r) m = some 1 := q_rt_in h m
theorem q_ct_out {a : Int32} (h : a < 0 ∨ nI 6 ≤ a) (m : jz_M) : f_AR_isCircuit a m = some 0 := q_rt_out h m
theorem q_one_in {r : Nat} (h : r < 6) (m : jz_M) : f_Mo_isOne (nI r) m = some 1 := (q_one _ m m).trans (q_rt_in h m)
theorem q_one_out {a : Int32} (h : a < 0 ∨ nI 6 ≤ a) (m : jz_M) : f_Mo_isOne a m = some 0 := (q_one _ m m).trans (q_rt_out h m)
theorem ok_attach : sp_attach J_ := by
  intro c mc mm hc hI a1 a2 a3 a4
  unfold f_AR_attach f_Mo_attach
  simp only [pz_n, pz_aa]
  obtain ⟨m1, hm1⟩ : ∃ x, x = jz_up mm 0 0 0 := ⟨_, rfl⟩
  rw [← hm1]
  have hI1 : I_ (252 * c) mc m1 := by rw [hm1]; exact I_thr 0 0 hI
  rcases pz_rng (n := 6) (by decide) a1 with ⟨r, hr, rfl⟩ | ho
  · simp only [q_rt_in hr, q_one_in hr, Option.bind_some, i10]
    rcases pz_rng (n := 6) (by decide) a2 with ⟨q, hq, rfl⟩ | ho
    · simp only [q_ct_in hq, q_one_in hq, Option.bind_some, n10, i10]
      by_cases h1 : a3 < 1
      · simp only [if_pos h1]; exact ⟨_, _, rfl, rfl, rfl, I_up hI1⟩
      simp only [if_neg h1]
      by_cases h2 : 60 < a3
      · simp only [if_pos h2]; exact ⟨_, _, rfl, rfl, rfl, I_up hI1⟩
      simp only [if_neg h2]
      by_cases h3 : a4 < 0
      · simp only [if_pos h3]; exact ⟨_, _, rfl, rfl, rfl, I_up hI1⟩
      simp only [if_neg h3]
      by_cases h4 : 100 < a4
      · simp only [if_neg (fun z => z h4 : ¬ ¬ 100 < a4), if_pos h4]; exact ⟨_, _, rfl, rfl, rfl, I_up hI1⟩
      simp only [if_pos h4, if_neg h4]
      obtain ⟨a, ha1, ha, rfl⟩ := pz_nI (lo := 1) (hi := 60) (by decide) (by decide) h1 h2
      obtain ⟨p, _, hp, rfl⟩ := pz_nI (lo := 0) (hi := 100) (by decide) (by decide) h3 h4
      have go : (o_on m1 r q = true ∨ o_ct m1 q 6 0 0 < 4) → ∃ r_1 q_1, f_AR_attach_67 (nI r) (nI q) (nI a) (nI p) mc = some r_1 ∧ f_Mo_attach_62 (nI r) (nI q) (nI a) (nI p) m1 = some q_1 ∧ r_1.1 = q_1.1 ∧ I_ (252 * (c + 1)) r_1.2 q_1.2 := fun hct => by
        unfold f_AR_attach_67 f_Mo_attach_62 f_Wi_join
        simp only [pz_n, pz_ix6 hr hq, pz_ix6m hr hq, pz_ix hr (show 6 < 2 ^ 31 by decide), Option.bind_some]
        exact ⟨_, _, rfl, rfl, rfl, I_up (I_att hI1 hr hq ha1 ha hp hct)⟩
      simp only [q_at hr hq, q_on hr hq, Option.bind_some, b1_n, I_on hI1 hr hq]
      by_cases hon : o_on m1 r q = true
      · simp only [if_pos hon]; exact go (Or.inl hon)
      · simp only [if_neg hon, q_cnt hq, q_mcnt hq, Option.bind_some, I_ct hI1 hq]
        have h4' := hI1.2.2.1 q hq
        by_cases hlt : o_ct m1 q 6 0 0 < 4
        · simp only [if_pos (show nI (o_ct m1 q 6 0 0) < 4 from nI_lt (b := 4) hlt (by decide)), if_pos (show ¬ nI (o_ct m1 q 6 0 0) = 4 from fun z => by have := (nI_eq (b := 4) (by omega) (by decide)).mp z; omega)]
          exact go (Or.inr hlt)
        · have he : o_ct m1 q 6 0 0 = 4 := by omega
          simp only [he, if_neg (show ¬ nI 4 < 4 by decide), if_neg (show ¬ ¬ nI 4 = 4 by decide)]
          exact ⟨_, _, rfl, rfl, rfl, I_up hI1⟩
    · simp only [q_ct_out ho, q_one_out ho, Option.bind_some, n00, i00]
      exact ⟨_, _, rfl, rfl, rfl, I_up hI1⟩
  · simp only [q_rt_out ho, q_one_out ho, Option.bind_some, i00]
    exact ⟨_, _, rfl, rfl, rfl, I_up hI1⟩
