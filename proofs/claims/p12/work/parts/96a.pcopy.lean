/-! a description is copied -/
/-- the class copies -/
theorem q_cp {l x r n k : Nat} {mc : jz_M} (hl : l < 2) (hx : x < 6) (hr : r < 6) (hxr : x ≠ r) (hn : n < 42) (hk : k ≤ 10) (e7 : mc (bx l r + 7) n = nI k) : ∃ mc' : jz_M, f_Ba_copyFrom (bx l x) (bx l r) (nI n) mc = some mc' ∧ mc' (bx l x + 1) n = mc (bx l r + 1) n ∧ mc' (bx l x + 2) n = jz_max (mc (bx l x + 2) n) (mc (bx l r + 1) n) ∧ mc' (bx l x + 3) n = mc (bx l r + 3) n ∧ mc' (bx l x + 4) n = 0 ∧ mc' (bx l x + 5) n = vp_nar .boolean (mc (bx l r + 5) n) ∧ mc' (bx l x + 6) n = mc (bx l r + 6) n ∧ mc' (bx l x + 7) n = nI k ∧ (∀ j, j < 10 → mc' (bx l x + 8) (10 * n + j) = if j < k then mc (bx l r + 8) (10 * n + j) else mc (bx l x + 8) (10 * n + j)) ∧ mc' (bx l x + 9) n = mc (bx l x + 9) n ∧ mc' (bx l x + 10) n = mc (bx l x + 10) n ∧ ∀ q j, ¬ cd_ l x n q j → mc' q j = mc q j := by
  have hb : ∀ f f', 1 ≤ f → f ≤ 10 → 1 ≤ f' → f' ≤ 10 → bx l r + f ≠ bx l x + f' := fun f f' h1 h2 h3 h4 => bx_ne hx hr h3 h4 h1 h2 (fun z => hxr z.2.symm)
  unfold f_Ba_copyFrom f_Ba_takeLinks
  simp only [pz_ix hn (show 42 < 2 ^ 31 by decide), Option.bind_some, pz_n]
  obtain ⟨m1, hm1⟩ : ∃ z, z = jz_up mc (bx l x + 1) n (mc (bx l r + 1) n) := ⟨_, rfl⟩
  rw [← hm1]
  have k1 : ∀ q j, q ≠ bx l x + 1 → m1 q j = mc q j := fun q j h => by rw [hm1, jz_up_k h]
  obtain ⟨m2, hm2⟩ : ∃ z, z = jz_up m1 (bx l x + 2) n (jz_max (m1 (bx l x + 2) n) (m1 (bx l x + 1) n)) := ⟨_, rfl⟩
  rw [← hm2]
  have k2 : ∀ q j, q ≠ bx l x + 2 → m2 q j = m1 q j := fun q j h => by rw [hm2, jz_up_k h]
  obtain ⟨m3, hm3⟩ : ∃ z, z = jz_up m2 (bx l x + 3) n (m2 (bx l r + 3) n) := ⟨_, rfl⟩
  rw [← hm3]
  have k3 : ∀ q j, q ≠ bx l x + 3 → m3 q j = m2 q j := fun q j h => by rw [hm3, jz_up_k h]
  obtain ⟨m4, hm4⟩ : ∃ z, z = jz_up m3 (bx l x + 4) n 0 := ⟨_, rfl⟩
  rw [← hm4]
  have k4 : ∀ q j, q ≠ bx l x + 4 → m4 q j = m3 q j := fun q j h => by rw [hm4, jz_up_k h]
  obtain ⟨m5, hm5⟩ : ∃ z, z = jz_up m4 (bx l x + 5) n (vp_nar .boolean (m4 (bx l r + 5) n)) := ⟨_, rfl⟩
  rw [← hm5]
  have k5 : ∀ q j, q ≠ bx l x + 5 → m5 q j = m4 q j := fun q j h => by rw [hm5, jz_up_k h]
  obtain ⟨m6, hm6⟩ : ∃ z, z = jz_up m5 (bx l x + 6) n (m5 (bx l r + 6) n) := ⟨_, rfl⟩
  rw [← hm6]
  have k6 : ∀ q j, q ≠ bx l x + 6 → m6 q j = m5 q j := fun q j h => by rw [hm6, jz_up_k h]
  have s6 : ∀ f j, 1 ≤ f → f ≤ 10 → m6 (bx l r + f) j = mc (bx l r + f) j := fun f j h1 h2 => by
    rw [k6 _ _ (hb f 6 h1 h2 (by decide) (by decide)), k5 _ _ (hb f 5 h1 h2 (by decide) (by decide)), k4 _ _ (hb f 4 h1 h2 (by decide) (by decide)), k3 _ _ (hb f 3 h1 h2 (by decide) (by decide)), k2 _ _ (hb f 2 h1 h2 (by decide) (by decide)), k1 _ _ (hb f 1 h1 h2 (by decide) (by decide))]
  rw [s6 7 n (by decide) (by decide), e7]
  obtain ⟨m7, hm7⟩ : ∃ z, z = jz_up m6 (bx l x + 7) n (nI k) := ⟨_, rfl⟩
  rw [← hm7]
  have k7 : ∀ q j, q ≠ bx l x + 7 → m7 q j = m6 q j := fun q j h => by rw [hm7, jz_up_k h]
  have tl := q_tl (n2 := 420) (o0 := bx l x) (o2 := bx l r + 8) (s := 10 * n) (m := m7) hn hk (by omega) (by decide) (hb 8 8 (by decide) (by decide) (by decide) (by decide)) k 0 1000 (by omega) (by omega)
  rw [lk_0] at tl
  rw [show nI n * 10 = nI (10 * n) by rw [show (10 : Int32) = nI 10 from rfl, nI_mul, Nat.mul_comm], show f_Ba_takeLinks_11 420 1000 (bx l x) (nI n) (bx l r + 8) (nI (10 * n)) (nI k) 0 m7 = _ from tl]
  simp only [Option.bind_some]
  refine ⟨_, rfl, ?_, ?_, ?_, ?_, ?_, ?_, ?_, fun j hj => ?_, ?_, ?_, fun q j hz => ?_⟩
  · rw [lk_k (by omega), k7 _ _ (by omega), k6 _ _ (by omega), k5 _ _ (by omega), k4 _ _ (by omega), k3 _ _ (by omega), k2 _ _ (by omega), hm1, pz_up_s]
  · rw [lk_k (by omega), k7 _ _ (by omega), k6 _ _ (by omega), k5 _ _ (by omega), k4 _ _ (by omega), k3 _ _ (by omega), hm2, pz_up_s, k1 _ _ (by omega), hm1, pz_up_s]
  · rw [lk_k (by omega), k7 _ _ (by omega), k6 _ _ (by omega), k5 _ _ (by omega), k4 _ _ (by omega), hm3, pz_up_s, k2 _ _ (hb 3 2 (by decide) (by decide) (by decide) (by decide)), k1 _ _ (hb 3 1 (by decide) (by decide) (by decide) (by decide))]
  · rw [lk_k (by omega), k7 _ _ (by omega), k6 _ _ (by omega), k5 _ _ (by omega), hm4, pz_up_s]
  · rw [lk_k (by omega), k7 _ _ (by omega), k6 _ _ (by omega), hm5, pz_up_s, k4 _ _ (hb 5 4 (by decide) (by decide) (by decide) (by decide)), k3 _ _ (hb 5 3 (by decide) (by decide) (by decide) (by decide)), k2 _ _ (hb 5 2 (by decide) (by decide) (by decide) (by decide)), k1 _ _ (hb 5 1 (by decide) (by decide) (by decide) (by decide))]
  · rw [lk_k (by omega), k7 _ _ (by omega), hm6, pz_up_s, k5 _ _ (hb 6 5 (by decide) (by decide) (by decide) (by decide)), k4 _ _ (hb 6 4 (by decide) (by decide) (by decide) (by decide)), k3 _ _ (hb 6 3 (by decide) (by decide) (by decide) (by decide)), k2 _ _ (hb 6 2 (by decide) (by decide) (by decide) (by decide)), k1 _ _ (hb 6 1 (by decide) (by decide) (by decide) (by decide))]
  · rw [lk_k (by omega), hm7, pz_up_s]
  · by_cases hjk : j < k
    · rw [if_pos hjk, lk_in hjk, k7 _ _ (hb 8 7 (by decide) (by decide) (by decide) (by decide)), s6 8 _ (by decide) (by decide)]
    · rw [if_neg hjk, lk_out (by omega), k7 _ _ (by omega), k6 _ _ (by omega), k5 _ _ (by omega), k4 _ _ (by omega), k3 _ _ (by omega), k2 _ _ (by omega), k1 _ _ (by omega)]
  · rw [lk_k (by omega), k7 _ _ (by omega), k6 _ _ (by omega), k5 _ _ (by omega), k4 _ _ (by omega), k3 _ _ (by omega), k2 _ _ (by omega), k1 _ _ (by omega)]
  · rw [lk_k (by omega), k7 _ _ (by omega), k6 _ _ (by omega), k5 _ _ (by omega), k4 _ _ (by omega), k3 _ _ (by omega), k2 _ _ (by omega), k1 _ _ (by omega)]
  · have nj : ∀ f, 1 ≤ f → f ≤ 10 → f ≠ 8 → ¬ (q = bx l x + f ∧ j = n) := fun f h1 h2 h8 z => hz ⟨by omega, by omega, fun y => by omega, fun _ => z.2⟩
    unfold lk_
    rw [if_neg (fun z => hz ⟨by omega, by omega, fun _ => by omega, fun y => absurd z.1 y⟩), hm7, pz_up, if_neg (nj 7 (by decide) (by decide) (by decide)), hm6, pz_up, if_neg (nj 6 (by decide) (by decide) (by decide)), hm5, pz_up, if_neg (nj 5 (by decide) (by decide) (by decide)), hm4, pz_up, if_neg (nj 4 (by decide) (by decide) (by decide)), hm3, pz_up, if_neg (nj 3 (by decide) (by decide) (by decide)), hm2, pz_up, if_neg (nj 2 (by decide) (by decide) (by decide)), hm1, pz_up, if_neg (nj 1 (by decide) (by decide) (by decide))]
/-- the reference copies -/
theorem q_mcl {i t k : Nat} {m : jz_M} (hi : i < 504) (ht : t < 504) (hit : i ≠ t) (hk : k ≤ 10) (e : m 14 i = nI k) : ∀ (g j fu : Nat), j + g = k → g < fu → f_Mo_copy_105 fu (nI i) (nI t) (nI j) (lk_ m 15 (10 * t) 15 (10 * i) j) = some (lk_ m 15 (10 * t) 15 (10 * i) k) := by
  intro g
  induction g with
  | zero =>
    intro j fu h1 h2
    obtain ⟨fu, rfl⟩ : ∃ k, fu = k + 1 := ⟨fu - 1, by omega⟩
    rw [f_Mo_copy_105, pz_b (pz_ix hi (by decide)), lk_k (by decide), e, if_pos (nI_le (by omega) (by omega)), show j = k by omega]
  | succ g ih =>
    intro j fu h1 h3
    obtain ⟨fu, rfl⟩ : ∃ k, fu = k + 1 := ⟨fu - 1, by omega⟩
    rw [f_Mo_copy_105, pz_b (pz_ix hi (by decide)), lk_k (show 14 ≠ 15 by decide), e, if_neg (pn_k (by omega) (by omega)), nI_10m, nI_10m, pz_b (pz_ix (show 10 * i + j < 5040 by omega) (by decide)), pz_b (pz_ix (show 10 * t + j < 5040 by omega) (by decide))]
    simp only [pz_n, nI_1]
    rw [lk_s (m := m) (q := 15) (b := 10 * t) (s := 15) (f := 10 * i) (i := j) (fun z => by omega)]
    exact ih (j + 1) fu (by omega) (by omega)
def mx_ (a b : Int32) : Int32 := if b ≤ a then a else b
theorem q_mcp {l x r n k : Nat} {mm : jz_M} (hl : l < 2) (hx : x < 6) (hr : r < 6) (hxr : x ≠ r) (hn : n < 42) (hk : k ≤ 10) (e7 : mm 14 (ix l r n) = nI k) : ∃ mm' : jz_M, f_Mo_copy (nI (ix l r n)) (nI (ix l x n)) mm = some mm' ∧ mm' 8 (ix l x n) = mm 8 (ix l r n) ∧ mm' 9 (ix l x n) = mx_ (mm 9 (ix l x n)) (mm 8 (ix l r n)) ∧ mm' 10 (ix l x n) = mm 10 (ix l r n) ∧ mm' 11 (ix l x n) = 0 ∧ mm' 12 (ix l x n) = vp_nar .boolean (mm 12 (ix l r n)) ∧ mm' 13 (ix l x n) = mm 13 (ix l r n) ∧ mm' 14 (ix l x n) = nI k ∧ (∀ j, j < 10 → mm' 15 (10 * ix l x n + j) = if j < k then mm 15 (10 * ix l r n + j) else mm 15 (10 * ix l x n + j)) ∧ mm' 16 (ix l x n) = mm 16 (ix l x n) ∧ mm' 17 (ix l x n) = mm 17 (ix l x n) ∧ ∀ q j, ¬ md_ l x n q j → mm' q j = mm q j := by
  have hit : ix l r n ≠ ix l x n := ix_ne hl hl hn hn (fun z => hxr z.2.1.symm)
  have hil := ix_lt hl hr hn
  have htl := ix_lt hl hx hn
  have hmd : ∀ q j, ¬ md_ l x n q j ↔ ¬ (8 ≤ q ∧ (q = 15 → 10 * ix l x n ≤ j ∧ j < 10 * ix l x n + 10) ∧ (q ≠ 15 → j = ix l x n)) := fun _ _ => Iff.rfl
  simp only [hmd]
  revert hit hil htl e7
  generalize ix l r n = i
  generalize ix l x n = t
  intro e7 hit hil htl
  unfold f_Mo_copy f_Mo_copy_47
  simp only [pz_ix hil (show 504 < 2 ^ 31 by decide), pz_ix htl (show 504 < 2 ^ 31 by decide), Option.bind_some, pz_n]
  obtain ⟨m1, hm1⟩ : ∃ z, z = jz_up mm 8 t (mm 8 i) := ⟨_, rfl⟩
  rw [← hm1]
  have k1 : ∀ q j, q ≠ 8 → m1 q j = mm q j := fun q j h => by rw [hm1, jz_up_k h]
  have e8 : m1 8 t = mm 8 i := by rw [hm1, pz_up_s]
  have e9 : m1 9 t = mm 9 t := k1 9 t (by decide)
  rw [e8, e9]
  obtain ⟨w, hw⟩ : ∃ w, w = mx_ (mm 9 t) (mm 8 i) := ⟨_, rfl⟩
  rw [← hw]
  have main : ∃ mm' : jz_M, f_Mo_copy_105 1000000 (nI i) (nI t) 0 (jz_up (jz_up (jz_up (jz_up (jz_up (jz_up m1 9 t w) 10 t (jz_up m1 9 t w 10 i)) 11 t 0) 12 t (vp_nar .boolean (jz_up (jz_up (jz_up m1 9 t w) 10 t (jz_up m1 9 t w 10 i)) 11 t 0 12 i))) 13 t (jz_up (jz_up (jz_up (jz_up m1 9 t w) 10 t (jz_up m1 9 t w 10 i)) 11 t 0) 12 t (vp_nar .boolean (jz_up (jz_up (jz_up m1 9 t w) 10 t (jz_up m1 9 t w 10 i)) 11 t 0 12 i)) 13 i)) 14 t (jz_up (jz_up (jz_up (jz_up (jz_up m1 9 t w) 10 t (jz_up m1 9 t w 10 i)) 11 t 0) 12 t (vp_nar .boolean (jz_up (jz_up (jz_up m1 9 t w) 10 t (jz_up m1 9 t w 10 i)) 11 t 0 12 i))) 13 t (jz_up (jz_up (jz_up (jz_up m1 9 t w) 10 t (jz_up m1 9 t w 10 i)) 11 t 0) 12 t (vp_nar .boolean (jz_up (jz_up (jz_up m1 9 t w) 10 t (jz_up m1 9 t w 10 i)) 11 t 0 12 i)) 13 i) 14 i)) = some mm' ∧ mm' 8 t = mm 8 i ∧ mm' 9 t = w ∧ mm' 10 t = mm 10 i ∧ mm' 11 t = 0 ∧ mm' 12 t = vp_nar .boolean (mm 12 i) ∧ mm' 13 t = mm 13 i ∧ mm' 14 t = nI k ∧ (∀ j, j < 10 → mm' 15 (10 * t + j) = if j < k then mm 15 (10 * i + j) else mm 15 (10 * t + j)) ∧ mm' 16 t = mm 16 t ∧ mm' 17 t = mm 17 t ∧ ∀ q j, ¬ (8 ≤ q ∧ (q = 15 → 10 * t ≤ j ∧ j < 10 * t + 10) ∧ (q ≠ 15 → j = t)) → mm' q j = mm q j := by
    obtain ⟨m2, hm2⟩ : ∃ z, z = jz_up m1 9 t w := ⟨_, rfl⟩
    rw [← hm2]
    have k2 : ∀ q j, q ≠ 9 → m2 q j = m1 q j := fun q j h => by rw [hm2, jz_up_k h]
    obtain ⟨m3, hm3⟩ : ∃ z, z = jz_up m2 10 t (m2 10 i) := ⟨_, rfl⟩
    rw [← hm3]
    have k3 : ∀ q j, q ≠ 10 → m3 q j = m2 q j := fun q j h => by rw [hm3, jz_up_k h]
    obtain ⟨m4, hm4⟩ : ∃ z, z = jz_up m3 11 t 0 := ⟨_, rfl⟩
    rw [← hm4]
    have k4 : ∀ q j, q ≠ 11 → m4 q j = m3 q j := fun q j h => by rw [hm4, jz_up_k h]
    obtain ⟨m5, hm5⟩ : ∃ z, z = jz_up m4 12 t (vp_nar .boolean (m4 12 i)) := ⟨_, rfl⟩
    rw [← hm5]
    have k5 : ∀ q j, q ≠ 12 → m5 q j = m4 q j := fun q j h => by rw [hm5, jz_up_k h]
    obtain ⟨m6, hm6⟩ : ∃ z, z = jz_up m5 13 t (m5 13 i) := ⟨_, rfl⟩
    rw [← hm6]
    have k6 : ∀ q j, q ≠ 13 → m6 q j = m5 q j := fun q j h => by rw [hm6, jz_up_k h]
    have e14 : m6 14 i = nI k := by rw [k6 _ _ (by decide), k5 _ _ (by decide), k4 _ _ (by decide), k3 _ _ (by decide), k2 _ _ (by decide), k1 _ _ (by decide), e7]
    rw [e14]
    obtain ⟨m7, hm7⟩ : ∃ z, z = jz_up m6 14 t (nI k) := ⟨_, rfl⟩
    rw [← hm7]
    have k7 : ∀ q j, q ≠ 14 → m7 q j = m6 q j := fun q j h => by rw [hm7, jz_up_k h]
    have kk : ∀ q j, ¬ (8 ≤ q ∧ q ≤ 14) → m7 q j = mm q j := fun q j h => by rw [k7 _ _ (by omega), k6 _ _ (by omega), k5 _ _ (by omega), k4 _ _ (by omega), k3 _ _ (by omega), k2 _ _ (by omega), k1 _ _ (by omega)]
    have tl := q_mcl (m := m7) hil htl hit hk (by rw [hm7, pz_up, if_neg (fun z => hit z.2), e14]) k 0 1000000 (by omega) (by omega)
    rw [lk_0] at tl
    refine ⟨_, tl, ?_, ?_, ?_, ?_, ?_, ?_, ?_, fun j hj => ?_, ?_, ?_, fun q j hz => ?_⟩
    · rw [lk_k (by decide), k7 _ _ (by decide), k6 _ _ (by decide), k5 _ _ (by decide), k4 _ _ (by decide), k3 _ _ (by decide), k2 _ _ (by decide), e8]
    · rw [lk_k (by decide), k7 _ _ (by decide), k6 _ _ (by decide), k5 _ _ (by decide), k4 _ _ (by decide), k3 _ _ (by decide), hm2, pz_up_s]
    · rw [lk_k (by decide), k7 _ _ (by decide), k6 _ _ (by decide), k5 _ _ (by decide), k4 _ _ (by decide), hm3, pz_up_s, k2 _ _ (by decide), k1 _ _ (by decide)]
    · rw [lk_k (by decide), k7 _ _ (by decide), k6 _ _ (by decide), k5 _ _ (by decide), hm4, pz_up_s]
    · rw [lk_k (by decide), k7 _ _ (by decide), k6 _ _ (by decide), hm5, pz_up_s, k4 _ _ (by decide), k3 _ _ (by decide), k2 _ _ (by decide), k1 _ _ (by decide)]
    · rw [lk_k (by decide), k7 _ _ (by decide), hm6, pz_up_s, k5 _ _ (by decide), k4 _ _ (by decide), k3 _ _ (by decide), k2 _ _ (by decide), k1 _ _ (by decide)]
    · rw [lk_k (by decide), hm7, pz_up_s]
    · by_cases hjk : j < k
      · rw [if_pos hjk, lk_in hjk, kk _ _ (by decide)]
      · rw [if_neg hjk, lk_out (by omega), kk _ _ (by decide)]
    · rw [lk_k (by decide), kk _ _ (by decide)]
    · rw [lk_k (by decide), kk _ _ (by decide)]
    · have nj : ∀ f, 8 ≤ f → f ≠ 15 → ¬ (q = f ∧ j = t) := fun f h1 h8 z => hz ⟨by omega, fun y => by omega, fun _ => z.2⟩
      unfold lk_
      rw [if_neg (fun z => hz ⟨by omega, fun _ => by omega, fun y => absurd z.1 y⟩), hm7, pz_up, if_neg (nj 14 (by decide) (by decide)), hm6, pz_up, if_neg (nj 13 (by decide) (by decide)), hm5, pz_up, if_neg (nj 12 (by decide) (by decide)), hm4, pz_up, if_neg (nj 11 (by decide) (by decide)), hm3, pz_up, if_neg (nj 10 (by decide) (by decide)), hm2, pz_up, if_neg (nj 9 (by decide) (by decide)), hm1, pz_up, if_neg (nj 8 (by decide) (by decide))]
  unfold mx_ at hw
  by_cases h : mm 8 i ≤ mm 9 t
  · rw [if_pos h] at hw; rw [if_pos h, ← hw]; exact main
  · rw [if_neg h] at hw; rw [if_neg h, ← hw]; rw [← hw] at main; exact main
