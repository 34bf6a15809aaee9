/-! class and reference find the same ways -/
theorem I_G {b : Nat} {mc mm : jz_M} (hI : I_ b mc mm) (hb : b ≤ 200000) {l r : Nat} (hl : l < 2) (hr : r < 6) : ∃ G : GR, GP_ G ∧ gC mc (bx l r) G ∧ gM mm l r G := by
  refine ⟨⟨fun u => !decide (mm 10 (ix l r u) = 0), fun u => (mm 14 (ix l r u)).toInt.toNat, fun u k => (mm 15 (10 * ix l r u + k)).toInt.toNat % 64, fun u k => (mm 15 (10 * ix l r u + k)).toInt.toNat / 64⟩, ?_⟩
  have A : ∀ u, u < 42 → ∃ s f k : Nat, s ≤ b ∧ f ≤ 20 ∧ k ≤ 10 ∧ mm 8 (ix l r u) = nI s ∧ mm 10 (ix l r u) = nI f ∧ mm 14 (ix l r u) = nI k ∧ (f ≠ 0 → s ≠ 0) ∧ (∀ j, j < k → LK u (mm 15 (10 * ix l r u + j))) ∧ mc (bx l r + 3) u = nI f ∧ (s ≠ 0 → mc (bx l r + 7) u = nI k) ∧ (∀ j, j < 10 → mc (bx l r + 8) (10 * u + j) = mm 15 (10 * ix l r u + j)) := fun u hu => by
    obtain ⟨⟨a1, a2, a3, a4, a5, a6, a7, a8, a9, a10⟩, ⟨⟨s, t, b1, b2, b3, b4⟩, ⟨f, f1, f2⟩, b6, b7, b8, b9, ⟨k, k1, k2, k3⟩, b10, b11⟩⟩ := hI.2.2.2.2.2 l r u hl hr hu
    refine ⟨s, f, k, by omega, f1, k1, b1, f2, k2, fun z y => ?_, k3, a3.trans f2, fun z => ?_, a8⟩
    · have := (b6 (by rw [b1, y]; rfl)).1
      rw [f2] at this
      exact z ((nI_eq (b := 0) (by omega) (by decide)).mp this)
    · exact (a7 (by rw [b1]; exact fun y => z ((nI_eq (b := 0) (by omega) (by decide)).mp y))).trans k2
  have T : ∀ n : Nat, n < 2 ^ 31 → (nI n).toInt.toNat = n := fun n hn => by rw [nI_toInt hn]; rfl
  have M : ∀ u k, k ≤ 10 → mm 14 (ix l r u) = nI k → (mm 14 (ix l r u)).toInt.toNat = k := fun u k hk e => by rw [e]; exact T k (by omega)
  have L : ∀ u j, LK u (mm 15 (10 * ix l r u + j)) → (mm 15 (10 * ix l r u + j)).toInt.toNat % 64 < 42 ∧ (mm 15 (10 * ix l r u + j)).toInt.toNat / 64 ≤ 60 ∧ (u % 7 = 0 → 1 ≤ (mm 15 (10 * ix l r u + j)).toInt.toNat / 64) ∧ (u % 7 ≠ 0 → (mm 15 (10 * ix l r u + j)).toInt.toNat / 64 = 0 ∧ (mm 15 (10 * ix l r u + j)).toInt.toNat % 64 % 7 = 0) ∧ mm 15 (10 * ix l r u + j) = nI ((mm 15 (10 * ix l r u + j)).toInt.toNat % 64 + 64 * ((mm 15 (10 * ix l r u + j)).toInt.toNat / 64)) := fun u j ⟨t, w, e, h1, h2, h3, h4⟩ => by
    rw [e, T _ (by omega)]
    rw [show (t + 64 * w) % 64 = t by omega, show (t + 64 * w) / 64 = w by omega]
    exact ⟨h1, h2, h3, h4, rfl⟩
  refine ⟨fun u hu => ?_, fun u hu => ?_, fun u hu => ?_⟩
  · obtain ⟨s, f, k, h1, h2, h3, h4, h5, h6, h7, h8, h9, h10, h11⟩ := A u hu
    unfold mn_ tg_ wt_
    dsimp only
    rw [M u k h3 h6]
    refine ⟨h3, fun j hj => ?_⟩
    obtain ⟨q1, q2, q3, q4, q5⟩ := L u j (h8 j hj)
    exact ⟨q1, q2, q3, q4⟩
  · obtain ⟨s, f, k, h1, h2, h3, h4, h5, h6, h7, h8, h9, h10, h11⟩ := A u hu
    unfold mn_ tg_ wt_ al_
    dsimp only
    rw [M u k h3 h6]
    have hal : ((!decide (mm 10 (ix l r u) = 0)) = true) ↔ f ≠ 0 := by
      rw [h5]; simp [n_eq0 (show f < 2 ^ 31 by omega)]
    refine ⟨⟨f, h2, h9, hal⟩, fun z => h10 (h7 (hal.mp z)), fun j hj => ?_⟩
    rw [h11 j (by omega)]
    exact (L u j (h8 j hj)).2.2.2.2
  · obtain ⟨s, f, k, h1, h2, h3, h4, h5, h6, h7, h8, h9, h10, h11⟩ := A u hu
    unfold mn_ tg_ wt_ al_
    dsimp only
    rw [M u k h3 h6]
    have hal : ((!decide (mm 10 (ix l r u) = 0)) = true) ↔ f ≠ 0 := by
      rw [h5]; simp [n_eq0 (show f < 2 ^ 31 by omega)]
    exact ⟨⟨s, f, by omega, h2, h4, h5, hal, h7⟩, h6, fun j hj => (L u j (h8 j hj)).2.2.2.2⟩
/-- to the routers -/
def RW_ (mc mm : jz_M) (l r : Nat) (K H : Nat → Nat) : Prop := ∀ d, d < 6 → d ≠ r → mc 149 (7 * d) = nI (K (7 * d)) ∧ mm 19 (7 * d) = cM (K (7 * d)) ∧ (K (7 * d) = 1000000 ∨ K (7 * d) ≤ 2520) ∧ (K (7 * d) < 1000000 → f_Mo_lives (nI r) (nI (l + 1)) (nI (7 * d)) mm = some 1 ∧ mc 150 (7 * d) = nI (H (7 * d)) ∧ mm 20 (7 * d) = nI (H (7 * d)) ∧ H (7 * d) < 128 ∧ ∃ j, j < 6 ∧ (H (7 * d)).testBit j = true)
theorem ways_ {b : Nat} {mc mm : jz_M} (hI : I_ b mc mm) (hb : b ≤ 200000) {l r : Nat} (hl : l < 2) (hr : r < 6) : ∃ (mc' mm' : jz_M) (K H : Nat → Nat), f_Wa_find (bx l r) (nI (7 * r)) mc = some mc' ∧ f_Mo_ways (nI r) (nI (l + 1)) mm = some mm' ∧ (∀ q, q < 146 → mc' q = mc q) ∧ (∀ q, q ≤ 18 → mm' q = mm q) ∧ RW_ mc' mm' l r K H := by
  obtain ⟨G, hG, gc, gm⟩ := I_G hI hb hl hr
  obtain ⟨mc', K, H, Z, a1, a2, a3, a4⟩ := g_find hG (o := bx l r) (s := 7 * r) (by unfold bx; omega) (by omega) gc
  obtain ⟨mm', K', H', b1, b2, b3, b4, b5⟩ := m_ways hG hl hr gm
  refine ⟨mc', mm', K, H, a1, b1, a2, b2, fun d hd hdr => ?_⟩
  have h42 : 7 * d < 42 := by omega
  have hne : 7 * d ≠ 7 * r := by omega
  have eK : K (7 * d) = K' (7 * d) := by rw [W_K hG a4 b5 h42, up_n _ _ hne]
  refine ⟨(a3 _ h42).1, by rw [b3 _ h42, eK], a4.2.2.1 _ h42, fun hk => ⟨?_, (a3 _ h42).2.1, ?_, W_h128 a4 h42 hk, W_hop hG a4 h42 (by omega) hne hk⟩⟩
  · rw [m_lives (gM_fr gm (fun q hq => b2 q (by omega))) hl hr h42, W_al a4 h42 hne hk]; rfl
  · rw [b4 _ h42, W_H hG a4 b5 h42 hk]
theorem tb_i : ∀ h, h < 128 → ∀ i, i < 6 → ((nI h >>> (nI i &&& 31)) &&& 1 = 0) = (h.testBit i = false) := by
  have : ∀ h, h < 128 → ∀ i, i < 6 → decide ((nI h >>> (nI i &&& 31)) &&& 1 = 0) = decide (h.testBit i = false) := by decide +kernel
  intro h hh i hi
  exact propext (decide_eq_decide.mp (this h hh i hi))
theorem low_ {mc mm : jz_M} {h d : Nat} (hh : h < 128) (hd : d < 6) : ∀ (g i fu fu' : Nat), i + g = 6 → g < fu → g < fu' → (∃ j, i ≤ j ∧ j < 6 ∧ h.testBit j = true) → ∃ j, j < 6 ∧ f_Wa_wayTo_37 mc fu (nI d) (nI h) (nI i) = some (nI j + 8 * mc 149 (7 * d)) ∧ f_Mo_lowest_2 mm fu' (nI h) (nI i) = some (nI j) := by
  intro g
  induction g with
  | zero => intro i fu fu' h1 _ _ ⟨j, a, b, _⟩; omega
  | succ g ih =>
    intro i fu fu' h1 h2 h3 ⟨j, a, b, e⟩
    obtain ⟨fu, rfl⟩ : ∃ k, fu = k + 1 := ⟨fu - 1, by omega⟩
    obtain ⟨fu', rfl⟩ : ∃ k, fu' = k + 1 := ⟨fu' - 1, by omega⟩
    have hi : i < 6 := by omega
    rw [f_Wa_wayTo_37, if_neg (pn6 hi), f_Mo_lowest_2, if_neg (pn6 hi)]
    unfold f_AR_nameOf
    simp only [tb_i h hh i hi, n7a, Option.bind_some, pz_ix (show 7 * d < 42 by omega) (show 42 < 2 ^ 31 by decide), pz_n, nI_1]
    by_cases hb : h.testBit i = false
    · simp only [if_pos hb, if_neg (fun z => z hb : ¬ ¬ h.testBit i = false)]
      refine ih (i + 1) fu fu' (by omega) (by omega) (by omega) ⟨j, ?_, b, e⟩
      rcases Nat.lt_or_ge i j with z | z
      · exact z
      · rw [show j = i by omega, hb] at e; exact absurd e (by decide)
    · simp only [if_neg hb, if_pos hb]
      exact ⟨i, hi, rfl, rfl⟩
/-- an answer of a way -/
def aw_ (w : Int32) : Prop := w = -1 ∨ ∃ j k, j < 6 ∧ k ≤ 2520 ∧ w = nI (j + 8 * k)
theorem wayTo_ {mc mm : jz_M} {l r : Nat} {K H : Nat → Nat} (R : RW_ mc mm l r K H) (hr : r < 6) {d : Nat} (hd : d < 6) (hdr : d ≠ r) : ∃ w, f_Wa_wayTo (nI d) mc = some w ∧ f_Mo_way (nI r) (nI d) mm = some w ∧ ((w = -1 ∧ K (7 * d) = 1000000) ∨ (K (7 * d) < 1000000 ∧ ∃ j k, j < 6 ∧ k ≤ 2520 ∧ w = nI (j + 8 * k))) := by
  obtain ⟨r1, r2, r3, r4⟩ := R d hd hdr
  unfold f_Wa_wayTo f_Mo_way f_AR_nameOf f_Mo_way_17 f_Mo_lowest
  simp only [q_rt_in hd, Option.bind_some, i10, n7, n7a, Int32.add_zero, pz_ix (show 7 * d < 42 by omega) (show 42 < 2 ^ 31 by decide), pz_n, r1, r2, cM_neg, n_eq (show d < 2 ^ 31 by omega) (show r < 2 ^ 31 by omega)]
  rw [show (1000000 : Int32) = nI 1000000 from rfl]
  simp only [n_lt (show K (7 * d) < 2 ^ 31 by omega) (show 1000000 < 2 ^ 31 by decide)]
  by_cases hk : K (7 * d) < 1000000
  · obtain ⟨r5, r6, r7, r8, j0, j1, j2⟩ := r4 hk
    rw [if_pos hk, if_neg (fun z => z hk), if_pos hdr, r6, r7]
    obtain ⟨j, hj, e1, e2⟩ := low_ (mc := mc) (mm := mm) r8 hd 6 0 1000 1000000 (by decide) (by decide) (by decide) ⟨j0, Nat.zero_le _, j1, j2⟩
    rw [show f_Mo_lowest_2 mm 1000000 (nI (H (7 * d))) 0 = some (nI j) from e2, show f_Wa_wayTo_37 mc 1000 (nI d) (nI (H (7 * d))) 0 = _ from e1, r1, show cM (K (7 * d)) = nI (K (7 * d)) from if_pos hk]
    exact ⟨_, rfl, rfl, Or.inr ⟨hk, j, K (7 * d), hj, by omega, by rw [show (8 : Int32) = nI 8 from rfl, nI_mul, nI_add]⟩⟩
  · rw [if_neg hk, if_pos hk]
    exact ⟨-1, rfl, rfl, Or.inl ⟨rfl, by omega⟩⟩
