/-! tick -/
theorem ok_tick : sp_tick J_ := by
  intro c mc mm hc hI
  refine ⟨_, _, q_tick mc, q_mtick mm, ?_⟩
  obtain ⟨C, hC⟩ : ∃ x, x = tB (fun r => o_cs mc r 6 0 0) (tA mc) := ⟨_, rfl⟩
  obtain ⟨M, hM⟩ : ∃ x, x = tM (fun r => o_cs mm r 6 0 0) (jz_up mm 0 0 0) := ⟨_, rfl⟩
  rw [← hC, ← hM]
  have B := tB_at (cs := fun r => o_cs mc r 6 0 0) (m := tA mc)
  have N := tM_at (cs := fun r => o_cs mm r 6 0 0) (m := jz_up mm 0 0 0)
  have cl : ∀ k j, k < 14 → C k j = tA mc k j := fun k j hk => by rw [hC]; exact B.2 k j (fun l r _ _ z => by have := z.1; unfold bx at this; omega)
  have ck : ∀ k, k < 14 → k ≠ 8 → k ≠ 11 → C k = mc k := fun k h1 h2 h3 => funext fun j => by rw [cl k j h1, tA_at, if_neg (by omega), if_neg (by omega)]
  have up : ∀ k j, 1 ≤ k → jz_up mm 0 0 0 k j = mm k j := fun k j h => by rw [jz_up_k (by omega)]
  have mk : ∀ k, 1 ≤ k → k < 8 → k ≠ 6 → M k = mm k := fun k h1 h2 h3 => funext fun j => by rw [hM, N.2.1 k j h2, if_neg (by omega), up k j h1]
  have m6 : ∀ j, j < 432 → M 6 j = if mm 6 j ≤ 0 then 0 else mm 6 j - 1 := fun j hj => by rw [hM, N.2.1 6 j (by decide), if_pos ⟨rfl, hj⟩, up 6 j (by decide)]
  have c8 : ∀ l e, l < 2 → e < 216 → C (8 + 3 * l) e = dn_ (mc (8 + 3 * l) e) := fun l e hl he => by
    rw [cl _ e (by omega), tA_at]
    rcases (show l = 0 ∨ l = 1 by omega) with rfl | rfl
    · rw [if_neg (by omega), if_pos (by omega)]
    · rw [if_pos (by omega)]
  refine ⟨fun r hr => ?_, fun j hj => ?_, fun j hj => ?_, fun l e hl he => ?_, fun l r q n h1 h2 h3 h4 => ?_, fun l r n h1 h2 h3 => ?_⟩
  · rw [x_pl (mc := mc) (mm := mm) (ck 1 (by decide) (by decide) (by decide)) (ck 2 (by decide) (by decide) (by decide)) (mk 1 (by decide) (by decide) (by decide)) (mk 2 (by decide) (by decide) (by decide)) (mk 3 (by decide) (by decide) (by decide)) (mk 4 (by decide) (by decide) (by decide))]
    exact hI.1 r hr
  · rw [x_wi (mc := mc) (mm := mm) (ck 4 (by decide) (by decide) (by decide)) (ck 5 (by decide) (by decide) (by decide)) (mk 4 (by decide) (by decide) (by decide)) (mk 5 (by decide) (by decide) (by decide))]
    exact hI.2.1 j hj
  · rw [x_ct (mk 4 (by decide) (by decide) (by decide))]; exact hI.2.2.1 j hj
  · obtain ⟨e1, e2⟩ := hI.2.2.2.1 l e hl he
    obtain ⟨⟨h, hh, eh⟩, _, _⟩ := hI.2.2.2.2.1 l (e / 36) (e / 6 % 6) (e % 6) hl (by omega) (by omega) (by omega)
    rw [show ex l (e / 36) (e / 6 % 6) (e % 6) = 216 * l + e by unfold ex; omega] at eh
    refine ⟨?_, ?_⟩
    · rw [c8 l e hl he, m6 _ (by omega), e1]
      unfold dn_
      rw [eh]
      have hle : (nI h ≤ 0) = (h = 0) := n_le0 (by omega)
      by_cases hz : h = 0
      · simp only [if_pos (show nI h ≤ 0 by rw [hle]; exact hz), hz]; rfl
      · simp only [if_neg (show ¬ nI h ≤ 0 by rw [hle]; exact hz)]
    · rw [ck (9 + 3 * l) (by omega) (by omega) (by omega), mk 7 (by decide) (by decide) (by decide)]
      exact e2
  · obtain ⟨⟨h, hh, eh⟩, e2, e3⟩ := hI.2.2.2.2.1 l r q n h1 h2 h3 h4
    unfold ih_
    rw [x_on (mk 4 (by decide) (by decide) (by decide)), mk 7 (by decide) (by decide) (by decide), m6 _ (by unfold ex; omega)]
    rw [eh] at e3 ⊢
    have hle : (nI h ≤ 0) = (h = 0) := n_le0 (by omega)
    by_cases hz : h = 0
    · simp only [if_pos (show nI h ≤ 0 by rw [hle]; exact hz)]
      exact ⟨⟨0, by decide, rfl⟩, e2, fun z => absurd z (by decide)⟩
    · simp only [if_neg (show ¬ nI h ≤ 0 by rw [hle]; exact hz), nI_sub1 (show 1 ≤ h by omega)]
      exact ⟨⟨h - 1, by omega, rfl⟩, e2, fun z => e3 (by rw [nI_toInt (by omega)]; omega)⟩
  · obtain ⟨e1, e2⟩ := hI.2.2.2.2.2 l r n h1 h2 h3
    have hd := b6_s_lt (o_on mm r)
    have hcs : (fun r => o_cs mm r 6 0 0) (ix l r n / 84) = nI (b6_s (o_on mm r)) := by
      show o_cs mm (ix l r n / 84) 6 0 0 = _
      rw [show ix l r n / 84 = r by unfold ix; omega]; exact o_cs_b mm r
    have e2' : iv_ (252 * (c + 1)) mm l r n := ((I_up hI).2.2.2.2.2 l r n h1 h2 h3).2
    have tA_k : ∀ k j, 14 ≤ k → tA mc k j = mc k j := fun k j hk => by rw [tA_at, if_neg (by omega), if_neg (by omega)]
    refine tick_e (c := 252 * (c + 1)) (cs := fun r => o_cs mm r 6 0 0) (by omega) e1 e2' hd hcs (fun f f1 f2 => ?_) (fun j => ?_) (fun k k1 k2 => ?_) (fun j => ?_)
    · rw [hC, B.1 l r n h1 h2 h3 _ (by omega) (by omega)]
      show ag_C (o_cs mc r 6 0 0) _ _ _ _ _ = _
      rw [I_cs hI h2, o_cs_b]
      exact ag_C_cong (fun k' j' z => tA_k k' j' (by have := z.1; unfold bx at this; omega)) ⟨by omega, by omega, rfl⟩
    · rw [hC]
      by_cases hj : j < 42
      · rw [B.1 l r j h1 h2 hj _ (by omega) (by omega), ag_C_8 (by omega)]
        exact tA_k _ j (by unfold bx; omega)
      · rw [B.2 _ j (fun l' r' _ _ z => hj z.2.2)]
        exact tA_k _ j (by unfold bx; omega)
    · rw [hM, N.1 _ (ix_lt h1 h2 h3) k k1 k2]
      exact ag_N_cong (fun k' j' z => up k' j' (by have := z.1; omega)) ⟨k1, k2, rfl⟩
    · rw [hM, N.2.2 j, up 15 j (by decide)]
