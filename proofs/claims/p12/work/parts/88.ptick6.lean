/-! tick: one description in class and reference -/
theorem nI_sub1 {f : Nat} (h : 1 ≤ f) : nI f - 1 = nI (f - 1) := by
  obtain ⟨k, rfl⟩ : ∃ k, f = k + 1 := ⟨f - 1, by omega⟩
  rw [nI_pred, Nat.add_sub_cancel]
theorem tick_e {c l r n : Nat} {mc mm mc' mm' : jz_M} (hc : c ≤ 200000) (e1 : rd_ mc mm l r n) (e2 : iv_ c mm l r n) {d : Nat} (hd : d < 64) {cs : Nat → Int32} (hcs : cs (ix l r n / 84) = nI d) (hC : ∀ f, 1 ≤ f → f ≤ 10 → mc' (bx l r + f) n = ag_C (nI d) (bx l r) n mc (bx l r + f) n) (hL : ∀ j, mc' (bx l r + 8) j = mc (bx l r + 8) j) (hM : ∀ k, 8 ≤ k → k ≤ 17 → mm' k (ix l r n) = ag_N cs (ix l r n) mm k (ix l r n)) (hN : ∀ j, mm' 15 j = mm 15 j) : rd_ mc' mm' l r n ∧ iv_ c mm' l r n := by
  unfold rd_ at e1 ⊢
  unfold iv_ at e2 ⊢
  simp only [hL, hN]
  rw [hC 1 (by decide) (by decide), hC 2 (by decide) (by decide), hC 3 (by decide) (by decide), hC 4 (by decide) (by decide), hC 5 (by decide) (by decide), hC 6 (by decide) (by decide), hC 7 (by decide) (by decide), hC 9 (by decide) (by decide), hC 10 (by decide) (by decide), hM 8 (by decide) (by decide), hM 9 (by decide) (by decide), hM 10 (by decide) (by decide), hM 11 (by decide) (by decide), hM 12 (by decide) (by decide), hM 13 (by decide) (by decide), hM 14 (by decide) (by decide), hM 16 (by decide) (by decide), hM 17 (by decide) (by decide)]
  generalize bx l r = B at *
  generalize ix l r n = i at *
  obtain ⟨a1, a2, a3, a4, a5, a6, a7, a8, a9, a10⟩ := e1
  obtain ⟨⟨s, t, b1, b2, b3, b4⟩, ⟨f, f1, f2⟩, b6, b7, b8, b9, bk, b10, b11⟩ := e2
  have z8 : (mm 8 i = 0) = (s = 0) := by rw [b1]; exact n_eq0 (by omega)
  have c1 : mc (B + 1) n = nI s := a1.trans b1
  have c3 : mc (B + 3) n = nI f := a3.trans f2
  by_cases hf : f = 0
  · by_cases hs : s = 0
    · have eC : ag_C (nI d) B n mc = mc := by unfold ag_C; rw [if_pos (by rw [c3, hf]; decide), if_pos (by rw [c1, hs]; decide)]
      have eM : ag_N cs i mm = mm := by unfold ag_N; rw [if_pos (Or.inl (by rw [b1, hs]; decide)), if_pos (by rw [b1, hs]; decide)]
      rw [eC, eM]
      exact ⟨⟨a1, a2, a3, a4, a5, a6, a7, a8, a9, a10⟩, ⟨s, t, b1, b2, b3, b4⟩, ⟨f, f1, f2⟩, b6, b7, b8, b9, bk, b10, b11⟩
    · have hs8 : mm 8 i ≠ 0 := by rw [ne_eq, z8]; exact hs
      have h10 : mm 10 i = 0 := by rw [f2, hf]; rfl
      obtain ⟨g, g1, g2⟩ := b7 hs8 h10
      have c4 : mc (B + 4) n = nI g := (a4 hs8 h10).trans g2
      by_cases hg : g = 2
      · have eC : ag_C (nI d) B n mc = jz_up (jz_up (jz_up (jz_up (jz_up mc (B + 4) n (mc (B + 4) n + 1)) (B + 1) n 0) (B + 7) n 0) (B + 9) n 0) (B + 10) n 0 := by
          unfold ag_C; rw [if_pos (by rw [c3, hf]; decide), if_neg (by rw [c1, n_le0 (by omega)]; exact hs), if_neg (by rw [c4, hg]; decide)]
        have eM : ag_N cs i mm = jz_up (jz_up (jz_up (jz_up mm 11 i (mm 11 i + 1)) 8 i 0) 16 i 0) 17 i 0 := by
          unfold ag_N; rw [if_pos (Or.inr (by rw [h10]; decide)), if_neg (by rw [b1, n_le0 (by omega)]; exact hs), if_pos (by rw [g2, hg]; decide)]
        rw [eC, eM]
        simp only [pz_up, Nat.add_left_cancel_iff]
        simp
        exact ⟨⟨a2, a3, a5, a6, a8⟩, ⟨0, rfl, t, b2, Nat.zero_le t, b4⟩, ⟨f, f1, f2⟩, h10, b8, b9, bk, ⟨0, by decide, rfl⟩⟩
      · have eC : ag_C (nI d) B n mc = jz_up mc (B + 4) n (nI (g + 1)) := by
          unfold ag_C; rw [if_pos (by rw [c3, hf]; decide), if_neg (by rw [c1, n_le0 (by omega)]; exact hs), if_pos (by rw [c4, nI_1]; exact nI_lt (b := 3) (by omega) (by decide)), c4, nI_1]
        have eM : ag_N cs i mm = jz_up mm 11 i (nI (g + 1)) := by
          unfold ag_N; rw [if_pos (Or.inr (by rw [h10]; decide)), if_neg (by rw [b1, n_le0 (by omega)]; exact hs), if_neg (by rw [g2, nI_1]; intro z; have := (nI_eq (a := g + 1) (b := 3) (by omega) (by decide)).mp z; omega), g2, nI_1]
        rw [eC, eM]
        simp only [pz_up, Nat.add_left_cancel_iff]
        simp
        exact ⟨⟨a1, a2, a3, a5, a6, a7, a8, a9, a10⟩, ⟨s, b1, t, b2, b3, b4⟩, ⟨f, f1, f2⟩, b6, fun _ _ => ⟨g + 1, by omega, rfl⟩, b8, b9, bk, b10, b11⟩
  · have hs : s ≠ 0 := fun z => hf (by have := (b6 (by rw [z8]; exact z)).1; rw [f2, n_eq0 (by omega)] at this; exact this)
    have hs8 : mm 8 i ≠ 0 := by rw [ne_eq, z8]; exact hs
    have n1 : ¬ (mm 8 i ≤ 0 ∨ mm 10 i ≤ 0) := by rw [b1, f2, n_le0 (by omega), n_le0 (by omega)]; omega
    by_cases hf1 : f = 1
    · have eC : ag_C (nI d) B n mc = jz_up (jz_up (jz_up mc (B + 3) n 0) (B + 4) n 0) (B + 9) n (nI d) := by
        unfold ag_C; rw [if_neg (by rw [c3, n_le0 (by omega)]; exact hf), if_pos (by rw [c3, hf1]; decide)]
      have eM : ag_N cs i mm = jz_up (jz_up (jz_up mm 10 i 0) 11 i 0) 16 i (nI d) := by
        unfold ag_N; rw [if_neg n1, if_pos (by rw [f2, hf1]; decide), hcs]
      rw [eC, eM]
      simp only [pz_up, Nat.add_left_cancel_iff]
      simp
      exact ⟨⟨a1, a2, a5, a6, a7, a8, a10⟩, ⟨s, b1, t, b2, b3, b4⟩, ⟨0, by decide, rfl⟩, fun z => absurd z hs8, fun _ => ⟨0, by decide, rfl⟩, b8, b9, bk, ⟨d, hd, rfl⟩, b11⟩
    · have eC : ag_C (nI d) B n mc = jz_up mc (B + 3) n (nI (f - 1)) := by
        unfold ag_C; rw [if_neg (by rw [c3, n_le0 (by omega)]; exact hf), c3, nI_sub1 (by omega), if_neg (by rw [n_le0 (by omega)]; omega)]
      have eM : ag_N cs i mm = jz_up mm 10 i (nI (f - 1)) := by
        unfold ag_N; rw [if_neg n1, f2, nI_sub1 (by omega), if_neg (by rw [n_eq0 (by omega)]; omega)]
      rw [eC, eM]
      have hz : ¬ nI (f - 1) = 0 := by rw [n_eq0 (by omega)]; omega
      simp only [pz_up, Nat.add_left_cancel_iff]
      simp [hz, hs8]
      exact ⟨⟨a1, a2, a5, a6, a7 hs8, a8, a9, a10⟩, ⟨s, b1, t, b2, b3, b4⟩, ⟨f - 1, by omega, rfl⟩, b8, b9, bk, b10, b11⟩
