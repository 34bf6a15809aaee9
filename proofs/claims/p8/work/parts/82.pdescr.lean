/-! description: both answer (what they answer isn't compared here) -/
theorem nI_sub5 {j : Nat} (h : 5 ≤ j) : nI j - 5 = nI (j - 5) := by
  obtain ⟨k, rfl⟩ : ∃ k, j = k + 5 := ⟨j - 5, by omega⟩
  rw [← nI_add, Nat.add_sub_cancel]
  exact Int32.add_sub_cancel (nI k) 5
theorem q_tell {c l r n : Nat} {mc mm : jz_M} (hI : I_ c mc mm) (hc : c ≤ 200000) (hl : l < 2) (hr : r < 6) (hn : n < 42) (a : Int32) : ∃ v, f_Ba_tell (bx l r) (nI n) a mc = some v := by
  obtain ⟨⟨a1, _, _, _, _, _, a7, _, _, _⟩, ⟨⟨s, t, b1, b2, b3, b4⟩, _, _, _, _, _, ⟨k, k1, k2, _⟩, _, _⟩⟩ := hI.2.2.2.2.2 l r n hl hr hn
  unfold f_Ba_tell f_Ba_linkOf
  rw [pz_b (q_hs hn (s := s) (by omega) (a1.trans b1)), b1_n]
  simp only [pz_ix hn (show 42 < 2 ^ 31 by decide), Option.bind_some, decide_eq_true_eq]
  by_cases hs : s = 0
  · rw [if_neg (fun z => z hs)]; exact ⟨_, rfl⟩
  rw [if_pos hs]
  have e7 : mc (bx l r + 7) n = nI k := (a7 (fun z => hs ((nI_eq (a := s) (b := 0) (by omega) (by decide)).mp (b1.symm.trans (z.trans nI_0.symm))))).trans k2
  by_cases h0 : a = 0
  · rw [if_pos h0]; exact ⟨_, rfl⟩
  rw [if_neg h0]
  by_cases h1 : a = 1
  · rw [if_pos h1]; exact ⟨_, rfl⟩
  rw [if_neg h1]
  by_cases h2 : a = 2
  · rw [if_pos h2]
    by_cases hz : mc (bx l r + 5) n = 0
    · rw [if_pos hz]; exact ⟨_, rfl⟩
    · rw [if_neg hz]; exact ⟨_, rfl⟩
  rw [if_neg h2]
  by_cases h3 : a = 3
  · rw [if_pos h3]; exact ⟨_, rfl⟩
  rw [if_neg h3]
  by_cases h4 : a = 4
  · rw [if_pos h4]; exact ⟨_, rfl⟩
  rw [if_neg h4]
  by_cases h5 : a ≤ 4
  · rw [if_pos h5]; exact ⟨_, rfl⟩
  rw [if_neg h5]
  obtain ⟨j, hj, rfl⟩ := nI_of (x := a) (fun z => h5 (by rw [i32_lt] at z; rw [i32_le]; have q1 : (0 : Int32).toInt = 0 := rfl; have q2 : (4 : Int32).toInt = 4 := rfl; omega))
  have hj5 : 5 ≤ j := by
    apply Nat.le_of_not_lt; intro z
    exact h5 (nI_le (b := 4) (by omega) (by decide))
  rw [nI_sub5 hj5, e7]
  by_cases h6 : nI k ≤ nI (j - 5)
  · rw [if_pos h6]; exact ⟨_, rfl⟩
  rw [if_neg h6]
  have hlt : j - 5 < k := by
    apply Nat.lt_of_not_le; intro z
    exact h6 (nI_le z (by omega))
  rw [show nI n * 10 + nI (j - 5) = nI (10 * n + (j - 5)) by rw [show (10 : Int32) = nI 10 from rfl, nI_mul, nI_add, Nat.mul_comm], pz_ix (by omega) (by decide)]
  exact ⟨_, rfl⟩
theorem ok_description : sp_description J_ := by
  intro c mc mm hc hI a1 a2 a3 a4
  unfold f_AR_description f_Mo_description
  simp only [pz_n]
  obtain ⟨m1, hm1⟩ : ∃ x, x = jz_up mm 0 0 0 := ⟨_, rfl⟩
  rw [← hm1]
  have hI1 : I_ (252 * c) mc m1 := by rw [hm1]; exact I_thr 0 0 hI
  simp only [q_mnm]
  rcases pz_rng (n := 6) (by decide) a1 with ⟨r, hr, rfl⟩ | ho
  · simp only [q_rt_in hr, q_one_in hr, Option.bind_some, i10]
    rcases lv_rng a2 with ⟨l, hl, rfl⟩ | ho
    · simp only [q_lv_in hl, q_has hr hl, Option.bind_some, b1_0, i10]
      rcases pz_rng (n := 42) (by decide) a3 with ⟨n, hn, rfl⟩ | ho
      · simp only [q_nm_in hn, q_bs hr hl, Option.bind_some, i10, n10]
        obtain ⟨v, hv⟩ := q_tell hI1 (by omega) hl hr hn a4
        rw [hv]
        simp only [Option.bind_some]
        refine ⟨v, ?_⟩
        by_cases hh : o_hl m1 r l = true
        · simp only [if_pos hh, q_mat, pz_ix (ix_lt hl hr hn) (show 504 < 2 ^ 31 by decide), Option.bind_some]
          obtain ⟨_, ⟨_, _, _, _, _, _, ⟨k, k1, k2, _⟩, _, _⟩⟩ := hI1.2.2.2.2.2 l r n hl hr hn
          by_cases h8 : m1 8 (ix l r n) = 0
          · simp only [if_pos h8]; exact ⟨_, by trivial, rfl, I_up hI1⟩
          simp only [if_neg h8]
          by_cases hp : 0 ≤ a4
          · simp only [if_pos hp]
            by_cases h0 : a4 = 0
            · simp only [if_pos h0]; exact ⟨_, by trivial, rfl, I_up hI1⟩
            simp only [if_neg h0]
            by_cases h1 : a4 = 1
            · simp only [if_pos h1]; exact ⟨_, by trivial, rfl, I_up hI1⟩
            simp only [if_neg h1]
            by_cases h2 : a4 = 2
            · simp only [if_pos h2]
              by_cases hz : m1 12 (ix l r n) = 0
              · simp only [if_pos hz]; exact ⟨_, by trivial, rfl, I_up hI1⟩
              · simp only [if_neg hz]; exact ⟨_, by trivial, rfl, I_up hI1⟩
            simp only [if_neg h2]
            by_cases h3 : a4 = 3
            · simp only [if_pos h3]; exact ⟨_, by trivial, rfl, I_up hI1⟩
            simp only [if_neg h3]
            by_cases h4 : a4 = 4
            · simp only [if_pos h4]; exact ⟨_, by trivial, rfl, I_up hI1⟩
            simp only [if_neg h4]
            obtain ⟨j, hj, rfl⟩ := nI_of (x := a4) (fun z => by rw [i32_lt] at z; rw [i32_le] at hp; omega)
            have hj5 : 5 ≤ j := by
              apply Nat.le_of_not_lt; intro z
              rcases (show j = 0 ∨ j = 1 ∨ j = 2 ∨ j = 3 ∨ j = 4 by omega) with rfl | rfl | rfl | rfl | rfl
              · exact h0 rfl
              · exact h1 rfl
              · exact h2 rfl
              · exact h3 rfl
              · exact h4 rfl
            rw [nI_sub5 hj5, k2]
            by_cases h6 : nI k ≤ nI (j - 5)
            · rw [if_pos h6]; exact ⟨_, by trivial, rfl, I_up hI1⟩
            rw [if_neg h6]
            have hlt : j - 5 < k := by
              apply Nat.lt_of_not_le; intro z
              exact h6 (nI_le z (by omega))
            have hix := ix_lt hl hr hn
            rw [show (10 : Int32) * nI (ix l r n) + nI j - 5 = nI (10 * ix l r n + j - 5) by rw [show (10 : Int32) * nI (ix l r n) = nI (10 * ix l r n) from nI_mul 10 _, nI_add, nI_sub5 (by omega)], pz_ix (by omega) (by decide)]
            exact ⟨_, by trivial, rfl, I_up hI1⟩
          · simp only [if_neg hp]; exact ⟨_, by trivial, rfl, I_up hI1⟩
        · simp only [if_neg hh]; exact ⟨_, by trivial, rfl, I_up hI1⟩
      · simp only [q_nm_out ho, Option.bind_some, n00, i00]
        by_cases hh : o_hl m1 r l = true
        · simp only [if_pos hh]; exact ⟨_, _, rfl, rfl, I_up hI1⟩
        · simp only [if_neg hh]; exact ⟨_, _, rfl, rfl, I_up hI1⟩
    · simp only [q_lv_out ho, q_has_out ho, Option.bind_some, i00]
      exact ⟨_, _, rfl, rfl, I_up hI1⟩
  · simp only [q_rt_out ho, q_one_out ho, Option.bind_some, i00]
    exact ⟨_, _, rfl, rfl, I_up hI1⟩
