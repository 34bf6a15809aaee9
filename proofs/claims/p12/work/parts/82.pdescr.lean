/-! description: where class and reference answer alike, and where they don't (REPORT, S1) -/
theorem nI_sub5 {j : Nat} (h : 5 ≤ j) : nI j - 5 = nI (j - 5) := by
  obtain ⟨k, rfl⟩ : ∃ k, j = k + 5 := ⟨j - 5, by omega⟩
  rw [← nI_add, Nat.add_sub_cancel]
  exact Int32.add_sub_cancel (nI k) 5
/-- what a base tells of a name, in the reference's memory: place i -/
def tl_ (m : jz_M) (i : Nat) (a : Int32) : Int32 := if m 8 i = 0 then -1 else if a = 0 then m 8 i else if a = 1 then m 10 i else if a = 2 then (if m 12 i = 0 then 0 else 1) else if a = 3 then m 13 i else if a = 4 then m 14 i else if a ≤ 4 then -1 else if m 14 i ≤ a - 5 then -1 else m 15 (10 * i + (a.toNatClampNeg - 5))
theorem tl_up {m : jz_M} {i k : Nat} {v a : Int32} {j : Nat} (hk : k < 8) : tl_ (jz_up m k j v) i a = tl_ m i a := by
  unfold tl_
  rw [jz_up_k (q := 8) (by omega), jz_up_k (q := 10) (by omega), jz_up_k (q := 12) (by omega), jz_up_k (q := 13) (by omega), jz_up_k (q := 14) (by omega), jz_up_k (q := 15) (by omega)]
theorem tl_j {a : Int32} (h5 : ¬ a ≤ 4) : ∃ j : Nat, 5 ≤ j ∧ j < 2 ^ 31 ∧ a = nI j := by
  obtain ⟨j, hj, rfl⟩ := nI_of (x := a) (fun z => h5 (by rw [i32_lt] at z; rw [i32_le]; have q1 : (0 : Int32).toInt = 0 := rfl; have q2 : (4 : Int32).toInt = 4 := rfl; omega))
  refine ⟨j, ?_, hj, rfl⟩
  apply Nat.le_of_not_lt; intro z
  exact h5 (nI_le (b := 4) (by omega) (by decide))
/-- the class's base tells it -/
theorem q_tellv {c l r n : Nat} {mc mm : jz_M} (hI : I_ c mc mm) (hc : c ≤ 200000) (hl : l < 2) (hr : r < 6) (hn : n < 42) (a : Int32) : f_Ba_tell (bx l r) (nI n) a mc = some (tl_ mm (ix l r n) a) := by
  obtain ⟨⟨a1, _, a3, _, a5, a6, a7, a8, _, _⟩, ⟨⟨s, t, b1, b2, b3, b4⟩, _, _, _, _, _, ⟨k, k1, k2, _⟩, _, _⟩⟩ := hI.2.2.2.2.2 l r n hl hr hn
  unfold f_Ba_tell f_Ba_linkOf tl_
  rw [pz_b (q_hs hn (s := s) (by omega) (a1.trans b1)), b1_n]
  simp only [pz_ix hn (show 42 < 2 ^ 31 by decide), Option.bind_some, decide_eq_true_eq]
  by_cases hs : s = 0
  · rw [if_neg (fun z => z hs), if_pos (by rw [b1, hs]; rfl)]
  have h8 : ¬ mm 8 (ix l r n) = 0 := fun z => hs ((nI_eq (a := s) (b := 0) (by omega) (by decide)).mp (b1.symm.trans (z.trans nI_0.symm)))
  rw [if_pos hs, if_neg h8]
  simp only [a1, a3, a5, a6, a7 h8]
  by_cases h0 : a = 0
  · rw [if_pos h0, if_pos h0]
  rw [if_neg h0, if_neg h0]
  by_cases h1 : a = 1
  · rw [if_pos h1, if_pos h1]
  rw [if_neg h1, if_neg h1]
  by_cases h2 : a = 2
  · rw [if_pos h2, if_pos h2]
    by_cases hz : mm 12 (ix l r n) = 0
    · rw [if_pos hz, if_pos hz]
    · rw [if_neg hz, if_neg hz]
  rw [if_neg h2, if_neg h2]
  by_cases h3 : a = 3
  · rw [if_pos h3, if_pos h3]
  rw [if_neg h3, if_neg h3]
  by_cases h4 : a = 4
  · rw [if_pos h4, if_pos h4]
  rw [if_neg h4, if_neg h4]
  by_cases h5 : a ≤ 4
  · rw [if_pos h5, if_pos h5]
  rw [if_neg h5, if_neg h5]
  obtain ⟨j, hj5, hj, rfl⟩ := tl_j h5
  rw [nI_sub5 hj5, k2]
  by_cases h6 : nI k ≤ nI (j - 5)
  · rw [if_pos h6, if_pos h6]
  rw [if_neg h6, if_neg h6]
  have hlt : j - 5 < k := by
    apply Nat.lt_of_not_le; intro z
    exact h6 (nI_le z (by omega))
  rw [show nI n * 10 + nI (j - 5) = nI (10 * n + (j - 5)) by rw [show (10 : Int32) = nI 10 from rfl, nI_mul, nI_add, Nat.mul_comm], pz_ix (by omega) (by decide), nI_clamp hj]
  simp only [Option.bind_some]
  rw [a8 (j - 5) (by omega)]
/-- the class's answer -/
theorem q_cdesc {c l r n : Nat} {mc mm : jz_M} (hI : I_ c mc mm) (hc : c ≤ 200000) (hl : l < 2) (hr : r < 6) (hn : n < 42) (a : Int32) : f_AR_description (nI r) (nI (l + 1)) (nI n) a mc = some (tl_ mm (ix l r n) a) := by
  unfold f_AR_description
  simp only [q_rt_in hr, q_lv_in hl, q_nm_in hn, q_bs hr hl, Option.bind_some, i10, n10, q_tellv hI hc hl hr hn a]
/-- the reference's -/
theorem q_mdesc {c l r n : Nat} {mc mm : jz_M} (hI : I_ c mc mm) (hl : l < 2) (hr : r < 6) (hn : n < 42) (a : Int32) : f_Mo_description (nI r) (nI (l + 1)) (nI n) a mm = some (if o_hl mm r l = true then tl_ mm (ix l r n) a else -1, jz_up mm 0 0 0) := by
  unfold f_Mo_description
  simp only [pz_n]
  have hh1 : o_hl (jz_up mm 0 0 0) r l = o_hl mm r l := by unfold o_hl; rw [jz_up_k (by decide)]
  have ht1 : tl_ (jz_up mm 0 0 0) (ix l r n) a = tl_ mm (ix l r n) a := tl_up (by decide)
  obtain ⟨m1, hm1⟩ : ∃ x, x = jz_up mm 0 0 0 := ⟨_, rfl⟩
  have hI1 : I_ c mc m1 := by rw [hm1]; exact I_thr 0 0 hI
  rw [← hh1, ← ht1, ← hm1]
  simp only [q_mnm, q_one_in hr, q_has hr hl, q_nm_in hn, Option.bind_some, b1_0, i10]
  by_cases hh : o_hl m1 r l = true
  · simp only [if_pos hh, q_mat, pz_ix (ix_lt hl hr hn) (show 504 < 2 ^ 31 by decide), Option.bind_some]
    obtain ⟨_, ⟨_, _, _, _, _, _, ⟨k, k1, k2, _⟩, _, _⟩⟩ := hI1.2.2.2.2.2 l r n hl hr hn
    unfold tl_
    by_cases h8 : m1 8 (ix l r n) = 0
    · simp only [if_pos h8]
    simp only [if_neg h8]
    by_cases hp : 0 ≤ a
    · simp only [if_pos hp]
      by_cases h0 : a = 0
      · simp only [if_pos h0]
      simp only [if_neg h0]
      by_cases h1 : a = 1
      · simp only [if_pos h1]
      simp only [if_neg h1]
      by_cases h2 : a = 2
      · simp only [if_pos h2]
        by_cases hz : m1 12 (ix l r n) = 0
        · simp only [if_pos hz]
        · simp only [if_neg hz]
      simp only [if_neg h2]
      by_cases h3 : a = 3
      · simp only [if_pos h3]
      simp only [if_neg h3]
      by_cases h4 : a = 4
      · simp only [if_pos h4]
      simp only [if_neg h4]
      have h5 : ¬ a ≤ 4 := by
        intro z
        obtain ⟨j, hj, rfl⟩ := nI_of (x := a) (fun y => by rw [i32_lt] at y; rw [i32_le] at hp; omega)
        have hj4 : j ≤ 4 := by
          rw [i32_le, nI_toInt hj] at z
          have q2 : (4 : Int32).toInt = 4 := rfl
          omega
        rcases (show j = 0 ∨ j = 1 ∨ j = 2 ∨ j = 3 ∨ j = 4 by omega) with rfl | rfl | rfl | rfl | rfl
        · exact h0 rfl
        · exact h1 rfl
        · exact h2 rfl
        · exact h3 rfl
        · exact h4 rfl
      simp only [if_neg h5]
      obtain ⟨j, hj5, hj, rfl⟩ := tl_j h5
      rw [nI_sub5 hj5, k2]
      by_cases h6 : nI k ≤ nI (j - 5)
      · rw [if_pos h6, if_pos h6]
      rw [if_neg h6, if_neg h6]
      have hlt : j - 5 < k := by
        apply Nat.lt_of_not_le; intro z
        exact h6 (nI_le z (by omega))
      have hix := ix_lt hl hr hn
      rw [show (10 : Int32) * nI (ix l r n) + nI j - 5 = nI (10 * ix l r n + (j - 5)) by rw [show (10 : Int32) * nI (ix l r n) = nI (10 * ix l r n) from nI_mul 10 _, nI_add, nI_sub5 (by omega), show 10 * ix l r n + j - 5 = 10 * ix l r n + (j - 5) by omega], pz_ix (by omega) (by decide), nI_clamp hj]
      rfl
    · have hneg : a ≤ 4 := by
        rw [i32_le] at hp ⊢
        have q1 : (0 : Int32).toInt = 0 := rfl
        have q2 : (4 : Int32).toInt = 4 := rfl
        omega
      have hq : ∀ k : Nat, k < 5 → ¬ a = nI k := fun k hk z => by
        rw [i32_le, z, nI_toInt (by omega)] at hp
        have q1 : (0 : Int32).toInt = 0 := rfl
        omega
      simp only [if_neg hp, if_neg (show ¬ a = 0 from hq 0 (by decide)), if_neg (show ¬ a = 1 from hq 1 (by decide)), if_neg (show ¬ a = 2 from hq 2 (by decide)), if_neg (show ¬ a = 3 from hq 3 (by decide)), if_neg (show ¬ a = 4 from hq 4 (by decide)), if_pos hneg]
  · simp only [if_neg hh]
/-- EVERY CALL OF description: class and reference answer alike, or the router r hasn't the level l (any more), its base of that level holds a description of that name, and the reference alone says -1 -/
theorem only_description {c : Nat} {mc mm : jz_M} (hc : c < 512) (hI : I_ (252 * c) mc mm) (a1 a2 a3 a4 : Int32) : ∃ v q, f_AR_description a1 a2 a3 a4 mc = some v ∧ f_Mo_description a1 a2 a3 a4 mm = some q ∧ I_ (252 * (c + 1)) mc q.2 ∧ (v = q.1 ∨ ∃ l r n : Nat, l < 2 ∧ r < 6 ∧ n < 42 ∧ a1 = nI r ∧ a2 = nI (l + 1) ∧ a3 = nI n ∧ o_hl mm r l = false ∧ mm 8 (ix l r n) ≠ 0 ∧ v = tl_ mm (ix l r n) a4 ∧ q.1 = -1) := by
  rcases pz_rng (n := 6) (by decide) a1 with ⟨r, hr, rfl⟩ | ho1
  · rcases lv_rng a2 with ⟨l, hl, rfl⟩ | ho2
    · rcases pz_rng (n := 42) (by decide) a3 with ⟨n, hn, rfl⟩ | ho3
      · refine ⟨_, _, q_cdesc hI (by omega) hl hr hn a4, q_mdesc hI hl hr hn a4, I_up (I_thr 0 0 hI), ?_⟩
        by_cases hh : o_hl mm r l = true
        · exact Or.inl (by rw [if_pos hh])
        · by_cases h8 : mm 8 (ix l r n) = 0
          · refine Or.inl ?_
            rw [if_neg hh]
            unfold tl_
            rw [if_pos h8]
          · exact Or.inr ⟨l, r, n, hl, hr, hn, rfl, rfl, rfl, Bool.eq_false_iff.mpr hh, h8, rfl, by rw [if_neg hh]⟩
      · refine ⟨-1, (-1, jz_up mm 0 0 0), ?_, ?_, I_up (I_thr 0 0 hI), Or.inl rfl⟩
        · unfold f_AR_description
          simp only [q_rt_in hr, q_lv_in hl, q_nm_out ho3, Option.bind_some, i10, n00, not_true_eq_false, if_false]
        · unfold f_Mo_description
          simp only [pz_n, q_mnm, q_one_in hr, q_has hr hl, q_nm_out ho3, Option.bind_some, b1_0, i10, i00, if_true, ite_self]
    · refine ⟨-1, (-1, jz_up mm 0 0 0), ?_, ?_, I_up (I_thr 0 0 hI), Or.inl rfl⟩
      · unfold f_AR_description
        simp only [q_rt_in hr, q_lv_out ho2, Option.bind_some, i10, i00, if_true]
      · unfold f_Mo_description
        simp only [pz_n, q_one_in hr, q_has_out ho2, Option.bind_some, i10, i00, if_true]
  · refine ⟨-1, (-1, jz_up mm 0 0 0), ?_, ?_, I_up (I_thr 0 0 hI), Or.inl rfl⟩
    · unfold f_AR_description
      simp only [q_rt_out ho1, Option.bind_some, i00, if_true]
    · unfold f_Mo_description
      simp only [pz_n, q_one_out ho1, Option.bind_some, i00, if_true]
