/-! description, asked of a fresh object -/
def J1_ (c : Nat) (mc mm : jz_M) : Prop := I_ (252 * c) mc mm ∧ (c = 0 → ∀ l r n, l < 2 → r < 6 → n < 42 → mm 8 (ix l r n) = 0)
theorem up1 {c : Nat} {mc mm : jz_M} (h : I_ (252 * (c + 1)) mc mm) : J1_ (c + 1) mc mm := ⟨h, fun z => absurd z (Nat.succ_ne_zero c)⟩
theorem q_tell0 {c l r n : Nat} {mc mm : jz_M} (hI : I_ c mc mm) (hl : l < 2) (hr : r < 6) (hn : n < 42) (h0 : mm 8 (ix l r n) = 0) (a : Int32) : f_Ba_tell (bx l r) (nI n) a mc = some (-1) := by
  obtain ⟨⟨a1, _⟩, _⟩ := hI.2.2.2.2.2 l r n hl hr hn
  unfold f_Ba_tell
  rw [pz_b (q_hs hn (s := 0) (by decide) (a1.trans h0)), b1_n]
  simp
theorem ok_description1 : sp_description J1_ := by
  intro c mc mm hc hJ a1 a2 a3 a4
  have h0 : c = 0 := by omega
  subst h0
  obtain ⟨hI, hz⟩ := hJ
  unfold f_AR_description f_Mo_description
  simp only [pz_n]
  obtain ⟨m1, hm1⟩ : ∃ x, x = jz_up mm 0 0 0 := ⟨_, rfl⟩
  have hI1 : I_ (252 * 0) mc m1 := by rw [hm1]; exact I_thr 0 0 hI
  have hz1 : ∀ l r n, l < 2 → r < 6 → n < 42 → m1 8 (ix l r n) = 0 := fun l r n x1 x2 x3 => by rw [hm1, jz_up_k (by decide)]; exact hz rfl l r n x1 x2 x3
  rw [← hm1]
  simp only [q_mnm]
  rcases pz_rng (n := 6) (by decide) a1 with ⟨r, hr, rfl⟩ | ho
  · simp only [q_rt_in hr, q_one_in hr, Option.bind_some, i10]
    rcases lv_rng a2 with ⟨l, hl, rfl⟩ | ho
    · simp only [q_lv_in hl, q_has hr hl, Option.bind_some, b1_0, i10]
      rcases pz_rng (n := 42) (by decide) a3 with ⟨n, hn, rfl⟩ | ho
      · simp only [q_nm_in hn, q_bs hr hl, Option.bind_some, i10, n10, q_tell0 hI1 hl hr hn (hz1 l r n hl hr hn), q_mat, pz_ix (ix_lt hl hr hn) (show 504 < 2 ^ 31 by decide), hz1 l r n hl hr hn, if_true, ite_self]
        exact ⟨-1, (-1, m1), by trivial, by trivial, rfl, up1 (I_up hI1)⟩
      · simp only [q_nm_out ho, Option.bind_some, n00, i00]
        by_cases hh : o_hl m1 r l = true
        · simp only [if_pos hh]; exact ⟨_, _, rfl, rfl, rfl, up1 (I_up hI1)⟩
        · simp only [if_neg hh]; exact ⟨_, _, rfl, rfl, rfl, up1 (I_up hI1)⟩
    · simp only [q_lv_out ho, q_has_out ho, Option.bind_some, i00]
      exact ⟨-1, (-1, m1), by trivial, by trivial, rfl, up1 (I_up hI1)⟩
  · simp only [q_rt_out ho, q_one_out ho, Option.bind_some, i00]
    exact ⟨-1, (-1, m1), by trivial, by trivial, rfl, up1 (I_up hI1)⟩
