/-! REPORT, S1: the run describe(0), place(0, 0, 2), description(0, 1, 0, 0) from a new object: the class answers 1 at its end, the reference -1 -/
set_option maxHeartbeats 4000000 in
set_option maxRecDepth 100000 in
theorem s1_ref : (f_Mo_describe 0 m0_M).map (fun q => (q.2 0 0, q.2 3 0, q.2 8 0)) = some ((0 : Int32), (0 : Int32), (1 : Int32)) := by decide +kernel
theorem s1_run : ∃ r1 q1 r2 q2 q3, f_AR_describe 0 m0_C = some r1 ∧ f_Mo_describe 0 m0_M = some q1 ∧ r1.1 = q1.1 ∧ q1.2 0 0 = 0 ∧ f_AR_place 0 0 2 r1.2 = some r2 ∧ f_Mo_place 0 0 2 q1.2 = some q2 ∧ r2.1 = q2.1 ∧ f_AR_description 0 1 0 0 r2.2 = some 1 ∧ f_Mo_description 0 1 0 0 q2.2 = some q3 ∧ q3.1 = -1 := by
  obtain ⟨q1, e1, h1⟩ := ok_describe 0 m0_C m0_M (by decide) I_start 0
  have hr := s1_ref
  rw [e1] at hr
  simp only [Option.map_some, Option.some.injEq, Prod.mk.injEq] at hr
  obtain ⟨z0, z3, z8⟩ := hr
  rcases h1 with ⟨r1, a1, _, a3, a4⟩ | ⟨_, b2, _⟩
  · obtain ⟨r2, q2, c1, c2, c3, c4⟩ := ok_place 1 r1.2 q1.2 (by decide) a4 0 0 2
    have d2 : f_Mo_place 0 0 2 q1.2 = some (1, jz_up (jz_up (jz_up q1.2 0 0 0) 1 0 0) 2 0 2) := by
      unfold f_Mo_place
      rw [show f_Mo_isOne 0 = f_Mo_isOne (nI 0) from rfl]
      simp only [pz_n, q_one_in (show 0 < 6 by decide), Option.bind_some, i10]
      rw [if_neg (by decide), if_neg (by decide), if_neg (by decide), if_neg (by decide)]
      rw [show jz_ix 6 (0 : Int32) = some 0 from pz_ix (n := 6) (k := 0) (by decide) (by decide)]
      simp only [Option.bind_some]
      rw [if_pos (by rw [jz_up_k (by decide)]; exact z3)]
    have e2 : q2 = (1, jz_up (jz_up (jz_up q1.2 0 0 0) 1 0 0) 2 0 2) := Option.some.inj (c2.symm.trans d2)
    have e8 : q2.2 8 (ix 0 0 0) = 1 := by
      rw [e2]
      show jz_up (jz_up (jz_up q1.2 0 0 0) 1 0 0) 2 0 2 8 0 = 1
      rw [jz_up_k (by decide), jz_up_k (by decide), jz_up_k (by decide)]
      exact z8
    have el : o_hl q2.2 0 0 = false := by
      rw [e2]
      unfold o_hl
      simp [pz_up]
      try decide
    have k1 := q_cdesc (l := 0) (r := 0) (n := 0) c4 (by decide) (by decide) (by decide) (by decide) 0
    have k2 := q_mdesc (l := 0) (r := 0) (n := 0) c4 (by decide) (by decide) (by decide) 0
    have t1 : tl_ q2.2 (ix 0 0 0) 0 = 1 := by
      unfold tl_
      rw [e8, if_neg (by decide), if_pos rfl]
    rw [t1] at k1
    rw [el] at k2
    exact ⟨r1, q1, r2, q2, _, a1, e1, a3, z0, c1, c2, c3, k1, k2, rfl⟩
  · rw [z0] at b2
    exact absurd b2 (by decide)
