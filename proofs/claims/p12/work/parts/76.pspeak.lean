/-! the speaker; description -/
/-- the reference's choice, from n on, g of them -/
def o_sp (m : jz_M) (l r c g i b : Nat) : Nat := pz_fo (fun n b => if o_ne m l r c n = true then (if m 5 (6 * b + c) < m 5 (6 * n + c) then n else if m 5 (6 * n + c) = m 5 (6 * b + c) ∧ b < n then n else b) else b) g i b
theorem pz_nle {a b : Nat} (ha : a < 2 ^ 31) (hb : b < 2 ^ 31) {α : Type} {x y : α} : (if nI a ≤ nI b then x else y) = if b < a then y else x := by
  by_cases h : b < a
  · rw [if_neg (nI_ge h ha), if_pos h]
  · rw [if_pos (nI_le (by omega) hb), if_neg h]
theorem q_msp6 {l r c : Nat} (hl : l < 2) (hr : r < 6) (hc : c < 6) (m : jz_M) : ∀ (g i fu b : Nat), i + g = 6 → b < 6 → g < fu → f_Mo_speakerOf_6 m fu (nI r) (nI c) (nI (l + 1)) (nI b) (nI i) = some (nI (o_sp m l r c g i b)) ∧ o_sp m l r c g i b < 6 := by
  intro g
  induction g with
  | zero =>
    intro i fu b h1 hb h2
    obtain ⟨fu, rfl⟩ : ∃ k, fu = k + 1 := ⟨fu - 1, by omega⟩
    rw [f_Mo_speakerOf_6, if_pos (py6 (by omega) (by omega))]; exact ⟨rfl, hb⟩
  | succ g ih =>
    intro i fu b h1 hb h2
    obtain ⟨fu, rfl⟩ : ∃ k, fu = k + 1 := ⟨fu - 1, by omega⟩
    rw [f_Mo_speakerOf_6, if_neg (pn6 (by omega)), pz_b (q_ne hl hr hc (by omega) m), b1_0]
    simp only [pz_n, nI_1, f_Mo_speakerOf_74, pz_ix6m (show i < 6 by omega) hc, pz_ix6m hb hc, Option.bind_some]
    unfold o_sp
    rw [pz_fo]
    show _ = some (nI (o_sp m l r c g (i + 1) _)) ∧ o_sp m l r c g (i + 1) _ < 6
    by_cases h : o_ne m l r c i = true
    · simp only [if_pos h]
      by_cases h3 : m 5 (6 * b + c) < m 5 (6 * i + c)
      · simp only [if_pos h3]; exact ih (i + 1) fu i (by omega) (by omega) (by omega)
      simp only [if_neg h3]
      by_cases h4 : m 5 (6 * i + c) = m 5 (6 * b + c)
      · simp only [if_neg (fun q => q h4 : ¬ ¬ m 5 (6 * i + c) = m 5 (6 * b + c)), h4, true_and]
        rw [pz_nle (by omega) (by omega)]
        by_cases h5 : b < i
        · simp only [if_pos h5]; exact ih (i + 1) fu i (by omega) (by omega) (by omega)
        · simp only [if_neg h5]; exact ih (i + 1) fu b (by omega) hb (by omega)
      · simp only [if_pos h4, if_neg (fun q => h4 q.1 : ¬ (m 5 (6 * i + c) = m 5 (6 * b + c) ∧ b < i))]
        exact ih (i + 1) fu b (by omega) hb (by omega)
    · simp only [if_neg h]
      exact ih (i + 1) fu b (by omega) hb (by omega)
theorem q_msp {l r c : Nat} (hl : l < 2) (hr : r < 6) (hc : c < 6) (m : jz_M) : f_Mo_speakerOf (nI r) (nI c) (nI (l + 1)) m = some (nI (o_sp m l r c 6 0 r)) ∧ o_sp m l r c 6 0 r < 6 := q_msp6 hl hr hc m 6 0 1000000 r (by decide) hr (by decide)
theorem q_sp6 {k l r c : Nat} {mc mm : jz_M} (hI : I_ k mc mm) (hl : l < 2) (hr : r < 6) (hc : c < 6) : ∀ (g i fu b : Nat), i + g = 6 → b < 6 → g < fu → f_AR_speakerSeenBy_6 mc fu (nI r) (nI c) (nI (l + 1)) (nI b) (nI i) = some (nI (o_sp mm l r c g i b)) := by
  intro g
  induction g with
  | zero =>
    intro i fu b h1 hb h2
    obtain ⟨fu, rfl⟩ : ∃ k, fu = k + 1 := ⟨fu - 1, by omega⟩
    rw [f_AR_speakerSeenBy_6, if_pos (py6 (by omega) (by omega))]; rfl
  | succ g ih =>
    intro i fu b h1 hb h2
    obtain ⟨fu, rfl⟩ : ∃ k, fu = k + 1 := ⟨fu - 1, by omega⟩
    rw [f_AR_speakerSeenBy_6, if_neg (pn6 (by omega)), pz_b (q_hg hl mc), pz_b (q_mu hr hc (by omega) mc), b1_0, I_mu hI hl hr hc (by omega)]
    unfold f_Wi_priorityOf
    simp only [pz_n, nI_1, pz_ix6 (show i < 6 by omega) hc, pz_ix6 hb hc, Option.bind_some, (hI.2.1 (6 * i + c) (by omega)).2.1, (hI.2.1 (6 * b + c) (by omega)).2.1]
    unfold o_sp
    rw [pz_fo]
    show _ = some (nI (o_sp mm l r c g (i + 1) _))
    obtain ⟨x, hx, ex⟩ := (hI.2.1 (6 * i + c) (by omega)).2.2.2
    obtain ⟨y, hy, ey⟩ := (hI.2.1 (6 * b + c) (by omega)).2.2.2
    have hsub : (nI x - nI y).toInt = (x : Int) - y := pk_sub_toInt (by omega) (by omega)
    have hz : (0 : Int32).toInt = 0 := rfl
    rw [ex, ey]
    by_cases h : o_ne mm l r c i = true
    · simp only [if_pos h]
      by_cases h3 : nI y < nI x
      · have h3' : y < x := (nI_ltI (by omega) (by omega)).mp h3
        simp only [if_pos h3, if_pos (show (0 : Int32) < nI x - nI y by rw [i32_lt, hsub, hz]; omega)]
        exact ih (i + 1) fu i (by omega) (by omega) (by omega)
      have h3' : ¬ y < x := fun q => h3 ((nI_ltI (by omega) (by omega)).mpr q)
      simp only [if_neg h3, if_neg (show ¬ (0 : Int32) < nI x - nI y by rw [i32_lt, hsub, hz]; omega)]
      by_cases h4 : nI x = nI y
      · have h4' : x = y := (nI_eq (by omega) (by omega)).mp h4
        subst h4'
        have e0 : nI x - nI x = 0 := Int32.toInt_inj.mp (by rw [hsub, hz]; omega)
        simp only [e0, if_neg (show ¬ ¬ (0 : Int32) = 0 by decide), true_and]
        rw [pz_nle (by omega) (by omega)]
        by_cases h5 : b < i
        · simp only [if_pos h5]; exact ih (i + 1) fu i (by omega) (by omega) (by omega)
        · simp only [if_neg h5]; exact ih (i + 1) fu b (by omega) hb (by omega)
      · have h4' : ¬ x = y := fun q => h4 (by rw [q])
        have e0 : ¬ nI x - nI y = 0 := fun q => by have := congrArg Int32.toInt q; rw [hsub, hz] at this; omega
        simp only [if_pos e0, if_neg (fun q => h4 q.1 : ¬ (nI x = nI y ∧ b < i))]
        exact ih (i + 1) fu b (by omega) hb (by omega)
    · simp only [if_neg h]
      exact ih (i + 1) fu b (by omega) hb (by omega)
theorem q_sp {k l r c : Nat} {mc mm : jz_M} (hI : I_ k mc mm) (hl : l < 2) (hr : r < 6) (hc : c < 6) : f_AR_speakerSeenBy (nI r) (nI c) (nI (l + 1)) mc = some (nI (o_sp mm l r c 6 0 r)) := q_sp6 hI hl hr hc 6 0 1000 r (by decide) hr (by decide)
theorem ok_speaker : sp_speaker J_ := by
  intro c mc mm hc hI a1 a2 a3
  unfold f_AR_speaker f_Mo_speaker
  simp only [pz_n]
  obtain ⟨m1, hm1⟩ : ∃ x, x = jz_up mm 0 0 0 := ⟨_, rfl⟩
  rw [← hm1]
  have hI1 : I_ (252 * c) mc m1 := by rw [hm1]; exact I_thr 0 0 hI
  rcases pz_rng (n := 6) (by decide) a1 with ⟨r, hr, rfl⟩ | ho
  · simp only [q_rt_in hr, q_one_in hr, Option.bind_some, i10]
    rcases pz_rng (n := 6) (by decide) a2 with ⟨q, hq, rfl⟩ | ho
    · simp only [q_ct_in hq, q_one_in hq, Option.bind_some, i10]
      rcases lv_rng a3 with ⟨l, hl, rfl⟩ | ho
      · simp only [q_hl hr hl, q_has hr hl, q_at hr hq, q_on hr hq, Option.bind_some, b1_0, b1_n, I_hl hI1 hr l, I_on hI1 hr hq]
        by_cases hh : o_hl m1 r l = true
        · simp only [if_pos hh]
          by_cases hon : o_on m1 r q = true
          · simp only [if_pos hon, q_sp hI1 hl hr hq, (q_msp hl hr hq m1).1, Option.bind_some]
            exact ⟨_, _, rfl, rfl, rfl, I_up hI1⟩
          · simp only [if_neg hon]
            exact ⟨_, _, rfl, rfl, rfl, I_up hI1⟩
        · simp only [if_neg hh]
          exact ⟨_, _, rfl, rfl, rfl, I_up hI1⟩
      · simp only [q_hl_out ho, q_has_out ho, Option.bind_some, i00]
        exact ⟨_, _, rfl, rfl, rfl, I_up hI1⟩
    · simp only [q_ct_out ho, q_one_out ho, Option.bind_some, i00]
      exact ⟨_, _, rfl, rfl, rfl, I_up hI1⟩
  · simp only [q_rt_out ho, q_one_out ho, Option.bind_some, i00]
    exact ⟨_, _, rfl, rfl, rfl, I_up hI1⟩
