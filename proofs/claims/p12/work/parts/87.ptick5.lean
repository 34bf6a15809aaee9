/-! tick: class and reference -/
theorem hM_at (m : jz_M) (k j : Nat) : pz_fo he_M 432 0 m k j = if k = 6 ∧ j < 432 then (if m 6 j ≤ 0 then 0 else m 6 j - 1) else m k j := he_pt (k0 := 6) (fun x : Int32 => if x ≤ 0 then 0 else x - 1) he_M_at 432 m k j
def tM (cs : Nat → Int32) (m : jz_M) : jz_M := pz_fo (ag_N cs) 504 0 (pz_fo he_M 432 0 m)
theorem q_mtick (m : jz_M) : f_Mo_tick m = some (tM (fun r => o_cs m r 6 0 0) (jz_up m 0 0 0)) := by
  unfold f_Mo_tick
  rw [pz_n]
  refine (he_M_loop 432 0 1000000 (jz_up m 0 0 0) (by decide) (by decide)).trans ?_
  refine (ag_M_loop 504 0 1000000 _ (by decide) (by decide)).trans ?_
  rw [ag_MN_fo (m0 := m) 504 0 _ (funext fun j => by rw [hM_at, if_neg (by omega), jz_up_k (by decide)])]
  rw [tM]
theorem ag_C_8 {cs : Int32} {B n : Nat} {m : jz_M} {f j : Nat} (hf : f = 2 ∨ f = 5 ∨ f = 6 ∨ f = 8) : ag_C cs B n m (B + f) j = m (B + f) j := by
  have hk : ∀ g v (m : jz_M), g ≠ f → jz_up m (B + g) n v (B + f) j = m (B + f) j := fun g v m h => by rw [jz_up_k (by omega)]
  unfold ag_C
  by_cases h1 : m (B + 3) n ≤ 0
  · simp only [if_pos h1]
    by_cases h2 : m (B + 1) n ≤ 0
    · simp only [if_pos h2]
    · simp only [if_neg h2]
      by_cases h3 : m (B + 4) n + 1 < 3
      · simp only [if_pos h3]; rw [hk 4 _ _ (by omega)]
      · simp only [if_neg h3]; rw [hk 10 _ _ (by omega), hk 9 _ _ (by omega), hk 7 _ _ (by omega), hk 1 _ _ (by omega), hk 4 _ _ (by omega)]
  · simp only [if_neg h1]
    by_cases h2 : m (B + 3) n - 1 ≤ 0
    · simp only [if_pos h2]; rw [hk 9 _ _ (by omega), hk 4 _ _ (by omega), hk 3 _ _ (by omega)]
    · simp only [if_neg h2]; rw [hk 3 _ _ (by omega)]
theorem ag_N_8 {cs : Nat → Int32} {i : Nat} {m : jz_M} {f j : Nat} (hf : f = 9 ∨ f = 12 ∨ f = 13 ∨ f = 14 ∨ f = 15) : ag_N cs i m f j = m f j := by
  have hk : ∀ g v (m : jz_M), g ≠ f → jz_up m g i v f j = m f j := fun g v m h => by rw [jz_up_k (by omega)]
  unfold ag_N
  by_cases h1 : m 8 i ≤ 0 ∨ m 10 i ≤ 0
  · simp only [if_pos h1]
    by_cases h2 : m 8 i ≤ 0
    · simp only [if_pos h2]
    · simp only [if_neg h2]
      by_cases h3 : m 11 i + 1 = 3
      · simp only [if_pos h3]; rw [hk 17 _ _ (by omega), hk 16 _ _ (by omega), hk 8 _ _ (by omega), hk 11 _ _ (by omega)]
      · simp only [if_neg h3]; rw [hk 11 _ _ (by omega)]
  · simp only [if_neg h1]
    by_cases h2 : m 10 i - 1 = 0
    · simp only [if_pos h2]; rw [hk 16 _ _ (by omega), hk 11 _ _ (by omega), hk 10 _ _ (by omega)]
    · simp only [if_neg h2]; rw [hk 10 _ _ (by omega)]
theorem tM_at {cs : Nat → Int32} {m : jz_M} : (∀ i, i < 504 → ∀ k, 8 ≤ k → k ≤ 17 → tM cs m k i = ag_N cs i m k i) ∧ (∀ k j, k < 8 → tM cs m k j = if k = 6 ∧ j < 432 then (if m 6 j ≤ 0 then 0 else m 6 j - 1) else m k j) ∧ (∀ j, tM cs m 15 j = m 15 j) := by
  obtain ⟨a, b, c⟩ := tk_M (cs := cs) (m := pz_fo he_M 432 0 m)
  have hh : ∀ k j, 8 ≤ k → pz_fo he_M 432 0 m k j = m k j := fun k j hk => by rw [hM_at, if_neg (by omega)]
  refine ⟨fun i hi k h1 h2 => ?_, fun k j hk => ?_, fun j => ?_⟩
  · unfold tM
    rw [a i hi k h1 h2]
    exact ag_N_cong (fun k' j' z => hh k' j' z.1) ⟨h1, h2, rfl⟩
  · unfold tM
    rw [b k j hk, hM_at]
  · unfold tM
    by_cases hj : j < 504
    · rw [a j hj 15 (by decide) (by decide), ag_N_8 (by omega), hh 15 j (by decide)]
    · rw [c 15 j (by omega), hh 15 j (by decide)]
