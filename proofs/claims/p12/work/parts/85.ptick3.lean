/-! tick: the descriptions, place by place -/
def rg_C (B n k j : Nat) : Prop := B + 1 ≤ k ∧ k ≤ B + 10 ∧ j = n
def rg_M (i k j : Nat) : Prop := 8 ≤ k ∧ k ≤ 17 ∧ j = i
theorem ag_C_loc {cs : Int32} {B n : Nat} {m : jz_M} {k j : Nat} (h : ¬ rg_C B n k j) : ag_C cs B n m k j = m k j := by
  have hf : ∀ f, 1 ≤ f → f ≤ 10 → ¬ (k = B + f ∧ j = n) := fun f h1 h2 z => h ⟨by omega, by omega, z.2⟩
  unfold ag_C
  by_cases h1 : m (B + 3) n ≤ 0
  · rw [if_pos h1]
    by_cases h2 : m (B + 1) n ≤ 0
    · rw [if_pos h2]
    · rw [if_neg h2]
      by_cases h3 : m (B + 4) n + 1 < 3
      · rw [if_pos h3, pz_up, if_neg (hf 4 (by decide) (by decide))]
      · rw [if_neg h3, pz_up, if_neg (hf 10 (by decide) (by decide)), pz_up, if_neg (hf 9 (by decide) (by decide)), pz_up, if_neg (hf 7 (by decide) (by decide)), pz_up, if_neg (hf 1 (by decide) (by decide)), pz_up, if_neg (hf 4 (by decide) (by decide))]
  · rw [if_neg h1]
    by_cases h2 : m (B + 3) n - 1 ≤ 0
    · rw [if_pos h2, pz_up, if_neg (hf 9 (by decide) (by decide)), pz_up, if_neg (hf 4 (by decide) (by decide)), pz_up, if_neg (hf 3 (by decide) (by decide))]
    · rw [if_neg h2, pz_up, if_neg (hf 3 (by decide) (by decide))]
theorem ag_C_cong {cs : Int32} {B n : Nat} {m m' : jz_M} (h : ∀ k j, rg_C B n k j → m k j = m' k j) {k j : Nat} (hr : rg_C B n k j) : ag_C cs B n m k j = ag_C cs B n m' k j := by
  have e1 := h (B + 1) n ⟨by omega, by omega, rfl⟩
  have e3 := h (B + 3) n ⟨by omega, by omega, rfl⟩
  have e4 := h (B + 4) n ⟨by omega, by omega, rfl⟩
  have e := h k j hr
  unfold ag_C
  rw [e1, e3, e4]
  by_cases h1 : m' (B + 3) n ≤ 0
  · simp only [if_pos h1]
    by_cases h2 : m' (B + 1) n ≤ 0
    · simp only [if_pos h2]; exact e
    · simp only [if_neg h2]
      by_cases h3 : m' (B + 4) n + 1 < 3
      · simp only [if_pos h3, pz_up, e]
      · simp only [if_neg h3, pz_up, e]
  · simp only [if_neg h1]
    by_cases h2 : m' (B + 3) n - 1 ≤ 0
    · simp only [if_pos h2, pz_up, e]
    · simp only [if_neg h2, pz_up, e]
theorem ag_M_loc {i : Nat} {m : jz_M} {k j : Nat} (h : ¬ rg_M i k j) : ag_M i m k j = m k j := by
  have hf : ∀ f, 8 ≤ f → f ≤ 17 → ¬ (k = f ∧ j = i) := fun f h1 h2 z => h ⟨by omega, by omega, z.2⟩
  unfold ag_M
  by_cases h1 : m 8 i ≤ 0 ∨ m 10 i ≤ 0
  · rw [if_pos h1]
    by_cases h2 : m 8 i ≤ 0
    · rw [if_pos h2]
    · rw [if_neg h2]
      by_cases h3 : m 11 i + 1 = 3
      · rw [if_pos h3, pz_up, if_neg (hf 17 (by decide) (by decide)), pz_up, if_neg (hf 16 (by decide) (by decide)), pz_up, if_neg (hf 8 (by decide) (by decide)), pz_up, if_neg (hf 11 (by decide) (by decide))]
      · rw [if_neg h3, pz_up, if_neg (hf 11 (by decide) (by decide))]
  · rw [if_neg h1]
    by_cases h2 : m 10 i - 1 = 0
    · rw [if_pos h2, pz_up, if_neg (hf 16 (by decide) (by decide)), pz_up, if_neg (hf 11 (by decide) (by decide)), pz_up, if_neg (hf 10 (by decide) (by decide))]
    · rw [if_neg h2, pz_up, if_neg (hf 10 (by decide) (by decide))]
/-- the reference's step with the sets of circuits given -/
def ag_N (cs : Nat → Int32) (i : Nat) (m : jz_M) : jz_M :=
  if m 8 i ≤ 0 ∨ m 10 i ≤ 0 then (if m 8 i ≤ 0 then m else if m 11 i + 1 = 3 then jz_up (jz_up (jz_up (jz_up m 11 i (m 11 i + 1)) 8 i 0) 16 i 0) 17 i 0 else jz_up m 11 i (m 11 i + 1))
  else if m 10 i - 1 = 0 then jz_up (jz_up (jz_up m 10 i 0) 11 i 0) 16 i (cs (i / 84)) else jz_up m 10 i (m 10 i - 1)
theorem ag_MN {m0 m : jz_M} (h : m 4 = m0 4) (i : Nat) : ag_M i m = ag_N (fun r => o_cs m0 r 6 0 0) i m := by unfold ag_M ag_N; rw [x_cs h]
theorem ag_N_loc {cs : Nat → Int32} {i : Nat} {m : jz_M} {k j : Nat} (h : ¬ rg_M i k j) : ag_N cs i m k j = m k j := by
  have hf : ∀ f, 8 ≤ f → f ≤ 17 → ¬ (k = f ∧ j = i) := fun f h1 h2 z => h ⟨by omega, by omega, z.2⟩
  unfold ag_N
  by_cases h1 : m 8 i ≤ 0 ∨ m 10 i ≤ 0
  · rw [if_pos h1]
    by_cases h2 : m 8 i ≤ 0
    · rw [if_pos h2]
    · rw [if_neg h2]
      by_cases h3 : m 11 i + 1 = 3
      · rw [if_pos h3, pz_up, if_neg (hf 17 (by decide) (by decide)), pz_up, if_neg (hf 16 (by decide) (by decide)), pz_up, if_neg (hf 8 (by decide) (by decide)), pz_up, if_neg (hf 11 (by decide) (by decide))]
      · rw [if_neg h3, pz_up, if_neg (hf 11 (by decide) (by decide))]
  · rw [if_neg h1]
    by_cases h2 : m 10 i - 1 = 0
    · rw [if_pos h2, pz_up, if_neg (hf 16 (by decide) (by decide)), pz_up, if_neg (hf 11 (by decide) (by decide)), pz_up, if_neg (hf 10 (by decide) (by decide))]
    · rw [if_neg h2, pz_up, if_neg (hf 10 (by decide) (by decide))]
theorem ag_N_cong {cs : Nat → Int32} {i : Nat} {m m' : jz_M} (h : ∀ k j, rg_M i k j → m k j = m' k j) {k j : Nat} (hr : rg_M i k j) : ag_N cs i m k j = ag_N cs i m' k j := by
  have e8 := h 8 i ⟨by decide, by decide, rfl⟩
  have e10 := h 10 i ⟨by decide, by decide, rfl⟩
  have e11 := h 11 i ⟨by decide, by decide, rfl⟩
  have e := h k j hr
  unfold ag_N
  rw [e8, e10, e11]
  by_cases h1 : m' 8 i ≤ 0 ∨ m' 10 i ≤ 0
  · simp only [if_pos h1]
    by_cases h2 : m' 8 i ≤ 0
    · simp only [if_pos h2]; exact e
    · simp only [if_neg h2]
      by_cases h3 : m' 11 i + 1 = 3
      · simp only [if_pos h3, pz_up, e]
      · simp only [if_neg h3, pz_up, e]
  · simp only [if_neg h1]
    by_cases h2 : m' 10 i - 1 = 0
    · simp only [if_pos h2, pz_up, e]
    · simp only [if_neg h2, pz_up, e]
theorem ag_MN_fo {m0 : jz_M} : ∀ (g i : Nat) (m : jz_M), m 4 = m0 4 → pz_fo ag_M g i m = pz_fo (ag_N (fun r => o_cs m0 r 6 0 0)) g i m := by
  intro g
  induction g with
  | zero => intro i m h; rw [pz_fo, pz_fo]
  | succ g ih =>
    intro i m h
    have h4 : ag_M i m 4 = m0 4 := (funext fun j => ag_M_loc (fun z => absurd z.1 (by decide))).trans h
    rw [pz_fo, pz_fo, ih (i + 1) (ag_M i m) h4, ag_MN h]
/-- all of the reference's descriptions -/
theorem tk_M {cs : Nat → Int32} {m : jz_M} : (∀ i, i < 504 → ∀ k, 8 ≤ k → k ≤ 17 → pz_fo (ag_N cs) 504 0 m k i = ag_N cs i m k i) ∧ (∀ k j, k < 8 → pz_fo (ag_N cs) 504 0 m k j = m k j) ∧ (∀ k j, 504 ≤ j → pz_fo (ag_N cs) 504 0 m k j = m k j) := by
  obtain ⟨a, b⟩ := fold_pt (age := ag_N cs) (reg := rg_M) (fun e m k j h => ag_N_loc h) (fun e m m' h k j hr => ag_N_cong h hr) (fun e e' k j h1 h2 => h1.2.2.symm.trans h2.2.2) 504 0 m
  exact ⟨fun i hi k h1 h2 => a i (by omega) (by omega) k i ⟨h1, h2, rfl⟩, fun k j hk => b k j (fun e _ _ z => by have := z.1; omega), fun k j hj => b k j (fun e _ h2 z => by have := z.2.2; omega)⟩
/-- all descriptions of one base of the class -/
theorem tk_C {cs : Int32} {B : Nat} {m : jz_M} : (∀ n, n < 42 → ∀ k, B + 1 ≤ k → k ≤ B + 10 → pz_fo (ag_C cs B) 42 0 m k n = ag_C cs B n m k n) ∧ (∀ k j, k < B + 1 ∨ B + 10 < k ∨ 42 ≤ j → pz_fo (ag_C cs B) 42 0 m k j = m k j) := by
  obtain ⟨a, b⟩ := fold_pt (age := ag_C cs B) (reg := rg_C B) (fun e m k j h => ag_C_loc h) (fun e m m' h k j hr => ag_C_cong h hr) (fun e e' k j h1 h2 => h1.2.2.symm.trans h2.2.2) 42 0 m
  exact ⟨fun n hn k h1 h2 => a n (by omega) (by omega) k n ⟨h1, h2, rfl⟩, fun k j hk => b k j (fun e _ h2 z => by obtain ⟨z1, z2, z3⟩ := z; omega)⟩
