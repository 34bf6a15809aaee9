/-! tick: hearing -/
def he_C (o : Nat) (e : Nat) (m : jz_M) : jz_M := if m (o + 1) e ≤ 0 then m else jz_up m (o + 1) e (m (o + 1) e - 1)
theorem he_C_loop (o : Nat) : ∀ (g e fu : Nat) (m : jz_M), e + g = 216 → g < fu → f_He_age_2 fu o (nI e) m = some (pz_fo (he_C o) g e m) := by
  intro g
  induction g with
  | zero =>
    intro e fu m h1 h2
    obtain ⟨fu, rfl⟩ : ∃ k, fu = k + 1 := ⟨fu - 1, by omega⟩
    rw [f_He_age_2, if_pos (show (216 : Int32) ≤ nI e from nI_le (a := 216) (by omega) (by omega))]; rfl
  | succ g ih =>
    intro e fu m h1 h2
    obtain ⟨fu, rfl⟩ : ∃ k, fu = k + 1 := ⟨fu - 1, by omega⟩
    have hE : e < 216 := by omega
    rw [f_He_age_2, if_neg (show ¬ (216 : Int32) ≤ nI e from nI_ge hE (by decide))]
    rw [pz_fo]
    unfold he_C
    simp only [pz_n, nI_1, pz_ix hE (show 216 < 2 ^ 31 by decide), Option.bind_some]
    by_cases h : m (o + 1) e ≤ 0
    · simp only [if_pos h]; exact ih (e + 1) fu m (by omega) (by omega)
    · simp only [if_neg h]; exact ih (e + 1) fu _ (by omega) (by omega)
theorem q_hag (o : Nat) (m : jz_M) : f_He_age o m = some (pz_fo (he_C o) 216 0 m) := he_C_loop o 216 0 1000 m (by decide) (by decide)
def he_M (e : Nat) (m : jz_M) : jz_M := if m 6 e ≤ 0 then jz_up m 6 e 0 else jz_up m 6 e (m 6 e - 1)
theorem he_M_loop : ∀ (g e fu : Nat) (m : jz_M), e + g = 432 → g < fu → f_Mo_tick_7 fu (nI e) m = f_Mo_tick_49 1000000 0 (pz_fo he_M g e m) := by
  intro g
  induction g with
  | zero =>
    intro e fu m h1 h2
    obtain ⟨fu, rfl⟩ : ∃ k, fu = k + 1 := ⟨fu - 1, by omega⟩
    rw [f_Mo_tick_7, if_pos (show (432 : Int32) ≤ nI e from nI_le (a := 432) (by omega) (by omega))]; rfl
  | succ g ih =>
    intro e fu m h1 h2
    obtain ⟨fu, rfl⟩ : ∃ k, fu = k + 1 := ⟨fu - 1, by omega⟩
    have hE : e < 432 := by omega
    rw [f_Mo_tick_7, if_neg (show ¬ (432 : Int32) ≤ nI e from nI_ge hE (by decide))]
    rw [pz_fo]
    unfold he_M
    simp only [pz_n, nI_1, pz_ix hE (show 432 < 2 ^ 31 by decide), Option.bind_some]
    by_cases h : m 6 e ≤ 0
    · simp only [if_pos h]; exact ih (e + 1) fu _ (by omega) (by omega)
    · simp only [if_neg h]; exact ih (e + 1) fu _ (by omega) (by omega)
/-- a place of one cell alone: the fold is the step, place by place -/
theorem he_pt {k0 : Nat} (f : Int32 → Int32) {age : Nat → jz_M → jz_M} (ha : ∀ e m k j, age e m k j = if k = k0 ∧ j = e then f (m k0 e) else m k j) (g : Nat) (m : jz_M) (k j : Nat) : pz_fo age g 0 m k j = if k = k0 ∧ j < g then f (m k0 j) else m k j := by
  obtain ⟨a, b⟩ := fold_pt (age := age) (reg := fun e k j => k = k0 ∧ j = e) (fun e m k j h => by rw [ha, if_neg h]) (fun e m m' h k j hr => by rw [ha, ha, if_pos hr, if_pos hr, h k0 e ⟨rfl, rfl⟩]) (fun e e' k j h1 h2 => h1.2.symm.trans h2.2) g 0 m
  by_cases h : k = k0 ∧ j < g
  · rw [if_pos h, a j (by omega) (by omega) k j ⟨h.1, rfl⟩, ha, if_pos ⟨h.1, rfl⟩]
  · rw [if_neg h, b k j (fun e _ h2 h3 => h ⟨h3.1, by omega⟩)]
def dn_ (x : Int32) : Int32 := if x ≤ 0 then x else x - 1
theorem he_C_at (o e : Nat) (m : jz_M) (k j : Nat) : he_C o e m k j = if k = o + 1 ∧ j = e then dn_ (m (o + 1) e) else m k j := by
  unfold he_C dn_
  by_cases h : m (o + 1) e ≤ 0
  · rw [if_pos h, if_pos h]
    by_cases hz : k = o + 1 ∧ j = e
    · rw [if_pos hz, hz.1, hz.2]
    · rw [if_neg hz]
  · rw [if_neg h, if_neg h, pz_up]
theorem he_M_at (e : Nat) (m : jz_M) (k j : Nat) : he_M e m k j = if k = 6 ∧ j = e then (fun x : Int32 => if x ≤ 0 then 0 else x - 1) (m 6 e) else m k j := by
  unfold he_M
  by_cases h : m 6 e ≤ 0
  · simp only [if_pos h]; rw [pz_up]
  · simp only [if_neg h]; rw [pz_up]
