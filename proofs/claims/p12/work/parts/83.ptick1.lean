/-! tick: many places, each changed alone -/
theorem pz_fo_add {σ : Type} {f : Nat → σ → σ} : ∀ (a b i : Nat) (s : σ), pz_fo f (a + b) i s = pz_fo f b (i + a) (pz_fo f a i s) := by
  intro a
  induction a with
  | zero => intro b i s; rw [Nat.zero_add]; rfl
  | succ a ih =>
    intro b i s
    rw [show a + 1 + b = a + b + 1 by omega]
    show pz_fo f (a + b) (i + 1) (f i s) = _
    rw [ih b (i + 1) (f i s), show i + 1 + a = i + (a + 1) by omega]
    rfl
theorem fold_pt {age : Nat → jz_M → jz_M} {reg : Nat → Nat → Nat → Prop} (loc : ∀ e m k j, ¬ reg e k j → age e m k j = m k j) (cong : ∀ e m m', (∀ k j, reg e k j → m k j = m' k j) → ∀ k j, reg e k j → age e m k j = age e m' k j) (dis : ∀ e e' k j, reg e k j → reg e' k j → e = e') :
    ∀ (g i : Nat) (m : jz_M), (∀ e, i ≤ e → e < i + g → ∀ k j, reg e k j → pz_fo age g i m k j = age e m k j) ∧ (∀ k j, (∀ e, i ≤ e → e < i + g → ¬ reg e k j) → pz_fo age g i m k j = m k j) := by
  intro g
  induction g with
  | zero => intro i m; exact ⟨fun e h1 h2 => by omega, fun k j _ => rfl⟩
  | succ g ih =>
    intro i m
    obtain ⟨a, b⟩ := ih (i + 1) (age i m)
    refine ⟨fun e h1 h2 k j hr => ?_, fun k j h => ?_⟩
    · show pz_fo age g (i + 1) (age i m) k j = _
      by_cases he : e = i
      · subst he
        exact b k j (fun e' h3 h4 h5 => by have := dis e e' k j hr h5; omega)
      · rw [a e (by omega) (by omega) k j hr]
        exact cong e (age i m) m (fun k j h => loc i m k j (fun z => he (dis e i k j h z))) k j hr
    · show pz_fo age g (i + 1) (age i m) k j = _
      rw [b k j (fun e h1 h2 => h e (by omega) (by omega))]
      exact loc i m k j (h i (Nat.le_refl _) (by omega))
/-- what a tick does to a description of the class: base B, name n -/
def ag_C (cs : Int32) (B n : Nat) (m : jz_M) : jz_M :=
  if m (B + 3) n ≤ 0 then (if m (B + 1) n ≤ 0 then m else if m (B + 4) n + 1 < 3 then jz_up m (B + 4) n (m (B + 4) n + 1) else jz_up (jz_up (jz_up (jz_up (jz_up m (B + 4) n (m (B + 4) n + 1)) (B + 1) n 0) (B + 7) n 0) (B + 9) n 0) (B + 10) n 0)
  else if m (B + 3) n - 1 ≤ 0 then jz_up (jz_up (jz_up m (B + 3) n 0) (B + 4) n 0) (B + 9) n cs else jz_up m (B + 3) n (m (B + 3) n - 1)
theorem ag_C_step {n : Nat} (cs : Int32) (B fu : Nat) (m : jz_M) (hn : n < 42) : f_Ba_age_2 (fu + 1) B cs (nI n) m = f_Ba_age_2 fu B cs (nI (n + 1)) (ag_C cs B n m) := by
  rw [f_Ba_age_2, if_neg (pn42 hn)]
  unfold f_Ba_isAlive f_Ba_has f_Ba_remove f_Ba_end ag_C
  simp only [pz_n, nI_1, pz_ix hn (show 42 < 2 ^ 31 by decide), Option.bind_some, pz_up_s]
  by_cases h1 : m (B + 3) n ≤ 0
  · simp only [if_pos h1, Option.bind_some, if_true]
    by_cases h2 : m (B + 1) n ≤ 0
    · simp only [if_pos h2, Option.bind_some, if_true]
    · simp only [if_neg h2, Option.bind_some, i10]
      by_cases h3 : m (B + 4) n + 1 < 3
      · simp only [if_pos h3]
      · simp only [if_neg h3]
  · simp only [if_neg h1, Option.bind_some, i10]
    by_cases h2 : m (B + 3) n - 1 ≤ 0
    · simp only [if_pos h2, Option.bind_some, not_true, if_false, jz_up_up]
    · simp only [if_neg h2, Option.bind_some, n10]
theorem ag_C_loop (cs : Int32) (B : Nat) : ∀ (g n fu : Nat) (m : jz_M), n + g = 42 → g < fu → f_Ba_age_2 fu B cs (nI n) m = some (pz_fo (ag_C cs B) g n m) := by
  intro g
  induction g with
  | zero =>
    intro n fu m h1 h2
    obtain ⟨fu, rfl⟩ : ∃ k, fu = k + 1 := ⟨fu - 1, by omega⟩
    rw [f_Ba_age_2, if_pos (py42 (by omega) (by omega))]; rfl
  | succ g ih =>
    intro n fu m h1 h2
    obtain ⟨fu, rfl⟩ : ∃ k, fu = k + 1 := ⟨fu - 1, by omega⟩
    rw [ag_C_step cs B fu m (by omega), ih (n + 1) fu _ (by omega) (by omega)]; rfl
theorem q_age (cs : Int32) (B : Nat) (m : jz_M) : f_Ba_age B cs m = some (pz_fo (ag_C cs B) 42 0 m) := ag_C_loop cs B 42 0 1000 m (by decide) (by decide)
/-- and of the reference -/
def ag_M (i : Nat) (m : jz_M) : jz_M :=
  if m 8 i ≤ 0 ∨ m 10 i ≤ 0 then (if m 8 i ≤ 0 then m else if m 11 i + 1 = 3 then jz_up (jz_up (jz_up (jz_up m 11 i (m 11 i + 1)) 8 i 0) 16 i 0) 17 i 0 else jz_up m 11 i (m 11 i + 1))
  else if m 10 i - 1 = 0 then jz_up (jz_up (jz_up m 10 i 0) 11 i 0) 16 i (o_cs m (i / 84) 6 0 0) else jz_up m 10 i (m 10 i - 1)
theorem nI_div {i : Nat} (h : i < 504) : nI i / 84 = nI (i / 84) := by
  have : ∀ i, i < 504 → nI i / 84 = nI (i / 84) := by decide +kernel
  exact this i h
theorem ag_M_step {i : Nat} (fu : Nat) (m : jz_M) (hi : i < 504) : f_Mo_tick_49 (fu + 1) (nI i) m = f_Mo_tick_49 fu (nI (i + 1)) (ag_M i m) := by
  rw [f_Mo_tick_49, if_neg (show ¬ (504 : Int32) ≤ nI i from nI_ge hi (by decide))]
  unfold f_Mo_tick_105 f_Mo_die ag_M
  simp only [pz_n, nI_1, pz_ix hi (show 504 < 2 ^ 31 by decide), Option.bind_some, pz_up_s, nI_div hi]
  have hcs : ∀ m : jz_M, f_Mo_circuits (nI (i / 84)) m = some (o_cs m (i / 84) 6 0 0) := fun m => q_mcs (by omega) m
  simp only [hcs, Option.bind_some, jz_up_up]
  by_cases h1 : m 8 i ≤ 0
  · simp only [if_pos h1, h1, true_or, if_true]
  · simp only [if_neg h1, h1, false_or, if_false]
    by_cases h2 : m 10 i ≤ 0
    · simp only [if_pos h2]
      by_cases h3 : m 11 i + 1 = 3
      · simp only [if_neg (fun z => z h3 : ¬ ¬ m 11 i + 1 = 3), if_pos h3]
      · simp only [if_pos h3, if_neg h3]
    · simp only [if_neg h2]
      by_cases h3 : m 10 i - 1 = 0
      · simp only [if_neg (fun z => z h3 : ¬ ¬ m 10 i - 1 = 0), if_pos h3]
        rw [x_cs (mm := m) (by rw [jz_up_k (by decide), jz_up_k (by decide)])]
      · simp only [if_pos h3, if_neg h3]
theorem ag_M_loop : ∀ (g i fu : Nat) (m : jz_M), i + g = 504 → g < fu → f_Mo_tick_49 fu (nI i) m = some (pz_fo ag_M g i m) := by
  intro g
  induction g with
  | zero =>
    intro i fu m h1 h2
    obtain ⟨fu, rfl⟩ : ∃ k, fu = k + 1 := ⟨fu - 1, by omega⟩
    rw [f_Mo_tick_49, if_pos (show (504 : Int32) ≤ nI i from nI_le (a := 504) (by omega) (by omega))]; rfl
  | succ g ih =>
    intro i fu m h1 h2
    obtain ⟨fu, rfl⟩ : ∃ k, fu = k + 1 := ⟨fu - 1, by omega⟩
    rw [ag_M_step fu m (by omega), ih (i + 1) fu _ (by omega) (by omega)]; rfl
