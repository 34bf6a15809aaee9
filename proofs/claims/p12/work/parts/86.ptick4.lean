/-! tick: the class's bases -/
def tb_C (cs : Nat → Int32) (l r : Nat) (m : jz_M) : jz_M := pz_fo (ag_C (cs r) (bx l r)) 42 0 m
theorem tb_4 {cs : Nat → Int32} {l r : Nat} {m : jz_M} : tb_C cs l r m 4 = m 4 := funext fun j => tk_C.2 4 j (Or.inl (by unfold bx; omega))
theorem t31 {m0 : jz_M} {l : Nat} (hl : l < 2) (k24 : Int32 → jz_M → Option jz_M) : ∀ (g i fu : Nat) (m : jz_M), i + g = 6 → g < fu → m 4 = m0 4 → f_AR_tick_31 k24 fu (nI (l + 1)) (nI i) m = k24 (nI (l + 1 + 1)) (pz_fo (tb_C (fun r => o_cs m0 r 6 0 0) l) g i m) := by
  intro g
  induction g with
  | zero =>
    intro i fu m h1 h2 h4
    obtain ⟨fu, rfl⟩ : ∃ k, fu = k + 1 := ⟨fu - 1, by omega⟩
    rw [f_AR_tick_31, if_pos (py6 (by omega) (by omega)), pz_n, nI_1, pz_fo]
  | succ g ih =>
    intro i fu m h1 h2 h4
    obtain ⟨fu, rfl⟩ : ∃ k, fu = k + 1 := ⟨fu - 1, by omega⟩
    have hi : i < 6 := by omega
    rw [f_AR_tick_31, if_neg (pn6 hi), pz_b (q_bs hi hl m), pz_b (q_cs hi m), pz_b (q_age _ _ m), pz_n, nI_1, pz_fo, x_cs h4]
    exact ih (i + 1) fu _ (by omega) (by omega) ((tb_4 (cs := fun r => o_cs m0 r 6 0 0) (l := l) (r := i) (m := m)).trans h4)
def rg_B (l r k j : Nat) : Prop := bx l r + 1 ≤ k ∧ k ≤ bx l r + 10 ∧ j < 42
theorem tr_C {cs : Nat → Int32} {l : Nat} {m : jz_M} : (∀ r n, r < 6 → n < 42 → ∀ k, bx l r + 1 ≤ k → k ≤ bx l r + 10 → pz_fo (tb_C cs l) 6 0 m k n = ag_C (cs r) (bx l r) n m k n) ∧ (∀ k j, (∀ r, r < 6 → ¬ rg_B l r k j) → pz_fo (tb_C cs l) 6 0 m k j = m k j) := by
  obtain ⟨a, b⟩ := fold_pt (age := tb_C cs l) (reg := rg_B l) (fun e m k j h => tk_C.2 k j (by unfold rg_B at h; omega)) (fun e m m' h k j hr => by
    unfold tb_C
    rw [tk_C.1 j hr.2.2 k hr.1 hr.2.1, tk_C.1 j hr.2.2 k hr.1 hr.2.1]
    exact ag_C_cong (fun k' j' z => h k' j' ⟨z.1, z.2.1, by have := z.2.2; have := hr.2.2; omega⟩) ⟨hr.1, hr.2.1, rfl⟩) (fun e e' k j h1 h2 => by obtain ⟨a1, a2, _⟩ := h1; obtain ⟨b1, b2, _⟩ := h2; unfold bx at a1 a2 b1 b2; omega) 6 0 m
  refine ⟨fun r n hr hn k h1 h2 => ?_, fun k j h => b k j (fun e _ h2 => h e (by omega))⟩
  rw [a r (by omega) (by omega) k n ⟨h1, h2, hn⟩]
  exact tk_C.1 n hn k h1 h2
/-- the class's memory after a tick -/
def tA (m : jz_M) : jz_M := pz_fo (he_C 10) 216 0 (pz_fo (he_C 7) 216 0 m)
def tB (cs : Nat → Int32) (m : jz_M) : jz_M := pz_fo (tb_C cs 1) 6 0 (pz_fo (tb_C cs 0) 6 0 m)
theorem tA_at (m : jz_M) (k j : Nat) : tA m k j = if k = 11 ∧ j < 216 then dn_ (m 11 j) else if k = 8 ∧ j < 216 then dn_ (m 8 j) else m k j := by
  unfold tA
  rw [he_pt dn_ (he_C_at 10), he_pt dn_ (he_C_at 7), he_pt dn_ (he_C_at 7)]
  by_cases h : k = 11 ∧ j < 216
  · rw [if_pos (show k = 10 + 1 ∧ j < 216 from h), if_pos h, if_neg (by omega)]
  · rw [if_neg (show ¬ (k = 10 + 1 ∧ j < 216) from h), if_neg h]
theorem tB_at {cs : Nat → Int32} {m : jz_M} : (∀ l r n, l < 2 → r < 6 → n < 42 → ∀ k, bx l r + 1 ≤ k → k ≤ bx l r + 10 → tB cs m k n = ag_C (cs r) (bx l r) n m k n) ∧ (∀ k j, (∀ l r, l < 2 → r < 6 → ¬ rg_B l r k j) → tB cs m k j = m k j) := by
  have a0 := tr_C (cs := cs) (l := 0) (m := m)
  have a1 := tr_C (cs := cs) (l := 1) (m := pz_fo (tb_C cs 0) 6 0 m)
  refine ⟨fun l r n hl hr hn k h1 h2 => ?_, fun k j h => ?_⟩
  · unfold tB
    rcases (show l = 0 ∨ l = 1 by omega) with rfl | rfl
    · rw [a1.2 k n (fun r' hr' z => by obtain ⟨z1, z2, _⟩ := z; unfold bx at z1 z2 h1 h2; omega)]
      exact a0.1 r n hr hn k h1 h2
    · rw [a1.1 r n hr hn k h1 h2]
      exact ag_C_cong (fun k' j' z => a0.2 k' j' (fun r' hr' z' => by obtain ⟨z1, z2, _⟩ := z; obtain ⟨y1, y2, _⟩ := z'; unfold bx at z1 z2 y1 y2; omega)) ⟨h1, h2, rfl⟩
  · unfold tB
    rw [a1.2 k j (fun r hr => h 1 r (by decide) hr)]
    exact a0.2 k j (fun r hr => h 0 r (by decide) hr)
theorem q_tick (m : jz_M) : f_AR_tick m = some (tB (fun r => o_cs m r 6 0 0) (tA m)) := by
  have h4 : tA m 4 = m 4 := funext fun j => by rw [tA_at, if_neg (by omega), if_neg (by omega)]
  have h5 : pz_fo (tb_C (fun r => o_cs m r 6 0 0) 0) 6 0 (tA m) 4 = m 4 := (funext fun j => (tr_C (cs := fun r => o_cs m r 6 0 0) (l := 0) (m := tA m)).2 4 j (fun r _ z => by have := z.1; unfold bx at this; omega)).trans h4
  have e1 : f_AR_tick m = f_AR_tick_24 1000 1 (tA m) := by
    unfold f_AR_tick
    rw [f_AR_tick_2, if_neg (by decide), show jz_ix 2 0 = some 0 by decide, Option.bind_some, q_hag, Option.bind_some, pz_n, f_AR_tick_2, if_neg (by decide), show jz_ix 2 (0 + 1) = some 1 by decide, Option.bind_some, q_hag, Option.bind_some, pz_n, f_AR_tick_2, if_pos (by decide)]
    rfl
  rw [e1, f_AR_tick_24, if_neg (by decide)]
  refine (t31 (m0 := m) (l := 0) (by decide) _ 6 0 1000 (tA m) (by decide) (by decide) h4).trans ?_
  rw [f_AR_tick_24, if_neg (by decide)]
  refine (t31 (m0 := m) (l := 1) (by decide) _ 6 0 1000 _ (by decide) (by decide) h5).trans ?_
  rw [f_AR_tick_24, if_pos (by decide)]
  rfl
