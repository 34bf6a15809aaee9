/-! describe: near neighbours, exits, the draft -/
theorem q_fm2 {k l r c : Nat} {mc mm : jz_M} (hI : I_ k mc mm) (hl : l < 2) (hr : r < 6) (hc : c < 6) : ∀ (g i fu : Nat), i + g = 6 → g < fu → ((∀ n, i ≤ n → n < 6 → o_ne mm l r c n = false) ∧ f_He_firstMutual_2 mc fu (7 + 3 * l) (nI r) (nI c) (nI i) = some (-1)) ∨ (∃ n, i ≤ n ∧ n < 6 ∧ o_ne mm l r c n = true ∧ f_He_firstMutual_2 mc fu (7 + 3 * l) (nI r) (nI c) (nI i) = some (nI n)) := by
  intro g
  induction g with
  | zero =>
    intro i fu h1 h2
    obtain ⟨fu, rfl⟩ : ∃ k, fu = k + 1 := ⟨fu - 1, by omega⟩
    rw [f_He_firstMutual_2, if_pos (py6 (by omega) (by omega))]
    exact Or.inl ⟨fun n h3 h4 => by omega, rfl⟩
  | succ g ih =>
    intro i fu h1 h2
    obtain ⟨fu, rfl⟩ : ∃ k, fu = k + 1 := ⟨fu - 1, by omega⟩
    rw [f_He_firstMutual_2, if_neg (pn6 (by omega)), pz_b (q_mu hr hc (by omega) mc), b1_0, I_mu hI hl hr hc (by omega)]
    simp only [pz_n, nI_1]
    by_cases h : o_ne mm l r c i = true
    · rw [if_pos h]
      exact Or.inr ⟨i, Nat.le_refl _, by omega, h, rfl⟩
    · rw [if_neg h]
      rcases ih (i + 1) fu (by omega) (by omega) with ⟨a, b⟩ | ⟨n, a1, a2, a3, a4⟩
      · refine Or.inl ⟨fun n h3 h4 => ?_, b⟩
        by_cases hn : n = i
        · rw [hn]; simpa using h
        · exact a n (by omega) h4
      · exact Or.inr ⟨n, by omega, a2, a3, a4⟩
theorem q_an6 {l r c : Nat} (hl : l < 2) (hr : r < 6) (hc : c < 6) (m : jz_M) : ∀ (g i fu : Nat), i + g = 6 → g < fu → f_Mo_anyNear_6 m fu (nI r) (nI c) (nI (l + 1)) 1 (nI i) = some 1 ∧ ((∀ n, i ≤ n → n < 6 → o_ne m l r c n = false) → f_Mo_anyNear_6 m fu (nI r) (nI c) (nI (l + 1)) 0 (nI i) = some 0) ∧ ((∃ n, i ≤ n ∧ n < 6 ∧ o_ne m l r c n = true) → f_Mo_anyNear_6 m fu (nI r) (nI c) (nI (l + 1)) 0 (nI i) = some 1) := by
  intro g
  induction g with
  | zero =>
    intro i fu h1 h2
    obtain ⟨fu, rfl⟩ : ∃ k, fu = k + 1 := ⟨fu - 1, by omega⟩
    rw [f_Mo_anyNear_6, f_Mo_anyNear_6]
    simp only [if_pos (py6 (show 6 ≤ i by omega) (by omega))]
    exact ⟨rfl, fun _ => rfl, fun ⟨n, a, b, _⟩ => by omega⟩
  | succ g ih =>
    intro i fu h1 h2
    obtain ⟨fu, rfl⟩ : ∃ k, fu = k + 1 := ⟨fu - 1, by omega⟩
    obtain ⟨j1, j2, j3⟩ := ih (i + 1) fu (by omega) (by omega)
    have e1 : f_Mo_anyNear_6 m (fu + 1) (nI r) (nI c) (nI (l + 1)) 1 (nI i) = some 1 := by
      rw [f_Mo_anyNear_6, if_neg (pn6 (by omega)), if_pos (by decide)]
      unfold f_Mo_anyNear_30
      rw [pz_n, nI_1]; exact j1
    have e0 : f_Mo_anyNear_6 m (fu + 1) (nI r) (nI c) (nI (l + 1)) 0 (nI i) = if o_ne m l r c i = true then some 1 else f_Mo_anyNear_6 m fu (nI r) (nI c) (nI (l + 1)) 0 (nI (i + 1)) := by
      rw [f_Mo_anyNear_6, if_neg (pn6 (by omega)), if_neg (by decide), pz_b (q_ne hl hr hc (by omega) m), b1_0]
      unfold f_Mo_anyNear_30
      simp only [pz_n, nI_1, j1]
    refine ⟨e1, fun h => ?_, fun ⟨n, a, b, d⟩ => ?_⟩
    · rw [e0, h i (Nat.le_refl _) (by omega), if_neg (by decide)]
      exact j2 (fun n a b => h n (by omega) b)
    · rw [e0]
      by_cases h : o_ne m l r c i = true
      · rw [if_pos h]
      · rw [if_neg h]
        refine j3 ⟨n, ?_, b, d⟩
        rcases Nat.lt_or_ge i n with z | z
        · exact z
        · exact absurd (show o_ne m l r c i = true by rw [show i = n by omega]; exact d) h
/-- the first near neighbour of the class, any near neighbour of the reference -/
theorem q_near {k l r c : Nat} {mc mm : jz_M} (hI : I_ k mc mm) (hl : l < 2) (hr : r < 6) (hc : c < 6) : ((∀ n, n < 6 → o_ne mm l r c n = false) ∧ f_He_firstMutual (7 + 3 * l) (nI r) (nI c) mc = some (-1) ∧ f_Mo_anyNear (nI r) (nI c) (nI (l + 1)) mm = some 0) ∨ (∃ n, n < 6 ∧ o_ne mm l r c n = true ∧ f_He_firstMutual (7 + 3 * l) (nI r) (nI c) mc = some (nI n) ∧ f_Mo_anyNear (nI r) (nI c) (nI (l + 1)) mm = some 1) := by
  obtain ⟨_, a2, a3⟩ := q_an6 hl hr hc mm 6 0 1000000 (by decide) (by decide)
  rcases q_fm2 hI hl hr hc 6 0 1000 (by decide) (by decide) with ⟨a, b⟩ | ⟨n, b1, b2, b3, b4⟩
  · exact Or.inl ⟨fun n h => a n (by omega) h, b, a2 a⟩
  · exact Or.inr ⟨n, b2, b3, b4, a3 ⟨n, b1, b2, b3⟩⟩
theorem b6_three : ∀ a, a < 6 → ∀ b, b < 6 → ∀ c, c < 6 → a = b ∨ a = c ∨ b = c ∨ b6_n (fun x => decide (x = a ∨ x = b ∨ x = c)) = 3 := by decide +kernel
theorem b6_n_le {f g : Nat → Bool} (h : ∀ x, x < 6 → g x = true → f x = true) : b6_n g ≤ b6_n f := by
  have hb : ∀ x, x < 6 → (g x).toNat ≤ (f x).toNat := fun x hx => by
    have := h x hx
    cases hg : g x with
    | false => exact Nat.zero_le _
    | true => rw [this hg]; exact Nat.le_refl _
  have h0 := hb 0 (by decide); have h1 := hb 1 (by decide); have h2 := hb 2 (by decide); have h3 := hb 3 (by decide); have h4 := hb 4 (by decide); have h5 := hb 5 (by decide)
  unfold b6_n; omega
/-- where no more than two are attached, one at most is near -/
theorem I_one {k l r c : Nat} {mc mm : jz_M} (hI : I_ k mc mm) (hl : l < 2) (hr : r < 6) (hc : c < 6) (hs : o_sh mm c = false) {n n' : Nat} (hn : n < 6) (hn' : n' < 6) (h : o_ne mm l r c n = true) (h' : o_ne mm l r c n' = true) : n = n' := by
  obtain ⟨a1, a2, a3⟩ := I_ne hI hl hr hc hn h
  obtain ⟨b1, b2, b3⟩ := I_ne hI hl hr hc hn' h'
  by_cases hnn : n = n'
  · exact hnn
  exfalso
  have e : b6_n (fun x => decide (x = r ∨ x = n ∨ x = n')) = 3 := by
    rcases b6_three r hr n hn n' hn' with z | z | z | z
    · exact absurd z a1
    · exact absurd z b1
    · exact absurd z hnn
    · exact z
  have e2 := b6_n_le (f := fun x => o_on mm x c) (g := fun x => decide (x = r ∨ x = n ∨ x = n')) (fun x hx z => by
    rcases (by simpa using z : x = r ∨ x = n ∨ x = n') with rfl | rfl | rfl
    · exact a2
    · exact a3
    · exact b3)
  rw [e, ← o_ct_b] at e2
  unfold o_sh at hs
  have := of_decide_eq_false hs
  omega
/-! an exit -/
def o_ee (m : jz_M) (r c n : Nat) : Prop := o_ne m 1 r c n = true ∧ m 1 n ≠ m 1 r
def o_el (m : jz_M) (r : Nat) : Prop := ∃ c n, c < 6 ∧ n < 6 ∧ o_ee m r c n
theorem q_ex10 {k r c : Nat} {mc mm : jz_M} (hI : I_ k mc mm) (hr : r < 6) (hc : c < 6) (k2 : Int32 → Int32 → Option Int32) : ∀ (g i fu : Nat), i + g = 6 → g < fu → ((∃ n, i ≤ n ∧ n < 6 ∧ o_ee mm r c n) → f_AR_hasLevelTwoNeighbourElsewhere_10 mc k2 fu (nI r) (nI c) (nI i) = some 1) ∧ ((∀ n, i ≤ n → n < 6 → ¬ o_ee mm r c n) → f_AR_hasLevelTwoNeighbourElsewhere_10 mc k2 fu (nI r) (nI c) (nI i) = k2 (nI r) (nI (c + 1))) := by
  intro g
  induction g with
  | zero =>
    intro i fu h1 h2
    obtain ⟨fu, rfl⟩ : ∃ k, fu = k + 1 := ⟨fu - 1, by omega⟩
    rw [f_AR_hasLevelTwoNeighbourElsewhere_10, if_pos (py6 (by omega) (by omega)), pz_n, nI_1]
    exact ⟨fun ⟨n, a, b, _⟩ => by omega, fun _ => rfl⟩
  | succ g ih =>
    intro i fu h1 h2
    obtain ⟨fu, rfl⟩ : ∃ k, fu = k + 1 := ⟨fu - 1, by omega⟩
    obtain ⟨j1, j2⟩ := ih (i + 1) fu (by omega) (by omega)
    have hi : i < 6 := by omega
    have e : f_AR_hasLevelTwoNeighbourElsewhere_10 mc k2 (fu + 1) (nI r) (nI c) (nI i) = if mm 1 i = mm 1 r then f_AR_hasLevelTwoNeighbourElsewhere_10 mc k2 fu (nI r) (nI c) (nI (i + 1)) else if o_ne mm 1 r c i = true then some 1 else f_AR_hasLevelTwoNeighbourElsewhere_10 mc k2 fu (nI r) (nI c) (nI (i + 1)) := by
      rw [f_AR_hasLevelTwoNeighbourElsewhere_10, if_neg (pn6 hi)]
      simp only [pz_n, nI_1, pz_ix hi (show 6 < 2 ^ 31 by decide), pz_ix hr (show 6 < 2 ^ 31 by decide), Option.bind_some]
      rw [show (2 : Int32) = nI (1 + 1) from rfl, pz_b (q_hg (l := 1) (by decide) mc), pz_b (q_mu hr hc hi mc), b1_0, I_mu hI (by decide) hr hc hi, (hI.1 i hi).1, (hI.1 r hr).1]
    have st : ¬ o_ee mm r c i → f_AR_hasLevelTwoNeighbourElsewhere_10 mc k2 (fu + 1) (nI r) (nI c) (nI i) = f_AR_hasLevelTwoNeighbourElsewhere_10 mc k2 fu (nI r) (nI c) (nI (i + 1)) := fun h => by
      rw [e]
      by_cases h1 : mm 1 i = mm 1 r
      · rw [if_pos h1]
      · rw [if_neg h1, if_neg (fun z => h ⟨z, h1⟩)]
    refine ⟨fun ⟨n, a, b, d⟩ => ?_, fun h => ?_⟩
    · by_cases h : o_ee mm r c i
      · rw [e, if_neg h.2, if_pos h.1]
      · rw [st h]
        refine j1 ⟨n, ?_, b, d⟩
        rcases Nat.lt_or_ge i n with z | z
        · exact z
        · exact absurd (show o_ee mm r c i by rw [show i = n by omega]; exact d) h
    · rw [st (h i (Nat.le_refl _) hi)]
      exact j2 (fun n a b => h n (by omega) b)
theorem q_ex2 {k r : Nat} {mc mm : jz_M} (hI : I_ k mc mm) (hr : r < 6) : ∀ (g i fu : Nat), i + g = 6 → g < fu → ((∃ c n, i ≤ c ∧ c < 6 ∧ n < 6 ∧ o_ee mm r c n) → f_AR_hasLevelTwoNeighbourElsewhere_2 mc fu (nI r) (nI i) = some 1) ∧ ((∀ c n, i ≤ c → c < 6 → n < 6 → ¬ o_ee mm r c n) → f_AR_hasLevelTwoNeighbourElsewhere_2 mc fu (nI r) (nI i) = some 0) := by
  intro g
  induction g with
  | zero =>
    intro i fu h1 h2
    obtain ⟨fu, rfl⟩ : ∃ k, fu = k + 1 := ⟨fu - 1, by omega⟩
    rw [f_AR_hasLevelTwoNeighbourElsewhere_2, if_pos (py6 (by omega) (by omega))]
    exact ⟨fun ⟨c, n, a, b, _⟩ => by omega, fun _ => rfl⟩
  | succ g ih =>
    intro i fu h1 h2
    obtain ⟨fu, rfl⟩ : ∃ k, fu = k + 1 := ⟨fu - 1, by omega⟩
    obtain ⟨j1, j2⟩ := ih (i + 1) fu (by omega) (by omega)
    have hi : i < 6 := by omega
    rw [f_AR_hasLevelTwoNeighbourElsewhere_2, if_neg (pn6 hi)]
    obtain ⟨t1, t2⟩ := q_ex10 hI hr hi (f_AR_hasLevelTwoNeighbourElsewhere_2 mc fu) 6 0 1000 (by decide) (by decide)
    refine ⟨fun ⟨c, n, a, b, d, e⟩ => ?_, fun h => ?_⟩
    · by_cases h : ∃ n, 0 ≤ n ∧ n < 6 ∧ o_ee mm r i n
      · exact t1 h
      · refine (t2 (fun n a b z => h ⟨n, a, b, z⟩)).trans (j1 ⟨c, n, ?_, b, d, e⟩)
        rcases Nat.lt_or_ge i c with z | z
        · exact z
        · exact absurd ⟨n, Nat.zero_le _, d, (show o_ee mm r i n by rw [show i = c by omega]; exact e)⟩ h
    · exact (t2 (fun n _ b => h i n (Nat.le_refl _) hi b)).trans (j2 (fun c n a b d => h c n (by omega) b d))
theorem q_ele {k r : Nat} {mc mm : jz_M} (hI : I_ k mc mm) (hr : r < 6) : (o_el mm r → f_AR_hasLevelTwoNeighbourElsewhere (nI r) mc = some 1) ∧ (¬ o_el mm r → f_AR_hasLevelTwoNeighbourElsewhere (nI r) mc = some 0) := by
  obtain ⟨a, b⟩ := q_ex2 hI hr 6 0 1000 (by decide) (by decide)
  exact ⟨fun ⟨c, n, h1, h2, h3⟩ => a ⟨c, n, Nat.zero_le _, h1, h2, h3⟩, fun h => b (fun c n _ h1 h2 h3 => h ⟨c, n, h1, h2, h3⟩)⟩
theorem q_la13 {r c : Nat} (hr : r < 6) (hc : c < 6) (m : jz_M) (k4 : Int32 → Int32 → Int32 → Option Int32) : ∀ (g i fu : Nat), i + g = 6 → g < fu → f_Mo_leavesArea_13 m k4 fu (nI r) 1 (nI c) (nI i) = k4 (nI r) 1 (nI (c + 1)) ∧ ((∃ n, i ≤ n ∧ n < 6 ∧ o_ee m r c n) → f_Mo_leavesArea_13 m k4 fu (nI r) 0 (nI c) (nI i) = k4 (nI r) 1 (nI (c + 1))) ∧ ((∀ n, i ≤ n → n < 6 → ¬ o_ee m r c n) → f_Mo_leavesArea_13 m k4 fu (nI r) 0 (nI c) (nI i) = k4 (nI r) 0 (nI (c + 1))) := by
  intro g
  induction g with
  | zero =>
    intro i fu h1 h2
    obtain ⟨fu, rfl⟩ : ∃ k, fu = k + 1 := ⟨fu - 1, by omega⟩
    rw [f_Mo_leavesArea_13, f_Mo_leavesArea_13]
    simp only [if_pos (py6 (show 6 ≤ i by omega) (by omega)), pz_n, nI_1]
    exact ⟨trivial, fun ⟨n, a, b, _⟩ => by omega, fun _ => trivial⟩
  | succ g ih =>
    intro i fu h1 h2
    obtain ⟨fu, rfl⟩ : ∃ k, fu = k + 1 := ⟨fu - 1, by omega⟩
    obtain ⟨j0, j1, j2⟩ := ih (i + 1) fu (by omega) (by omega)
    have hi : i < 6 := by omega
    have e1 : f_Mo_leavesArea_13 m k4 (fu + 1) (nI r) 1 (nI c) (nI i) = k4 (nI r) 1 (nI (c + 1)) := by
      rw [f_Mo_leavesArea_13, if_neg (pn6 hi), if_pos (by decide)]
      unfold f_Mo_leavesArea_52
      rw [pz_n, nI_1]; exact j0
    have e : f_Mo_leavesArea_13 m k4 (fu + 1) (nI r) 0 (nI c) (nI i) = if o_ne m 1 r c i = true then (if m 1 i = m 1 r then f_Mo_leavesArea_13 m k4 fu (nI r) 0 (nI c) (nI (i + 1)) else k4 (nI r) 1 (nI (c + 1))) else f_Mo_leavesArea_13 m k4 fu (nI r) 0 (nI c) (nI (i + 1)) := by
      rw [f_Mo_leavesArea_13, if_neg (pn6 hi), if_neg (by decide), show (2 : Int32) = nI (1 + 1) from rfl, pz_b (q_ne (l := 1) (by decide) hr hc hi m), b1_0]
      unfold f_Mo_leavesArea_52
      simp only [pz_n, nI_1, pz_ix hi (show 6 < 2 ^ 31 by decide), pz_ix hr (show 6 < 2 ^ 31 by decide), Option.bind_some, j0]
    have st : ¬ o_ee m r c i → f_Mo_leavesArea_13 m k4 (fu + 1) (nI r) 0 (nI c) (nI i) = f_Mo_leavesArea_13 m k4 fu (nI r) 0 (nI c) (nI (i + 1)) := fun h => by
      rw [e]
      by_cases h1 : o_ne m 1 r c i = true
      · rw [if_pos h1, if_pos (Classical.byContradiction fun z => h ⟨h1, z⟩)]
      · rw [if_neg h1]
    refine ⟨e1, fun ⟨n, a, b, d⟩ => ?_, fun h => ?_⟩
    · by_cases h : o_ee m r c i
      · rw [e, if_pos h.1, if_neg h.2]
      · rw [st h]
        refine j1 ⟨n, ?_, b, d⟩
        rcases Nat.lt_or_ge i n with z | z
        · exact z
        · exact absurd (show o_ee m r c i by rw [show i = n by omega]; exact d) h
    · rw [st (h i (Nat.le_refl _) hi)]
      exact j2 (fun n a b => h n (by omega) b)
theorem q_la4 {r : Nat} (hr : r < 6) (m : jz_M) : ∀ (g i fu : Nat), i + g = 6 → g < fu → f_Mo_leavesArea_4 m fu (nI r) 1 (nI i) = some (if m 2 r = 3 then 1 else 0) ∧ ((∃ c n, i ≤ c ∧ c < 6 ∧ n < 6 ∧ o_ee m r c n) → f_Mo_leavesArea_4 m fu (nI r) 0 (nI i) = some (if m 2 r = 3 then 1 else 0)) ∧ ((∀ c n, i ≤ c → c < 6 → n < 6 → ¬ o_ee m r c n) → f_Mo_leavesArea_4 m fu (nI r) 0 (nI i) = some 0) := by
  intro g
  induction g with
  | zero =>
    intro i fu h1 h2
    obtain ⟨fu, rfl⟩ : ∃ k, fu = k + 1 := ⟨fu - 1, by omega⟩
    rw [f_Mo_leavesArea_4, f_Mo_leavesArea_4]
    simp only [if_pos (py6 (show 6 ≤ i by omega) (by omega)), i10, if_true, pz_ix hr (show 6 < 2 ^ 31 by decide), Option.bind_some]
    refine ⟨?_, fun ⟨c, n, a, b, _⟩ => by omega, fun _ => trivial⟩
    by_cases h : m 2 r = 3
    · simp only [h, not_true, if_false, if_true]
    · simp only [h, not_false_eq_true, if_false, if_true]
  | succ g ih =>
    intro i fu h1 h2
    obtain ⟨fu, rfl⟩ : ∃ k, fu = k + 1 := ⟨fu - 1, by omega⟩
    obtain ⟨j0, j1, j2⟩ := ih (i + 1) fu (by omega) (by omega)
    have hi : i < 6 := by omega
    rw [f_Mo_leavesArea_4, if_neg (pn6 hi), f_Mo_leavesArea_4, if_neg (pn6 hi)]
    obtain ⟨t0, t1, t2⟩ := q_la13 hr hi m (f_Mo_leavesArea_4 m fu) 6 0 1000000 (by decide) (by decide)
    refine ⟨t0.trans j0, fun ⟨c, n, a, b, d, e⟩ => ?_, fun h => ?_⟩
    · by_cases h : ∃ n, 0 ≤ n ∧ n < 6 ∧ o_ee m r i n
      · exact (t1 h).trans j0
      · refine (t2 (fun n a b z => h ⟨n, a, b, z⟩)).trans (j1 ⟨c, n, ?_, b, d, e⟩)
        rcases Nat.lt_or_ge i c with z | z
        · exact z
        · exact absurd ⟨n, Nat.zero_le _, d, (show o_ee m r i n by rw [show i = c by omega]; exact e)⟩ h
    · exact (t2 (fun n _ b => h i n (Nat.le_refl _) hi b)).trans (j2 (fun c n a b d => h c n (by omega) b d))
def o_ex (m : jz_M) (l r p : Nat) : Prop := l = 0 ∧ p = 0 ∧ m 2 r = 3 ∧ o_el m r
noncomputable def v_ex (m : jz_M) (l r p : Nat) : Int32 := @ite Int32 (o_ex m l r p) (Classical.propDecidable _) 1 0
theorem x_ex {m m' : jz_M} (h1 : m' 1 = m 1) (h2 : m' 2 = m 2) (h6 : m' 6 = m 6) (h7 : m' 7 = m 7) (l r p : Nat) : v_ex m' l r p = v_ex m l r p := by
  have : o_ex m' l r p = o_ex m l r p := by unfold o_ex o_el o_ee o_ne; rw [h1, h2, h6, h7]
  unfold v_ex; rw [this]
theorem q_exi {l r p : Nat} (hl : l < 2) (hr : r < 6) (hp : p < 7) (m : jz_M) : f_Mo_exits (nI r) (nI (l + 1)) (nI p) m = some (v_ex m l r p) := by
  unfold f_Mo_exits v_ex
  by_cases h1 : l = 0
  · subst h1
    rw [if_neg (by decide)]
    by_cases h2 : p = 0
    · subst h2
      rw [if_neg (by decide)]
      obtain ⟨_, a, b⟩ := q_la4 hr m 6 0 1000000 (by decide) (by decide)
      unfold f_Mo_leavesArea
      by_cases h3 : o_el m r
      · obtain ⟨c, n, g1, g2, g3⟩ := h3
        rw [show f_Mo_leavesArea_4 m 1000000 (nI r) 0 0 = some (if m 2 r = 3 then 1 else 0) from a ⟨c, n, Nat.zero_le _, g1, g2, g3⟩]
        by_cases h4 : m 2 r = 3
        · rw [if_pos h4, if_pos ⟨rfl, rfl, h4, c, n, g1, g2, g3⟩]; rfl
        · rw [if_neg h4, if_neg (fun z => h4 z.2.2.1)]; rfl
      · rw [show f_Mo_leavesArea_4 m 1000000 (nI r) 0 0 = some 0 from b (fun c n _ g1 g2 g3 => h3 ⟨c, n, g1, g2, g3⟩)]
        rw [if_neg (fun z => h3 z.2.2.2)]; rfl
    · rw [if_pos (show ¬ nI p = 0 from fun z => h2 ((nI_eq (b := 0) (by omega) (by decide)).mp z)), if_neg (fun z => h2 z.2.1)]
  · rw [if_pos (show ¬ nI (l + 1) = 1 from fun z => h1 (by have := (nI_eq (b := 1) (by omega) (by decide)).mp z; omega)), if_neg (fun z => h1 z.1)]
