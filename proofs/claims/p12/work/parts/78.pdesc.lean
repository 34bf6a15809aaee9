/-! one description changes, in the class and in the reference -/
theorem bx_ne {l r l' r' f f' : Nat} (hr : r < 6) (hr' : r' < 6) (hf : 1 ≤ f) (hf2 : f ≤ 10) (hg : 1 ≤ f') (hg2 : f' ≤ 10) (h : ¬ (l' = l ∧ r' = r)) : bx l' r' + f' ≠ bx l r + f := by unfold bx; omega
theorem ix_ne {l r n l' r' n' : Nat} (hl : l < 2) (hl' : l' < 2) (hn : n < 42) (hn' : n' < 42) (h : ¬ (l' = l ∧ r' = r ∧ n' = n)) : ix l' r' n' ≠ ix l r n := by unfold ix; omega
/-- the cells of a description of the class -/
def cd_ (l r n k j : Nat) : Prop := bx l r + 1 ≤ k ∧ k ≤ bx l r + 10 ∧ (k = bx l r + 8 → 10 * n ≤ j ∧ j < 10 * n + 10) ∧ (k ≠ bx l r + 8 → j = n)
/-- the cells of a description of the reference -/
def md_ (l r n k j : Nat) : Prop := 8 ≤ k ∧ (k = 15 → 10 * ix l r n ≤ j ∧ j < 10 * ix l r n + 10) ∧ (k ≠ 15 → j = ix l r n)
theorem I_desc {c c' : Nat} {mc mm mc' mm' : jz_M} (h : I_ c mc mm) (hcc : c ≤ c') {l r n : Nat} (hl : l < 2) (hr : r < 6) (hn : n < 42) (hc : ∀ k j, k < 146 → ¬ cd_ l r n k j → mc' k j = mc k j) (hm : ∀ k j, 1 ≤ k → k ≤ 17 → ¬ md_ l r n k j → mm' k j = mm k j) (hd : rd_ mc' mm' l r n) (hi : iv_ c' mm' l r n) : I_ c' mc' mm' := by
  have gk : ∀ k, k < 14 → mc' k = mc k := fun k hk => funext fun j => hc k j (by omega) (fun z => by have := z.1; unfold bx at this; omega)
  have hk : ∀ k, 1 ≤ k → k < 8 → mm' k = mm k := fun k h1 h2 => funext fun j => hm k j h1 (by omega) (fun z => by have := z.1; omega)
  refine ⟨fun y hy => ?_, fun j hj => ?_, fun y hy => ?_, fun l' e hl' he => ?_, fun l' y p q g1 g2 g3 g4 => ?_, fun l' r' n' g1 g2 g3 => ?_⟩
  · rw [x_pl (mc := mc) (mm := mm) (gk 1 (by decide)) (gk 2 (by decide)) (hk 1 (by decide) (by decide)) (hk 2 (by decide) (by decide)) (hk 3 (by decide) (by decide)) (hk 4 (by decide) (by decide))]
    exact h.1 y hy
  · rw [x_wi (mc := mc) (mm := mm) (gk 4 (by decide)) (gk 5 (by decide)) (hk 4 (by decide) (by decide)) (hk 5 (by decide) (by decide))]
    exact h.2.1 j hj
  · rw [x_ct (hk 4 (by decide) (by decide))]; exact h.2.2.1 y hy
  · rw [x_he (mc := mc) (mm := mm) (fun k a b => gk k (by omega)) (hk 6 (by decide) (by decide)) (hk 7 (by decide) (by decide)) hl']
    exact h.2.2.2.1 l' e hl' he
  · rw [x_ih (mm := mm) (hk 4 (by decide) (by decide)) (hk 6 (by decide) (by decide)) (hk 7 (by decide) (by decide))]
    exact h.2.2.2.2.1 l' y p q g1 g2 g3 g4
  · by_cases hs : l' = l ∧ r' = r ∧ n' = n
    · obtain ⟨rfl, rfl, rfl⟩ := hs; exact ⟨hd, hi⟩
    obtain ⟨e1, e2⟩ := h.2.2.2.2.2 l' r' n' g1 g2 g3
    have hix := ix_ne (l := l) (r := r) (n := n) (l' := l') (r' := r') (n' := n') hl g1 hn g3 hs
    have cm : ∀ f, 1 ≤ f → f ≤ 10 → f ≠ 8 → mc' (bx l' r' + f) n' = mc (bx l' r' + f) n' := fun f h1 h2 h8 => hc _ _ (by unfold bx; omega) (fun z => by
      obtain ⟨z1, z2, z3, z4⟩ := z
      by_cases hb : l' = l ∧ r' = r
      · obtain ⟨rfl, rfl⟩ := hb
        exact hs ⟨rfl, rfl, z4 (by omega)⟩
      · unfold bx at z1 z2; omega)
    have cl : ∀ k, k < 10 → mc' (bx l' r' + 8) (10 * n' + k) = mc (bx l' r' + 8) (10 * n' + k) := fun k hk => hc _ _ (by unfold bx; omega) (fun z => by
      obtain ⟨z1, z2, z3, z4⟩ := z
      by_cases hb : l' = l ∧ r' = r
      · obtain ⟨rfl, rfl⟩ := hb
        have := z3 rfl
        exact hs ⟨rfl, rfl, by omega⟩
      · unfold bx at z1 z2; omega)
    have mM : ∀ f, 8 ≤ f → f ≤ 17 → f ≠ 15 → mm' f (ix l' r' n') = mm f (ix l' r' n') := fun f h1 h2 h8 => hm _ _ (by omega) h2 (fun z => hix (z.2.2 h8))
    have mL : ∀ k, k < 10 → mm' 15 (10 * ix l' r' n' + k) = mm 15 (10 * ix l' r' n' + k) := fun k hk => hm _ _ (by decide) (by decide) (fun z => by have := z.2.1 rfl; omega)
    refine ⟨?_, ?_⟩
    · obtain ⟨a1, a2, a3, a4, a5, a6, a7, a8, a9, a10⟩ := e1
      unfold rd_
      rw [cm 1 (by decide) (by decide) (by decide), cm 2 (by decide) (by decide) (by decide), cm 3 (by decide) (by decide) (by decide), cm 4 (by decide) (by decide) (by decide), cm 5 (by decide) (by decide) (by decide), cm 6 (by decide) (by decide) (by decide), cm 7 (by decide) (by decide) (by decide), cm 9 (by decide) (by decide) (by decide), cm 10 (by decide) (by decide) (by decide), mM 8 (by decide) (by decide) (by decide), mM 9 (by decide) (by decide) (by decide), mM 10 (by decide) (by decide) (by decide), mM 11 (by decide) (by decide) (by decide), mM 12 (by decide) (by decide) (by decide), mM 13 (by decide) (by decide) (by decide), mM 14 (by decide) (by decide) (by decide), mM 16 (by decide) (by decide) (by decide), mM 17 (by decide) (by decide) (by decide)]
      exact ⟨a1, a2, a3, a4, a5, a6, a7, fun k hk => by rw [cl k hk, mL k hk]; exact a8 k hk, a9, a10⟩
    · obtain ⟨⟨s, t, b1, b2, b3, b4⟩, b5, b6, b7, b8, b9, ⟨k, k1, k2, k3⟩, b10, b11⟩ := e2
      unfold iv_
      rw [mM 8 (by decide) (by decide) (by decide), mM 9 (by decide) (by decide) (by decide), mM 10 (by decide) (by decide) (by decide), mM 11 (by decide) (by decide) (by decide), mM 12 (by decide) (by decide) (by decide), mM 13 (by decide) (by decide) (by decide), mM 14 (by decide) (by decide) (by decide), mM 16 (by decide) (by decide) (by decide), mM 17 (by decide) (by decide) (by decide)]
      exact ⟨⟨s, t, b1, b2, b3, by omega⟩, b5, b6, b7, b8, b9, ⟨k, k1, k2, fun j hj => by rw [mL j (by omega)]; exact k3 j hj⟩, b10, b11⟩
/-- the marks of a description alone change: cells 9 and 10 -/
theorem I_marks {c : Nat} {mc mm : jz_M} (h : I_ c mc mm) {l r n d a : Nat} (hl : l < 2) (hr : r < 6) (hn : n < 42) (hd : d < 64) (ha : a < 64) (h0 : mm 8 (ix l r n) = 0 → d = 0) : I_ c (jz_up (jz_up mc (bx l r + 9) n (nI d)) (bx l r + 10) n (nI a)) (jz_up (jz_up mm 16 (ix l r n) (nI d)) 17 (ix l r n) (nI a)) := by
  obtain ⟨e1, e2⟩ := h.2.2.2.2.2 l r n hl hr hn
  have ck : ∀ k, k ≠ bx l r + 9 → k ≠ bx l r + 10 → jz_up (jz_up mc (bx l r + 9) n (nI d)) (bx l r + 10) n (nI a) k = mc k := fun k h1 h2 => by rw [jz_up_k h2, jz_up_k h1]
  have mk : ∀ k, k ≠ 16 → k ≠ 17 → jz_up (jz_up mm 16 (ix l r n) (nI d)) 17 (ix l r n) (nI a) k = mm k := fun k h1 h2 => by rw [jz_up_k h2, jz_up_k h1]
  refine I_desc h (Nat.le_refl _) hl hr hn (fun k j hk hz => ?_) (fun k j h1 h2 hz => ?_) ?_ ?_
  · by_cases h9 : k = bx l r + 9
    · subst h9
      rw [jz_up_k (by omega), pz_up, if_neg (fun z => hz ⟨by omega, by omega, fun q => by omega, fun _ => z.2⟩)]
    by_cases h10 : k = bx l r + 10
    · subst h10
      rw [pz_up, if_neg (fun z => hz ⟨by omega, by omega, fun q => by omega, fun _ => z.2⟩), jz_up_k (by omega)]
    rw [ck k h9 h10]
  · by_cases h9 : k = 16
    · subst h9
      rw [jz_up_k (by omega), pz_up, if_neg (fun z => hz ⟨by omega, fun q => by omega, fun _ => z.2⟩)]
    by_cases h10 : k = 17
    · subst h10
      rw [pz_up, if_neg (fun z => hz ⟨by omega, fun q => by omega, fun _ => z.2⟩), jz_up_k (by omega)]
    rw [mk k h9 h10]
  · obtain ⟨a1, a2, a3, a4, a5, a6, a7, a8, a9, a10⟩ := e1
    unfold rd_
    rw [ck _ (by omega) (by omega), ck _ (by omega) (by omega), ck _ (by omega) (by omega), ck _ (by omega) (by omega), ck _ (by omega) (by omega), ck _ (by omega) (by omega), ck _ (by omega) (by omega), ck _ (by omega) (by omega), mk 8 (by decide) (by decide), mk 9 (by decide) (by decide), mk 10 (by decide) (by decide), mk 11 (by decide) (by decide), mk 12 (by decide) (by decide), mk 13 (by decide) (by decide), mk 14 (by decide) (by decide), mk 15 (by decide) (by decide)]
    refine ⟨a1, a2, a3, a4, a5, a6, a7, a8, ?_, ?_⟩
    · rw [jz_up_k (by omega), pz_up_s, jz_up_k (by decide), pz_up_s]
    · rw [pz_up_s, pz_up_s]
  · obtain ⟨b1, b5, b6, b7, b8, b9, bk, b10, b11⟩ := e2
    unfold iv_
    rw [mk 8 (by decide) (by decide), mk 9 (by decide) (by decide), mk 10 (by decide) (by decide), mk 11 (by decide) (by decide), mk 12 (by decide) (by decide), mk 13 (by decide) (by decide), mk 14 (by decide) (by decide), mk 15 (by decide) (by decide), jz_up_k (show 16 ≠ 17 by decide), pz_up_s, pz_up_s]
    refine ⟨b1, b5, fun z => ⟨(b6 z).1, by rw [h0 z]; rfl⟩, b7, b8, b9, bk, ⟨d, hd, rfl⟩, ⟨a, ha, rfl⟩⟩
