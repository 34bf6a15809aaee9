/-! what class and reference have in common, and what holds of the reference -/
abbrev bx (l r : Nat) : Nat := 14 + 11 * (6 * l + r)
abbrev ix (l r n : Nat) : Nat := 84 * r + 42 * l + n
abbrev ex (l r c n : Nat) : Nat := 216 * l + (36 * r + 6 * c + n)
/-- a link of a description of the name n -/
def LK (n : Nat) (v : Int32) : Prop := ∃ t w : Nat, v = nI (t + 64 * w) ∧ t < 42 ∧ w ≤ 60 ∧ (n % 7 = 0 → 1 ≤ w) ∧ (n % 7 ≠ 0 → w = 0 ∧ t % 7 = 0)
/-- a description in the class and in the reference -/
def rd_ (mc mm : jz_M) (l r n : Nat) : Prop := mc (bx l r + 1) n = mm 8 (ix l r n) ∧ mc (bx l r + 2) n = mm 9 (ix l r n) ∧ mc (bx l r + 3) n = mm 10 (ix l r n) ∧ (mm 8 (ix l r n) ≠ 0 → mm 10 (ix l r n) = 0 → mc (bx l r + 4) n = mm 11 (ix l r n)) ∧ mc (bx l r + 5) n = mm 12 (ix l r n) ∧ mc (bx l r + 6) n = mm 13 (ix l r n) ∧ (mm 8 (ix l r n) ≠ 0 → mc (bx l r + 7) n = mm 14 (ix l r n)) ∧ (∀ k, k < 10 → mc (bx l r + 8) (10 * n + k) = mm 15 (10 * ix l r n + k)) ∧ mc (bx l r + 9) n = mm 16 (ix l r n) ∧ mc (bx l r + 10) n = mm 17 (ix l r n)
/-- a description of the reference, after at most c calls -/
def iv_ (c : Nat) (mm : jz_M) (l r n : Nat) : Prop := (∃ s t : Nat, mm 8 (ix l r n) = nI s ∧ mm 9 (ix l r n) = nI t ∧ s ≤ t ∧ t ≤ c) ∧ (∃ f : Nat, f ≤ 20 ∧ mm 10 (ix l r n) = nI f) ∧ (mm 8 (ix l r n) = 0 → mm 10 (ix l r n) = 0 ∧ mm 16 (ix l r n) = 0) ∧ (mm 8 (ix l r n) ≠ 0 → mm 10 (ix l r n) = 0 → ∃ g : Nat, g ≤ 2 ∧ mm 11 (ix l r n) = nI g) ∧ (mm 12 (ix l r n) = 0 ∨ mm 12 (ix l r n) = 1) ∧ (∃ a : Nat, a ≤ 2 ∧ mm 13 (ix l r n) = nI a) ∧ (∃ k : Nat, k ≤ 10 ∧ mm 14 (ix l r n) = nI k ∧ ∀ j, j < k → LK n (mm 15 (10 * ix l r n + j))) ∧ (∃ d : Nat, d < 64 ∧ mm 16 (ix l r n) = nI d) ∧ (∃ d : Nat, d < 64 ∧ mm 17 (ix l r n) = nI d)
/-- what is heard -/
def ih_ (mm : jz_M) (l r c n : Nat) : Prop := (∃ h : Nat, h ≤ 4 ∧ mm 6 (ex l r c n) = nI h) ∧ (mm 7 (ex l r c n) = 0 ∨ mm 7 (ex l r c n) = 1) ∧ (0 < (mm 6 (ex l r c n)).toInt → r ≠ n ∧ o_on mm r c = true ∧ o_on mm n c = true)
def I_pl (mc mm : jz_M) (r : Nat) : Prop := mc 1 r = mm 1 r ∧ mc 2 r = mm 2 r ∧ (∃ a : Nat, a ≤ 2 ∧ mm 1 r = nI a) ∧ (∃ a : Nat, 1 ≤ a ∧ a ≤ 3 ∧ mm 2 r = nI a) ∧ (mm 3 r = 0 ↔ ∀ c, c < 6 → o_on mm r c = false)
def I_wi (mc mm : jz_M) (j : Nat) : Prop := mc 4 j = mm 4 j ∧ mc 5 j = mm 5 j ∧ (∃ a : Nat, a ≤ 60 ∧ mm 4 j = nI a) ∧ (∃ a : Nat, a ≤ 100 ∧ mm 5 j = nI a)
def I_he (mc mm : jz_M) (l e : Nat) : Prop := mc (8 + 3 * l) e = mm 6 (216 * l + e) ∧ mc (9 + 3 * l) e = mm 7 (216 * l + e)
def I_ (c : Nat) (mc mm : jz_M) : Prop := (∀ r, r < 6 → I_pl mc mm r) ∧ (∀ j, j < 36 → I_wi mc mm j) ∧ (∀ j, j < 6 → o_ct mm j 6 0 0 ≤ 4) ∧ (∀ l e, l < 2 → e < 216 → I_he mc mm l e) ∧ (∀ l r c n, l < 2 → r < 6 → c < 6 → n < 6 → ih_ mm l r c n) ∧ (∀ l r n, l < 2 → r < 6 → n < 42 → rd_ mc mm l r n ∧ iv_ c mm l r n)
theorem I_mono {c : Nat} {mc mm : jz_M} (h : I_ c mc mm) : I_ (c + 1) mc mm := by
  refine ⟨h.1, h.2.1, h.2.2.1, h.2.2.2.1, h.2.2.2.2.1, fun l r n h1 h2 h3 => ?_⟩
  obtain ⟨a, b⟩ := h.2.2.2.2.2 l r n h1 h2 h3
  refine ⟨a, ?_⟩
  obtain ⟨⟨s, t, e1, e2, e3, e4⟩, rest⟩ := b
  exact ⟨⟨s, t, e1, e2, e3, by omega⟩, rest⟩
theorem I_le {c c' : Nat} {mc mm : jz_M} (hc : c ≤ c') (h : I_ c mc mm) : I_ c' mc mm := by
  refine ⟨h.1, h.2.1, h.2.2.1, h.2.2.2.1, h.2.2.2.2.1, fun l r n h1 h2 h3 => ?_⟩
  obtain ⟨a, b⟩ := h.2.2.2.2.2 l r n h1 h2 h3
  refine ⟨a, ?_⟩
  obtain ⟨⟨s, t, e1, e2, e3, e4⟩, rest⟩ := b
  exact ⟨⟨s, t, e1, e2, e3, by omega⟩, rest⟩
/-- after c calls: a call renews at most 252 descriptions -/
abbrev J_ (c : Nat) (mc mm : jz_M) : Prop := I_ (252 * c) mc mm
theorem I_up {c : Nat} {mc mm : jz_M} (h : I_ (252 * c) mc mm) : I_ (252 * (c + 1)) mc mm := I_le (by omega) h
/-- what no part of it reads may change -/
theorem I_ext {c : Nat} {mc mc' mm mm' : jz_M} (hc : ∀ k, k < 146 → mc' k = mc k) (hm : ∀ k, 1 ≤ k → k ≤ 17 → mm' k = mm k) (h : I_ c mc mm) : I_ c mc' mm' := by
  have on : ∀ r q, o_on mm' r q = o_on mm r q := fun r q => by unfold o_on; rw [hm 4 (by decide) (by decide)]
  have ct : ∀ q, o_ct mm' q 6 0 0 = o_ct mm q 6 0 0 := fun q => by unfold o_ct; simp only [on]
  refine ⟨fun r hr => ?_, fun j hj => ?_, fun j hj => ?_, fun l e hl he => ?_, fun l r c n h1 h2 h3 h4 => ?_, fun l r n h1 h2 h3 => ⟨?_, ?_⟩⟩
  · have := h.1 r hr
    unfold I_pl at this ⊢
    simp only [on]
    rw [hc 1 (by decide), hc 2 (by decide), hm 1 (by decide) (by decide), hm 2 (by decide) (by decide), hm 3 (by decide) (by decide)]
    exact this
  · have := h.2.1 j hj
    unfold I_wi at this ⊢
    rw [hc 4 (by decide), hc 5 (by decide), hm 4 (by decide) (by decide), hm 5 (by decide) (by decide)]
    exact this
  · rw [ct]; exact h.2.2.1 j hj
  · have := h.2.2.2.1 l e hl he
    unfold I_he at this ⊢
    rw [hc (8 + 3 * l) (by omega), hc (9 + 3 * l) (by omega), hm 6 (by decide) (by decide), hm 7 (by decide) (by decide)]
    exact this
  · have := h.2.2.2.2.1 l r c n h1 h2 h3 h4
    unfold ih_ at this ⊢
    simp only [on]
    rw [hm 6 (by decide) (by decide), hm 7 (by decide) (by decide)]
    exact this
  · have := (h.2.2.2.2.2 l r n h1 h2 h3).1
    unfold rd_ at this ⊢
    rw [hc (bx l r + 1) (by unfold bx; omega), hc (bx l r + 2) (by unfold bx; omega), hc (bx l r + 3) (by unfold bx; omega), hc (bx l r + 4) (by unfold bx; omega), hc (bx l r + 5) (by unfold bx; omega), hc (bx l r + 6) (by unfold bx; omega), hc (bx l r + 7) (by unfold bx; omega), hc (bx l r + 8) (by unfold bx; omega), hc (bx l r + 9) (by unfold bx; omega), hc (bx l r + 10) (by unfold bx; omega)]
    rw [hm 8 (by decide) (by decide), hm 9 (by decide) (by decide), hm 10 (by decide) (by decide), hm 11 (by decide) (by decide), hm 12 (by decide) (by decide), hm 13 (by decide) (by decide), hm 14 (by decide) (by decide), hm 15 (by decide) (by decide), hm 16 (by decide) (by decide), hm 17 (by decide) (by decide)]
    exact this
  · have := (h.2.2.2.2.2 l r n h1 h2 h3).2
    unfold iv_ at this ⊢
    rw [hm 8 (by decide) (by decide), hm 9 (by decide) (by decide), hm 10 (by decide) (by decide), hm 11 (by decide) (by decide), hm 12 (by decide) (by decide), hm 13 (by decide) (by decide), hm 14 (by decide) (by decide), hm 15 (by decide) (by decide), hm 16 (by decide) (by decide), hm 17 (by decide) (by decide)]
    exact this
theorem jz_up_k {m : jz_M} {k i : Nat} {v : Int32} {q : Nat} (h : q ≠ k) : jz_up m k i v q = m q := by unfold jz_up; exact va_up_ne _ _ h
/-- the reference's note of a throw isn't read -/
theorem I_thr {c : Nat} {mc mm : jz_M} (i : Nat) (v : Int32) (h : I_ c mc mm) : I_ c mc (jz_up mm 0 i v) := I_ext (fun _ _ => rfl) (fun k h1 _ => jz_up_k (by omega)) h
theorem mM_z {k j : Nat} (h : k ≠ 2) : m0_M k j = 0 := by unfold m0_M; rw [if_neg h]
theorem mM_l {j : Nat} (h : j < 6) : m0_M 2 j = 1 := by
  unfold m0_M; rw [if_pos rfl]
  rcases (show j = 0 ∨ j = 1 ∨ j = 2 ∨ j = 3 ∨ j = 4 ∨ j = 5 by omega) with rfl | rfl | rfl | rfl | rfl | rfl <;> simp [upd]
theorem mC_z {k j : Nat} (h : k ≠ 2) : m0_C k j = 0 := by unfold m0_C; rw [if_neg (fun q => h q.1)]
theorem mC_l {j : Nat} (h : j < 6) : m0_C 2 j = 1 := by unfold m0_C; rw [if_pos ⟨rfl, h⟩]
/-- at the start it holds -/
theorem I_start : I_ 0 m0_C m0_M := by
  have on : ∀ r q, o_on m0_M r q = false := fun r q => by unfold o_on; rw [mM_z (by decide)]; rfl
  refine ⟨fun r hr => ?_, fun j hj => ?_, fun j hj => ?_, fun l e hl he => ?_, fun l r c n h1 h2 h3 h4 => ?_, fun l r n h1 h2 h3 => ⟨?_, ?_⟩⟩
  · refine ⟨by rw [mC_z (by decide), mM_z (by decide)], by rw [mC_l hr, mM_l hr], ⟨0, by decide, by rw [mM_z (by decide)]; rfl⟩, ⟨1, by decide, by decide, by rw [mM_l hr]; rfl⟩, ?_⟩
    rw [mM_z (by decide)]
    exact ⟨fun _ q _ => on r q, fun _ => rfl⟩
  · exact ⟨by rw [mC_z (by decide), mM_z (by decide)], by rw [mC_z (by decide), mM_z (by decide)], ⟨0, by decide, by rw [mM_z (by decide)]; rfl⟩, ⟨0, by decide, by rw [mM_z (by decide)]; rfl⟩⟩
  · unfold o_ct
    simp only [on]
    decide
  · exact ⟨by rw [mC_z (by omega), mM_z (by decide)], by rw [mC_z (by omega), mM_z (by decide)]⟩
  · refine ⟨⟨0, by decide, by rw [mM_z (by decide)]; rfl⟩, Or.inl (mM_z (by decide)), ?_⟩
    rw [mM_z (by decide)]
    intro h; exact absurd h (by decide)
  · refine ⟨?_, ?_, ?_, fun _ _ => ?_, ?_, ?_, fun _ => ?_, fun k _ => ?_, ?_, ?_⟩ <;> rw [mC_z (by unfold bx; omega), mM_z (by decide)]
  · refine ⟨⟨0, 0, ?_, ?_, Nat.le_refl _, Nat.le_refl _⟩, ⟨0, by decide, ?_⟩, fun _ => ⟨?_, ?_⟩, fun h => absurd ?_ h, Or.inl ?_, ⟨0, by decide, ?_⟩, ⟨0, by decide, ?_, fun j hj => absurd hj (Nat.not_lt_zero j)⟩, ⟨0, by decide, ?_⟩, ⟨0, by decide, ?_⟩⟩ <;> (rw [mM_z (by decide)]; try rfl)
