/-! is it still true; describe -/
theorem q_st40 {o0 n k : Nat} {m : jz_M} (hn : n < 42) (hk : k ≤ 10) (e0 : m 146 0 = nI k) : ∀ (g i fu : Nat), i + g = k → g < fu → ((∀ j, i ≤ j → j < k → m (o0 + 8) (10 * n + j) = m 147 j) → f_Ba_isStillTrue_40 m fu o0 (nI n) (nI i) = some 1) ∧ ((∃ j, i ≤ j ∧ j < k ∧ ¬ m (o0 + 8) (10 * n + j) = m 147 j) → f_Ba_isStillTrue_40 m fu o0 (nI n) (nI i) = some 0) := by
  intro g
  induction g with
  | zero =>
    intro i fu h1 h2
    obtain ⟨fu, rfl⟩ : ∃ k, fu = k + 1 := ⟨fu - 1, by omega⟩
    rw [f_Ba_isStillTrue_40, e0, if_pos (nI_le (by omega) (by omega))]
    exact ⟨fun _ => rfl, fun ⟨j, a, b, _⟩ => by omega⟩
  | succ g ih =>
    intro i fu h1 h2
    obtain ⟨fu, rfl⟩ : ∃ k, fu = k + 1 := ⟨fu - 1, by omega⟩
    obtain ⟨j1, j2⟩ := ih (i + 1) fu (by omega) (by omega)
    have e : f_Ba_isStillTrue_40 m (fu + 1) o0 (nI n) (nI i) = if m (o0 + 8) (10 * n + i) = m 147 i then f_Ba_isStillTrue_40 m fu o0 (nI n) (nI (i + 1)) else some 0 := by
      rw [f_Ba_isStillTrue_40, e0, if_neg (pn_k (by omega) (by omega))]
      unfold f_Ba_linkOf
      rw [nI_m10, pz_ix (show 10 * n + i < 420 by omega) (by decide)]
      simp only [Option.bind_some, pz_n, nI_1, pz_ix (show i < 10 by omega) (show 10 < 2 ^ 31 by decide)]
    rw [e]
    refine ⟨fun h => ?_, fun ⟨j, a, b, d⟩ => ?_⟩
    · rw [if_pos (h i (Nat.le_refl _) (by omega))]
      exact j1 (fun j a b => h j (by omega) b)
    · by_cases h : m (o0 + 8) (10 * n + i) = m 147 i
      · rw [if_pos h]
        refine j2 ⟨j, ?_, b, d⟩
        rcases Nat.lt_or_ge i j with z | z
        · exact z
        · exact absurd (show m (o0 + 8) (10 * n + j) = m 147 j by rw [show j = i by omega]; exact h) d
      · rw [if_neg h]
theorem q_sl21 {i k : Nat} {m : jz_M} (hi : i < 504) (hk : k ≤ 10) (e0 : m 0 1 = nI k) : ∀ (g j fu : Nat), j + g = k → g < fu → f_Mo_sameLinks_21 m fu (nI i) 0 (nI j) = some 0 ∧ ((∀ x, j ≤ x → x < k → m 15 (10 * i + x) = m 18 x) → f_Mo_sameLinks_21 m fu (nI i) 1 (nI j) = some 1) ∧ ((∃ x, j ≤ x ∧ x < k ∧ ¬ m 15 (10 * i + x) = m 18 x) → f_Mo_sameLinks_21 m fu (nI i) 1 (nI j) = some 0) := by
  intro g
  induction g with
  | zero =>
    intro j fu h1 h2
    obtain ⟨fu, rfl⟩ : ∃ k, fu = k + 1 := ⟨fu - 1, by omega⟩
    rw [f_Mo_sameLinks_21, f_Mo_sameLinks_21, e0]
    simp only [if_pos (nI_le (show k ≤ j by omega) (by omega)), bo_0, bo_1, Option.bind_some]
    exact ⟨trivial, fun _ => trivial, fun ⟨j, a, b, _⟩ => by omega⟩
  | succ g ih =>
    intro j fu h1 h2
    obtain ⟨fu, rfl⟩ : ∃ k, fu = k + 1 := ⟨fu - 1, by omega⟩
    obtain ⟨j0, j1, j2⟩ := ih (j + 1) fu (by omega) (by omega)
    have ez : f_Mo_sameLinks_21 m (fu + 1) (nI i) 0 (nI j) = some 0 := by
      rw [f_Mo_sameLinks_21, e0, if_neg (pn_k (by omega) (by omega)), if_pos rfl]; rfl
    have e : f_Mo_sameLinks_21 m (fu + 1) (nI i) 1 (nI j) = if m 15 (10 * i + j) = m 18 j then f_Mo_sameLinks_21 m fu (nI i) 1 (nI (j + 1)) else some 0 := by
      rw [f_Mo_sameLinks_21, e0, if_neg (pn_k (by omega) (by omega)), i10, nI_10m, pz_b (pz_ix (show 10 * i + j < 5040 by omega) (by decide)), pz_b (pz_ix (show j < 10 by omega) (by decide))]
      simp only [pz_n, nI_1, j0]
      by_cases h : m 15 (10 * i + j) = m 18 j
      · rw [if_neg (fun z => z h), if_pos h]
      · rw [if_pos h, if_neg h]
    refine ⟨ez, ?_⟩
    rw [e]
    refine ⟨fun h => ?_, fun ⟨x, a, b, d⟩ => ?_⟩
    · rw [if_pos (h j (Nat.le_refl _) (by omega))]
      exact j1 (fun x a b => h x (by omega) b)
    · by_cases h : m 15 (10 * i + j) = m 18 j
      · rw [if_pos h]
        refine j2 ⟨x, ?_, b, d⟩
        rcases Nat.lt_or_ge j x with z | z
        · exact z
        · exact absurd (show m 15 (10 * i + x) = m 18 x by rw [show x = j by omega]; exact h) d
      · rw [if_neg h]
theorem n_le5 {f : Nat} (h : f ≤ 20) : (nI f ≤ 5) = (f ≤ 5) := propext (nI_leI (b := 5) (by omega) (by decide))
/-- a part is brought up to date -/
theorem part_ {b l r p : Nat} {mc mm : jz_M} (hI : I_ b mc mm) (hb : b ≤ 200000) (hl : l < 2) (hr : r < 6) (hp : p < 7) : ∃ (v : Int32) (mc' mm' : jz_M), f_AR_bringUpToDate (nI r) (nI (l + 1)) (nI p) mc = some (v, mc') ∧ f_Mo_part (nI r) (nI (l + 1)) (nI p) mm = some (v, mm') ∧ I_ (b + 1) mc' mm' ∧ KP_ mm mm' ∧ (v = 0 ∨ v = 1) := by
  obtain ⟨v, k, c1, m1, d1, d2, d3, d4, d5, d6⟩ := dp_ hI hl hr hp
  have hI1 : I_ b c1 m1 := I_ext d4 d5 hI
  have K1 : KP_ mm m1 := ⟨fun q h1 h2 => d5 q h1 (by omega), d6⟩
  unfold f_AR_bringUpToDate f_AR_nameOf f_Mo_part f_Mo_part_70 f_Mo_part_75
  have hn : 7 * r + p < 42 := by omega
  simp only [q_bs hr hl, n7, nI_add, q_mat, d1, d2, Option.bind_some, pz_ix (ix_lt hl hr hn) (show 504 < 2 ^ 31 by decide), q_cs hr, I_cs hI1 hr]
  obtain ⟨s, f, d, a, hs, hf, hd, ha, e1, e2, e3, e4, g1, g2, g3, g4, hs0⟩ := I_sl hI1 hl hr hn
  rw [e1, e2]
  simp only [n_eq0 (show s < 2 ^ 31 by omega), n_eq0 (show f < 2 ^ 31 by omega), q_al (c := b) (mm := m1) hn hf g2, Option.bind_some]
  rcases d3 with rfl | ⟨rfl, hD, hk, ha1, he1⟩
  · simp only [if_true]
    by_cases hf0 : f = 0
    · have : ∃ (v : Int32) (mc' mm' : jz_M), some ((0 : Int32), c1) = some (v, mc') ∧ some ((0 : Int32), m1) = some (v, mm') ∧ I_ (b + 1) mc' mm' ∧ KP_ mm mm' ∧ (v = 0 ∨ v = 1) := ⟨0, c1, m1, rfl, rfl, I_mono hI1, K1, Or.inl rfl⟩
      simpa [hf0] using this
    · have hs1 : s ≠ 0 := fun z => hf0 (hs0 z).1
      obtain ⟨c2, m2, f1, f2, f3, f4, _⟩ := I_end hI1 hl hr hn (by rw [e1]; exact fun z => hs1 ((nI_eq (b := 0) (by omega) (by decide)).mp z))
      simp only [hf0, hs1, decide_true, ne_eq, not_false_eq_true, if_true, if_false, f1, f2, Option.bind_some, b1, if_neg (show ¬ (1 : Int32) = 0 by decide)]
      exact ⟨1, c2, m2, rfl, rfl, I_mono f3, KP_t K1 f4, Or.inr rfl⟩
  · simp only [i10]
    have hve : v_ex mm l r p = v_ex m1 l r p := (x_ex (d5 1 (by decide) (by decide)) (d5 2 (by decide) (by decide)) (d5 6 (by decide) (by decide)) (d5 7 (by decide) (by decide)) l r p).symm
    obtain ⟨c2, m2, f1, f2, f3, f4, _⟩ := I_renew hI1 hb hl hr hp hk hD (ha1.trans (congrFun (d5 1 (by decide) (by decide)) r).symm) (he1.trans hve)
    simp only [f1, f2, Option.bind_some, bo_1, bo_0, i10, if_true]
    have stale : ∃ (v : Int32) (mc' mm' : jz_M), some ((1 : Int32), c2) = some (v, mc') ∧ some ((1 : Int32), m2) = some (v, mm') ∧ I_ (b + 1) mc' mm' ∧ KP_ mm mm' ∧ (v = 0 ∨ v = 1) := ⟨1, c2, m2, rfl, rfl, f3, KP_t K1 f4, Or.inr rfl⟩
    have fresh : ∃ (v : Int32) (mc' mm' : jz_M), some ((0 : Int32), c1) = some (v, mc') ∧ some ((0 : Int32), m1) = some (v, mm') ∧ I_ (b + 1) mc' mm' ∧ KP_ mm mm' ∧ (v = 0 ∨ v = 1) := ⟨0, c1, m1, rfl, rfl, I_mono hI1, K1, Or.inl rfl⟩
    obtain ⟨⟨a1, a2, a3, a4, a5, a6, a7, a8, a9, a10⟩, _⟩ := hI1.2.2.2.2.2 l r (7 * r + p) hl hr hn
    unfold f_Ba_isStillTrue f_Mo_sameLinks f_Mo_sameLinks_18
    simp only [pz_ix hn (show 42 < 2 ^ 31 by decide), pz_ix (ix_lt hl hr hn) (show 504 < 2 ^ 31 by decide), Option.bind_some, g2, n_le5 hf, q_exi hl hr hp]
    by_cases hf5 : f ≤ 5
    · simp only [if_pos hf5, Option.bind_some, if_true, ite_self]
      exact stale
    have hs1 : s ≠ 0 := fun z => hf5 (by rw [(hs0 z).1]; decide)
    simp only [if_neg hf5, if_neg hs1]
    rw [a5, he1, hve, a7 (by rw [e1]; exact fun z => hs1 ((nI_eq (b := 0) (by omega) (by decide)).mp z)), hD.1, hD.2.1]
    obtain ⟨t1, t2⟩ := q_st40 (o0 := bx l r) (n := 7 * r + p) (m := c1) hn hk hD.1 k 0 1000 (by omega) (by omega)
    obtain ⟨u0, u1, u2⟩ := q_sl21 (m := m1) (i := ix l r (7 * r + p)) (ix_lt hl hr hn) hk hD.2.1 k 0 1000000 (by omega) (by omega)
    rw [show f_Mo_sameLinks_21 m1 1000000 (nI (ix l r (7 * r + p))) 0 0 = some 0 from u0]
    by_cases hx : m1 12 (ix l r (7 * r + p)) = v_ex m1 l r p
    · simp only [if_neg (fun z => z hx : ¬ ¬ m1 12 (ix l r (7 * r + p)) = v_ex m1 l r p), if_pos hx]
      by_cases hm : m1 14 (ix l r (7 * r + p)) = nI k
      · simp only [if_neg (fun z => z hm : ¬ ¬ m1 14 (ix l r (7 * r + p)) = nI k), if_pos hm]
        by_cases hL : ∀ j, j < k → m1 15 (10 * ix l r (7 * r + p) + j) = m1 18 j
        · rw [show f_Mo_sameLinks_21 m1 1000000 (nI (ix l r (7 * r + p))) 1 0 = some 1 from u1 (fun x _ h => hL x h)]
          rw [show f_Ba_isStillTrue_40 c1 1000 (bx l r) (nI (7 * r + p)) 0 = some 1 from t1 (fun x _ h => by rw [a8 x (by omega), (hD.2.2 x h).1]; exact hL x h)]
          exact fresh
        · have hE : ∃ x, 0 ≤ x ∧ x < k ∧ ¬ m1 15 (10 * ix l r (7 * r + p) + x) = m1 18 x := Classical.byContradiction fun z => hL (fun j hj => Classical.byContradiction fun y => z ⟨j, Nat.zero_le _, hj, y⟩)
          rw [show f_Mo_sameLinks_21 m1 1000000 (nI (ix l r (7 * r + p))) 1 0 = some 0 from u2 hE]
          obtain ⟨x, x1, x2, x3⟩ := hE
          rw [show f_Ba_isStillTrue_40 c1 1000 (bx l r) (nI (7 * r + p)) 0 = some 0 from t2 ⟨x, x1, x2, by rw [a8 x (by omega), (hD.2.2 x x2).1]; exact x3⟩]
          exact stale
      · simp only [if_pos hm, if_neg hm]
        exact stale
    · simp only [if_pos hx, if_neg hx, Option.bind_some, if_true, ite_self]
      by_cases hm : m1 14 (ix l r (7 * r + p)) = nI k
      · simp only [if_neg (fun z => z hm : ¬ ¬ m1 14 (ix l r (7 * r + p)) = nI k)]
        by_cases hL : ∀ j, j < k → m1 15 (10 * ix l r (7 * r + p) + j) = m1 18 j
        · rw [show f_Mo_sameLinks_21 m1 1000000 (nI (ix l r (7 * r + p))) 1 0 = some 1 from u1 (fun x _ h => hL x h)]
          exact stale
        · have hE : ∃ x, 0 ≤ x ∧ x < k ∧ ¬ m1 15 (10 * ix l r (7 * r + p) + x) = m1 18 x := Classical.byContradiction fun z => hL (fun j hj => Classical.byContradiction fun y => z ⟨j, Nat.zero_le _, hj, y⟩)
          rw [show f_Mo_sameLinks_21 m1 1000000 (nI (ix l r (7 * r + p))) 1 0 = some 0 from u2 hE]
          exact stale
      · simp only [if_pos hm]
        exact stale
theorem py7 {i : Nat} (h : 7 ≤ i) (h2 : i < 2 ^ 31) : (7 : Int32) ≤ nI i := nI_le h h2
theorem pn7 {i : Nat} (h : i < 7) : ¬ (7 : Int32) ≤ nI i := nI_ge h (by decide)
theorem x_hl {m m' : jz_M} (h : m' 2 = m 2) (r l : Nat) : o_hl m' r l = o_hl m r l := by unfold o_hl; rw [h]
theorem desc_in {l r : Nat} (hl : l < 2) (hr : r < 6) : ∀ (g i fu fu' b : Nat) (x : Int32) (mc mm : jz_M), i + g = 7 → g < fu → g < fu' → b + g ≤ 200000 → I_ b mc mm → o_hl mm r l = true → ∃ (w : Int32) (mc' mm' : jz_M), (∀ k, f_AR_describe_38 k fu (nI r) x (nI (l + 1)) (nI i) mc = k (nI r) w (nI (l + 2)) mc') ∧ (∀ k, f_Mo_describe_30 k fu' (nI r) x (nI (l + 1)) (nI i) mm = k (nI r) w (nI (l + 2)) mm') ∧ I_ (b + g) mc' mm' ∧ KP_ mm mm' := by
  intro g
  induction g with
  | zero =>
    intro i fu fu' b x mc mm h1 h2 h3 hb hI hh
    obtain ⟨fu, rfl⟩ : ∃ k, fu = k + 1 := ⟨fu - 1, by omega⟩
    obtain ⟨fu', rfl⟩ : ∃ k, fu' = k + 1 := ⟨fu' - 1, by omega⟩
    exact ⟨x, mc, mm, fun k => by rw [f_AR_describe_38, if_pos (py7 (by omega) (by omega)), pz_n, nI_1], fun k => by rw [f_Mo_describe_30, if_pos (py7 (by omega) (by omega)), pz_n, nI_1], hI, KP_r _⟩
  | succ g ih =>
    intro i fu fu' b x mc mm h1 h2 h3 hb hI hh
    obtain ⟨fu, rfl⟩ : ∃ k, fu = k + 1 := ⟨fu - 1, by omega⟩
    obtain ⟨fu', rfl⟩ : ∃ k, fu' = k + 1 := ⟨fu' - 1, by omega⟩
    have hi : i < 7 := by omega
    obtain ⟨v, c1, m1, e1, e2, e3, e4, e5⟩ := part_ hI (by omega) hl hr hi
    have hh1 : o_hl m1 r l = true := by rw [x_hl (e4.1 2 (by decide) (by decide))]; exact hh
    obtain ⟨w, c2, m2, f1, f2, f3, f4⟩ := ih (i + 1) fu fu' (b + 1) (x + v) c1 m1 (by omega) (by omega) (by omega) (by omega) e3 hh1
    have hz : x + 0 = x := Int32.add_zero x
    refine ⟨w, c2, m2, fun k => ?_, fun k => ?_, by rw [show b + (g + 1) = b + 1 + g by omega]; exact f3, KP_t e4 f4⟩
    · rw [f_AR_describe_38, if_neg (pn7 hi), pz_b e1]
      simp only [pz_n, nI_1]
      rw [← f1 k]
      rcases e5 with rfl | rfl
      · rw [if_pos rfl, hz]
      · rw [i10]
    · rw [f_Mo_describe_30, if_neg (pn7 hi), pz_b (q_has hr hl mm), b1_0, if_pos hh, pz_b e2]
      simp only [pz_n, nI_1]
      rw [← f2 k]
      rcases e5 with rfl | rfl
      · rw [if_pos rfl]
      · rw [i10]
theorem desc_out {r : Nat} (hr : r < 6) : ∀ (g i fu fu' b : Nat) (x : Int32) (mc mm : jz_M), i + g = 2 → g < fu → g < fu' → b + 7 * g ≤ 200000 → I_ b mc mm → ∃ (w : Int32) (mc' mm' : jz_M), f_AR_describe_21 fu (nI r) x (nI (i + 1)) mc = some (w, mc') ∧ f_Mo_describe_22 fu' (nI r) x (nI (i + 1)) mm = some (w, mm') ∧ I_ (b + 7 * g) mc' mm' ∧ KP_ mm mm' := by
  intro g
  induction g with
  | zero =>
    intro i fu fu' b x mc mm h1 h2 h3 hb hI
    obtain ⟨fu, rfl⟩ : ∃ k, fu = k + 1 := ⟨fu - 1, by omega⟩
    obtain ⟨fu', rfl⟩ : ∃ k, fu' = k + 1 := ⟨fu' - 1, by omega⟩
    have h2i : (2 : Int32) < nI (i + 1) := nI_lt (a := 2) (by omega) (by omega)
    exact ⟨x, mc, mm, by rw [f_AR_describe_21, if_pos h2i], by rw [f_Mo_describe_22, if_pos h2i], hI, KP_r _⟩
  | succ g ih =>
    intro i fu fu' b x mc mm h1 h2 h3 hb hI
    obtain ⟨fu, rfl⟩ : ∃ k, fu = k + 1 := ⟨fu - 1, by omega⟩
    obtain ⟨fu', rfl⟩ : ∃ k, fu' = k + 1 := ⟨fu' - 1, by omega⟩
    have hl : i < 2 := by omega
    have h2i : ¬ (2 : Int32) < nI (i + 1) := fun z => absurd ((nI_ltI (a := 2) (by decide) (by omega)).mp z) (by omega)
    rw [f_AR_describe_21, if_neg h2i, f_Mo_describe_22, if_neg h2i, pz_b (q_hl hr hl mc), b1_0, I_hl hI hr i]
    by_cases hh : o_hl mm r i = true
    · rw [if_pos hh]
      obtain ⟨w, c1, m1, f1, f2, f3, f4⟩ := desc_in hl hr 7 0 1000 1000000 b x mc mm (by decide) (by decide) (by decide) (by omega) hI hh
      obtain ⟨w2, c2, m2, g1, g2, g3, g4⟩ := ih (i + 1) fu fu' (b + 7) w c1 m1 (by omega) (by omega) (by omega) (by omega) f3
      exact ⟨w2, c2, m2, (f1 _).trans g1, (f2 _).trans g2, by rw [show b + 7 * (g + 1) = b + 7 + 7 * g by omega]; exact g3, KP_t f4 g4⟩
    · rw [if_neg hh]
      obtain ⟨w2, c2, m2, g1, g2, g3, g4⟩ := ih (i + 1) fu fu' (b + 7) x mc mm (by omega) (by omega) (by omega) (by omega) (I_le (by omega) hI)
      refine ⟨w2, c2, m2, ?_, ?_, by rw [show b + 7 * (g + 1) = b + 7 + 7 * g by omega]; exact g3, g4⟩
      · simp only [pz_n, nI_1]; exact g1
      · rw [f_Mo_describe_30, if_neg (show ¬ (7 : Int32) ≤ 0 by decide), pz_b (q_has hr hl mm), b1_0, if_neg hh]
        simp only [pz_n, nI_1]; exact g2
theorem ok_describe : sp_describe J_ := by
  intro c mc mm hc hI a1
  unfold f_AR_describe f_Mo_describe fx_AR_describe f_Mo_raise
  rcases pz_rng (n := 6) (by decide) a1 with ⟨r, hr, rfl⟩ | ho
  · simp only [q_rt_in hr, q_one_in hr, Option.bind_some, n10, pz_n]
    obtain ⟨w, c2, m2, g1, g2, g3, g4⟩ := desc_out hr 2 0 1000 1000000 (252 * c) 0 mc (jz_up mm 0 0 0) (by decide) (by decide) (by decide) (by omega) (I_thr 0 0 hI)
    exact ⟨(w, m2), g2, Or.inl ⟨(w, c2), g1, by show m2 0 0 = 0; rw [g4.2]; exact pz_up_s mm 0 0 0, rfl, I_le (by omega) g3⟩⟩
  · simp only [q_rt_out ho, q_one_out ho, Option.bind_some, n00, pz_n]
    exact ⟨(0, jz_up mm 0 0 1), rfl, Or.inr ⟨rfl, pz_up_s mm 0 0 1, I_up (I_thr 0 1 hI)⟩⟩
