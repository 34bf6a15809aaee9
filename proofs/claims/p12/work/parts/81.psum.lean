/-! summary -/
theorem q_hs {l r n s : Nat} {mc : jz_M} (hn : n < 42) (hs : s < 2 ^ 31) (e : mc (bx l r + 1) n = nI s) : f_Ba_has (bx l r) (nI n) mc = some (b1 (decide (s ≠ 0))) := by
  unfold f_Ba_has
  rw [pz_ix hn (by decide)]
  simp only [Option.bind_some, e, n_le0 hs]
  by_cases h : s = 0
  · simp [h]
  · simp [h]
theorem sum_in {c l q r x : Nat} (hc : c ≤ 200000) (hl : l < 2) (hq : q < 6) (hr : r < 6) (hx : x < 6) (a4 v : Int32) : ∀ (g n fu fu' : Nat) (mc mm : jz_M), n + g = 42 → g < fu → g < fu' → I_ c mc mm → ∃ mc' mm' : jz_M, f_Ba_compareWithSummary_2 fu (bx l x) (bx l r) (nI q) (nI n) mc = some mc' ∧ (∀ k73, f_Mo_summary_108 k73 fu' (nI r) (nI q) (nI (l + 1)) a4 v (nI x) (nI n) mm = k73 (nI r) (nI q) (nI (l + 1)) a4 v (nI (x + 1)) mm') ∧ I_ c mc' mm' ∧ ∀ k, k ≠ 16 → k ≠ 17 → mm' k = mm k := by
  intro g
  induction g with
  | zero =>
    intro n fu fu' mc mm h1 h2 h3 hI
    obtain ⟨fu, rfl⟩ : ∃ k, fu = k + 1 := ⟨fu - 1, by omega⟩
    obtain ⟨fu', rfl⟩ : ∃ k, fu' = k + 1 := ⟨fu' - 1, by omega⟩
    exact ⟨mc, mm, by rw [f_Ba_compareWithSummary_2, if_pos (py42 (by omega) (by omega))], fun k73 => by rw [f_Mo_summary_108, if_pos (py42 (by omega) (by omega)), pz_n, nI_1], hI, fun _ _ _ => rfl⟩
  | succ g ih =>
    intro n fu fu' mc mm h1 h2 h3 hI
    obtain ⟨fu, rfl⟩ : ∃ k, fu = k + 1 := ⟨fu - 1, by omega⟩
    obtain ⟨fu', rfl⟩ : ∃ k, fu' = k + 1 := ⟨fu' - 1, by omega⟩
    have hn : n < 42 := by omega
    obtain ⟨s, f, d, a, hs, hf, hd, ha, e1, e2, e3, e4, g1, g2, g3, g4, hs0⟩ := I_sl hI hl hx hn
    obtain ⟨t, _, _, _, ht, _, _, _, j1, _, _, _, k1, _, _, _, _⟩ := I_sl hI hl hr hn
    rw [f_Ba_compareWithSummary_2, if_neg (pn42 hn), pz_b (q_hs hn (by omega) k1), b1_0]
    have u : ∀ k73, f_Mo_summary_108 k73 (fu' + 1) (nI r) (nI q) (nI (l + 1)) a4 v (nI x) (nI n) mm = if t = 0 then (if s = 0 then f_Mo_summary_108 k73 fu' (nI r) (nI q) (nI (l + 1)) a4 v (nI x) (nI (n + 1)) mm else if f = 0 then f_Mo_summary_108 k73 fu' (nI r) (nI q) (nI (l + 1)) a4 v (nI x) (nI (n + 1)) mm else f_Mo_summary_108 k73 fu' (nI r) (nI q) (nI (l + 1)) a4 v (nI x) (nI (n + 1)) (jz_up mm 16 (ix l x n) (nI (or_ d q)))) else (f_Mo_told (nI x) (nI r) (nI q) (nI (l + 1)) (nI n) mm).bind (fun m9 => f_Mo_summary_108 k73 fu' (nI r) (nI q) (nI (l + 1)) a4 v (nI x) (nI (n + 1)) m9) := fun k73 => by
      rw [f_Mo_summary_108, if_neg (pn42 hn), pz_b (q_mat mm), pz_b (q_mat mm)]
      simp only [pz_n, nI_1, pz_ix (ix_lt hl hx hn) (show 504 < 2 ^ 31 by decide), pz_ix (ix_lt hl hr hn) (show 504 < 2 ^ 31 by decide), Option.bind_some, e1, e2, e3, j1, bt_or hd hq, n_le0 (show s < 2 ^ 31 by omega), n_le0 (show t < 2 ^ 31 by omega), n_le0 (show f < 2 ^ 31 by omega)]
    unfold f_Ba_setDue
    simp only [pz_n, nI_1, q_al (c := c) (mm := mm) hn hf g2, pz_ix hn (show 42 < 2 ^ 31 by decide), Option.bind_some, b1_0, i10, g3, bt_or hd hq, decide_eq_true_eq]
    by_cases ht0 : t = 0
    · rw [if_neg (fun z => z ht0)]
      by_cases hf0 : f = 0
      · rw [if_neg (fun z => z hf0)]
        obtain ⟨c2, m2, f1, f2, f3, f4⟩ := ih (n + 1) fu fu' mc mm (by omega) (by omega) (by omega) hI
        exact ⟨c2, m2, f1, fun k73 => by rw [u, if_pos ht0, if_pos hf0, ite_self]; exact f2 k73, f3, f4⟩
      · have hsn : ¬ s = 0 := fun z => hf0 (hs0 z).1
        rw [if_pos hf0]
        obtain ⟨c2, m2, f1, f2, f3, f4⟩ := ih (n + 1) fu fu' _ _ (by omega) (by omega) (by omega) (I_due hI hl hx hn (bt_orl hd hq) (fun z => absurd ((nI_eq (a := s) (b := 0) (by omega) (by decide)).mp (e1.symm.trans (z.trans nI_0.symm))) hsn))
        exact ⟨c2, m2, f1, fun k73 => by rw [u, if_pos ht0, if_neg hsn, if_neg hf0]; exact f2 k73, f3, fun k a b => (f4 k a b).trans (jz_up_k a)⟩
    · rw [if_pos ht0]
      obtain ⟨c1, m1, p1, p2, p3, p4⟩ := told_ hI hc hl hx hr hq hn
      obtain ⟨c2, m2, f1, f2, f3, f4⟩ := ih (n + 1) fu fu' c1 m1 (by omega) (by omega) (by omega) p3
      rw [pz_b p1]
      exact ⟨c2, m2, f1, fun k73 => by rw [u, if_neg ht0, pz_b p2]; exact f2 k73, f3, fun k a b => (f4 k a b).trans (p4 k a b)⟩
/-- how many descriptions a base has -/
def o_nb (m : jz_M) (l r g i : Nat) (v : Int32) : Int32 := pz_fo (fun n v => if m 8 (ix l r n) ≤ 0 then v else v + 1) g i v
theorem q_nb {c l r : Nat} {mc mm : jz_M} (hI : I_ c mc mm) (hl : l < 2) (hr : r < 6) : ∀ (g n fu : Nat) (v : Int32), n + g = 42 → g < fu → f_Ba_count_4 mc fu (bx l r) v (nI n) = some (o_nb mm l r g n v) := by
  intro g
  induction g with
  | zero =>
    intro n fu v h1 h2
    obtain ⟨fu, rfl⟩ : ∃ k, fu = k + 1 := ⟨fu - 1, by omega⟩
    rw [f_Ba_count_4, if_pos (py42 (by omega) (by omega))]; rfl
  | succ g ih =>
    intro n fu v h1 h2
    obtain ⟨fu, rfl⟩ : ∃ k, fu = k + 1 := ⟨fu - 1, by omega⟩
    have hn : n < 42 := by omega
    have e := (hI.2.2.2.2.2 l r n hl hr hn).1.1
    rw [f_Ba_count_4, if_neg (pn42 hn)]
    unfold f_Ba_has o_nb
    rw [pz_fo]
    simp only [pz_n, nI_1, pz_ix hn (show 42 < 2 ^ 31 by decide), Option.bind_some, e]
    by_cases h : mm 8 (ix l r n) ≤ 0
    · simp only [if_pos h, Option.bind_some, if_true]; exact ih (n + 1) fu v (by omega) (by omega)
    · simp only [if_neg h, Option.bind_some, i10]; exact ih (n + 1) fu (v + 1) (by omega) (by omega)
theorem q_mnb {l r : Nat} (mm : jz_M) (hl : l < 2) (hr : r < 6) (a2 a4 : Int32) : ∀ (g n fu : Nat) (v : Int32), n + g = 42 → g < fu → f_Mo_summary_32 fu (nI r) a2 (nI (l + 1)) a4 v (nI n) mm = f_Mo_summary_73 1000000 (nI r) a2 (nI (l + 1)) a4 (o_nb mm l r g n v) 0 mm := by
  intro g
  induction g with
  | zero =>
    intro n fu v h1 h2
    obtain ⟨fu, rfl⟩ : ∃ k, fu = k + 1 := ⟨fu - 1, by omega⟩
    rw [f_Mo_summary_32, if_pos (py42 (by omega) (by omega))]; rfl
  | succ g ih =>
    intro n fu v h1 h2
    obtain ⟨fu, rfl⟩ : ∃ k, fu = k + 1 := ⟨fu - 1, by omega⟩
    have hn : n < 42 := by omega
    rw [f_Mo_summary_32, if_neg (pn42 hn), pz_b (q_mat mm)]
    unfold o_nb
    rw [pz_fo]
    simp only [pz_n, nI_1, pz_ix (ix_lt hl hr hn) (show 504 < 2 ^ 31 by decide), Option.bind_some, Int32.add_zero]
    by_cases h : mm 8 (ix l r n) ≤ 0
    · simp only [if_pos h]; exact ih (n + 1) fu v (by omega) (by omega)
    · simp only [if_neg h]; exact ih (n + 1) fu (v + 1) (by omega) (by omega)
theorem x_nb {mm mm' : jz_M} (h : mm' 8 = mm 8) : o_nb mm' = o_nb mm := by funext l r g i v; unfold o_nb; rw [h]
theorem sum_out {c l q r : Nat} (hc : c ≤ 200000) (hl : l < 2) (hq : q < 6) (hr : r < 6) (a4 v : Int32) : ∀ (g i fu fu' : Nat) (mc mm : jz_M), i + g = 6 → g < fu → g < fu' → I_ c mc mm → v = o_nb mm l r 42 0 0 → ∃ mc' mm' : jz_M, f_AR_summary_23 fu (nI r) (nI q) (nI (l + 1)) a4 (bx l r) (nI i) mc = some (v, mc') ∧ f_Mo_summary_73 fu' (nI r) (nI q) (nI (l + 1)) a4 v (nI i) mm = some (v, mm') ∧ I_ c mc' mm' ∧ mm' 0 = mm 0 := by
  intro g
  induction g with
  | zero =>
    intro i fu fu' mc mm h1 h2 h3 hI hv
    obtain ⟨fu, rfl⟩ : ∃ k, fu = k + 1 := ⟨fu - 1, by omega⟩
    obtain ⟨fu', rfl⟩ : ∃ k, fu' = k + 1 := ⟨fu' - 1, by omega⟩
    refine ⟨mc, mm, ?_, by rw [f_Mo_summary_73, if_pos (py6 (by omega) (by omega))], hI, rfl⟩
    rw [f_AR_summary_23, if_pos (py6 (by omega) (by omega))]
    unfold f_Ba_count
    rw [pz_b (show f_Ba_count_4 mc 1000 (bx l r) 0 0 = some (o_nb mm l r 42 0 0) from q_nb hI hl hr 42 0 1000 0 (by decide) (by decide)), ← hv]
  | succ g ih =>
    intro i fu fu' mc mm h1 h2 h3 hI hv
    obtain ⟨fu, rfl⟩ : ∃ k, fu = k + 1 := ⟨fu - 1, by omega⟩
    obtain ⟨fu', rfl⟩ : ∃ k, fu' = k + 1 := ⟨fu' - 1, by omega⟩
    have hi : i < 6 := by omega
    rw [f_AR_summary_23, if_neg (pn6 hi), pz_b (q_re hI a4 hl hi hq hr), b1_0, pz_b (q_bs hi hl mc), f_Mo_summary_73, if_neg (pn6 hi)]
    simp only [pz_n, nI_1]
    rw [q_mre hI a4 hl hi hq hr]
    by_cases h : o_re mm a4 l i q r = true
    · obtain ⟨c1, m1, e1, e2, e3, e4⟩ := sum_in hc hl hq hr hi a4 v 42 0 1000 1000000 mc mm (by decide) (by decide) (by decide) hI
      rw [if_pos h, if_pos h]
      unfold f_Ba_compareWithSummary
      rw [show (f_Ba_compareWithSummary_2 1000 (bx l i) (bx l r) (nI q) 0 mc) = some c1 from e1]
      obtain ⟨c2, m2, f1, f2, f3, f4⟩ := ih (i + 1) fu fu' c1 m1 (by omega) (by omega) (by omega) e3 (by rw [x_nb (e4 8 (by decide) (by decide))]; exact hv)
      exact ⟨c2, m2, f1, (e2 _).trans f2, f3, f4.trans (e4 0 (by decide) (by decide))⟩
    · rw [if_neg h, if_neg h]
      exact ih (i + 1) fu fu' mc mm (by omega) (by omega) (by omega) hI hv
theorem ok_summary : sp_summary J_ := by
  intro c mc mm hc hI a1 a2 a3 a4
  unfold f_Mo_summary f_Mo_raise
  rcases bar4 hI a1 a2 a3 with ⟨r, q, l, hr, hq, hl, rfl, rfl, rfl, hon, hh, e1, e2, e3⟩ | ⟨e1, e2⟩ | ⟨e1, e2⟩ | ⟨e0, e1, e2⟩
  · obtain ⟨c3, m3, k1, k2, k3, k4⟩ := sum_out (c := 252 * c) (by omega) hl hq hr a4 _ 6 0 1000 1000000 mc (jz_up mm 0 0 0) (by decide) (by decide) (by decide) (I_thr 0 0 hI) rfl
    rw [pz_b e3, if_pos (by decide), pz_n]
    refine ⟨(_, m3), (q_mnb (jz_up mm 0 0 0) hl hr (nI q) a4 42 0 1000000 0 (by decide) (by decide)).trans k2, Or.inl ⟨(_, c3), ?_, by show m3 0 0 = 0; rw [k4]; exact pz_up_s mm 0 0 0, rfl, I_up k3⟩⟩
    unfold f_AR_summary
    rw [pz_b e1, pz_b e2, pz_b (q_bs hr hl mc)]
    exact k1
  · rw [pz_b e2, if_neg (by decide)]
    exact ⟨(0, jz_up mm 0 0 1), rfl, Or.inr (Or.inl ⟨e1, pz_up_s mm 0 0 1, I_up (I_thr 0 1 hI)⟩)⟩
  · rw [pz_b e2, if_neg (by decide)]
    exact ⟨(0, jz_up mm 0 0 2), rfl, Or.inr (Or.inr (Or.inl ⟨e1, pz_up_s mm 0 0 2, I_up (I_thr 0 2 hI)⟩))⟩
  · rw [pz_b e2, if_neg (by decide)]
    exact ⟨(0, jz_up mm 0 0 3), rfl, Or.inr (Or.inr (Or.inr ⟨e0, e1, pz_up_s mm 0 0 3, I_up (I_thr 0 3 hI)⟩))⟩
