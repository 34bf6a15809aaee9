/-! spread -/
theorem sh0 : ∀ q, q < 6 → nI 0 >>> (nI q &&& 31) &&& 1 = 0 := by decide +kernel
theorem spr_in {l q r n : Nat} (hl : l < 2) (hq : q < 6) (hr : r < 6) (hn : n < 42) (a4 v : Int32) (sh : Bool) : ∀ (g i fu fu' b : Nat) (mc mm : jz_M), i + g = 6 → g < fu → g < fu' → b + g ≤ 200000 → I_ b mc mm → o_sh mm q = sh → mm 8 (ix l r n) ≠ 0 → ∃ mc' mm' : jz_M, (∀ k26, f_AR_spread_50 k26 fu (nI r) (nI q) (nI (l + 1)) a4 (bx l r) v (nI n) (nI i) mc = k26 (nI r) (nI q) (nI (l + 1)) a4 (bx l r) v (nI (n + 1)) mc') ∧ (∀ k39, f_Mo_spread_86 k39 fu' (nI r) (nI q) (nI (l + 1)) a4 v (b1 sh) (nI n) (nI (ix l r n)) (nI i) mm = k39 (nI r) (nI q) (nI (l + 1)) a4 v (b1 sh) (nI (n + 1)) mm') ∧ I_ (b + g) mc' mm' ∧ o_sh mm' q = sh ∧ mm' 0 0 = mm 0 0 := by
  intro g
  induction g with
  | zero =>
    intro i fu fu' b mc mm h1 h2 h3 hb hI hsh hs
    obtain ⟨fu, rfl⟩ : ∃ k, fu = k + 1 := ⟨fu - 1, by omega⟩
    obtain ⟨fu', rfl⟩ : ∃ k, fu' = k + 1 := ⟨fu' - 1, by omega⟩
    obtain ⟨s, f, d, a, hs1, hf, hd, ha, e1, e2, e3, e4, g1, g2, g3, g4, hs0⟩ := I_sl hI hl hr hn
    have u1 : ∀ k26, f_AR_spread_50 k26 (fu + 1) (nI r) (nI q) (nI (l + 1)) a4 (bx l r) v (nI n) (nI i) mc = if sh = true then k26 (nI r) (nI q) (nI (l + 1)) a4 (bx l r) v (nI (n + 1)) (jz_up mc (bx l r + 9) n (nI (an_ d q))) else k26 (nI r) (nI q) (nI (l + 1)) a4 (bx l r) v (nI (n + 1)) mc := fun k26 => by
      rw [f_AR_spread_50, if_pos (py6 (by omega) (by omega)), pz_b (q_sh hq mc), b1_0, I_sh hI hq, hsh]
      unfold f_Ba_setDue
      simp only [pz_n, nI_1, pz_ix hn (show 42 < 2 ^ 31 by decide), Option.bind_some, if_true, g3, bt_an hd hq]
    have u2 : ∀ k39, f_Mo_spread_86 k39 (fu' + 1) (nI r) (nI q) (nI (l + 1)) a4 v (b1 sh) (nI n) (nI (ix l r n)) (nI i) mm = if sh = true then k39 (nI r) (nI q) (nI (l + 1)) a4 v (b1 sh) (nI (n + 1)) (jz_up mm 16 (ix l r n) (nI (an_ d q))) else k39 (nI r) (nI q) (nI (l + 1)) a4 v (b1 sh) (nI (n + 1)) mm := fun k39 => by
      rw [f_Mo_spread_86, if_pos (py6 (by omega) (by omega)), b1_0]
      simp only [pz_n, nI_1, pz_ix (ix_lt hl hr hn) (show 504 < 2 ^ 31 by decide), Option.bind_some, e3, bt_an hd hq]
      rw [jz_up_id e3]
    cases sh with
    | true =>
      refine ⟨jz_up mc (bx l r + 9) n (nI (an_ d q)), jz_up mm 16 (ix l r n) (nI (an_ d q)), fun k => by rw [u1, if_pos rfl], fun k => by rw [u2, if_pos rfl], I_due hI hl hr hn (bt_anl hd hq) (fun z => absurd z hs), ?_, by rw [jz_up_k (by decide)]⟩
      rw [x_sh (mm := mm) (show jz_up mm 16 (ix l r n) (nI (an_ d q)) 4 = mm 4 from jz_up_k (by decide))]; exact hsh
    | false =>
      exact ⟨mc, mm, fun k => by rw [u1, if_neg (by decide)], fun k => by rw [u2, if_neg (by decide)], hI, hsh, rfl⟩
  | succ g ih =>
    intro i fu fu' b mc mm h1 h2 h3 hb hI hsh hs
    obtain ⟨fu, rfl⟩ : ∃ k, fu = k + 1 := ⟨fu - 1, by omega⟩
    obtain ⟨fu', rfl⟩ : ∃ k, fu' = k + 1 := ⟨fu' - 1, by omega⟩
    have hi : i < 6 := by omega
    have u1 : ∀ k26, f_AR_spread_50 k26 (fu + 1) (nI r) (nI q) (nI (l + 1)) a4 (bx l r) v (nI n) (nI i) mc = if o_re mm a4 l i q r = true then (f_AR_receive (nI i) (nI q) (nI (l + 1)) (bx l r) (nI n) mc).bind (fun m7 => f_AR_spread_50 k26 fu (nI r) (nI q) (nI (l + 1)) a4 (bx l r) v (nI n) (nI (i + 1)) m7) else f_AR_spread_50 k26 fu (nI r) (nI q) (nI (l + 1)) a4 (bx l r) v (nI n) (nI (i + 1)) mc := fun k26 => by
      rw [f_AR_spread_50, if_neg (pn6 hi), pz_b (q_re hI a4 hl hi hq hr), b1_0]
      simp only [pz_n, nI_1]
    have u2 : ∀ k39, f_Mo_spread_86 k39 (fu' + 1) (nI r) (nI q) (nI (l + 1)) a4 v (b1 sh) (nI n) (nI (ix l r n)) (nI i) mm = if o_re mm a4 l i q r = true then (f_Mo_take (nI i) (nI r) (nI q) (nI (l + 1)) (nI n) mm).bind (fun m9 => f_Mo_spread_86 k39 fu' (nI r) (nI q) (nI (l + 1)) a4 v (b1 sh) (nI n) (nI (ix l r n)) (nI (i + 1)) m9) else f_Mo_spread_86 k39 fu' (nI r) (nI q) (nI (l + 1)) a4 v (b1 sh) (nI n) (nI (ix l r n)) (nI (i + 1)) mm := fun k39 => by
      rw [f_Mo_spread_86, if_neg (pn6 hi)]
      simp only [pz_n, nI_1]
      exact q_mre hI a4 hl hi hq hr _ _
    by_cases h : o_re mm a4 l i q r = true
    · have hne : o_ne mm l i q r = true := (Bool.and_eq_true_iff.mp h).2
      have hir := (I_ne hI hl hi hq hr hne).1
      obtain ⟨c1, m1, e1, e2, e3, e4, e5⟩ := take_ hI (by omega) hl hi hr hir hq hn hs
      have hk : m1 4 = mm 4 := funext fun j => e5 4 j (by decide) (by decide) (fun z => by have := z.1; omega)
      have h8 : m1 8 (ix l r n) = mm 8 (ix l r n) := e5 8 _ (by decide) (by decide) (fun z => ix_ne (l := l) (r := i) (n := n) (l' := l) (r' := r) (n' := n) hl hl hn hn (fun y => hir y.2.1.symm) (z.2.2 (by decide)))
      obtain ⟨c2, m2, f1, f2, f3, f4, f5⟩ := ih (i + 1) fu fu' (b + 1) c1 m1 (by omega) (by omega) (by omega) (by omega) e3 (by rw [x_sh hk]; exact hsh) (by rw [h8]; exact hs)
      exact ⟨c2, m2, fun k => by rw [u1, if_pos h, pz_b e1]; exact f1 k, fun k => by rw [u2, if_pos h, pz_b e2]; exact f2 k, by rw [show b + (g + 1) = b + 1 + g by omega]; exact f3, f4, f5.trans e4⟩
    · obtain ⟨c2, m2, f1, f2, f3, f4, f5⟩ := ih (i + 1) fu fu' (b + 1) mc mm (by omega) (by omega) (by omega) (by omega) (I_mono hI) hsh hs
      exact ⟨c2, m2, fun k => by rw [u1, if_neg h]; exact f1 k, fun k => by rw [u2, if_neg h]; exact f2 k, by rw [show b + (g + 1) = b + 1 + g by omega]; exact f3, f4, f5⟩
theorem spr_out {l q r : Nat} (hl : l < 2) (hq : q < 6) (hr : r < 6) (a4 : Int32) (sh : Bool) : ∀ (g n fu fu' b : Nat) (v : Int32) (mc mm : jz_M), n + g = 42 → g < fu → g < fu' → b + 6 * g ≤ 200000 → I_ b mc mm → o_sh mm q = sh → ∃ (w : Int32) (mc' mm' : jz_M), f_AR_spread_26 fu (nI r) (nI q) (nI (l + 1)) a4 (bx l r) v (nI n) mc = some (w, mc') ∧ f_Mo_spread_39 fu' (nI r) (nI q) (nI (l + 1)) a4 v (b1 sh) (nI n) mm = some (w, mm') ∧ I_ (b + 6 * g) mc' mm' ∧ mm' 0 0 = mm 0 0 := by
  intro g
  induction g with
  | zero =>
    intro n fu fu' b v mc mm h1 h2 h3 hb hI hsh
    obtain ⟨fu, rfl⟩ : ∃ k, fu = k + 1 := ⟨fu - 1, by omega⟩
    obtain ⟨fu', rfl⟩ : ∃ k, fu' = k + 1 := ⟨fu' - 1, by omega⟩
    exact ⟨v, mc, mm, by rw [f_AR_spread_26, if_pos (py42 (by omega) (by omega))], by rw [f_Mo_spread_39, if_pos (py42 (by omega) (by omega))], hI, rfl⟩
  | succ g ih =>
    intro n fu fu' b v mc mm h1 h2 h3 hb hI hsh
    obtain ⟨fu, rfl⟩ : ∃ k, fu = k + 1 := ⟨fu - 1, by omega⟩
    obtain ⟨fu', rfl⟩ : ∃ k, fu' = k + 1 := ⟨fu' - 1, by omega⟩
    have hn : n < 42 := by omega
    obtain ⟨s, f, d, a, hs, hf, hd, ha, e1, e2, e3, e4, g1, g2, g3, g4, hs0⟩ := I_sl hI hl hr hn
    rw [f_AR_spread_26, if_neg (pn42 hn), f_Mo_spread_39, if_neg (pn42 hn), pz_b (q_mat mm)]
    unfold f_Ba_isDue
    simp only [pz_n, nI_1, pz_ix hn (show 42 < 2 ^ 31 by decide), pz_ix (ix_lt hl hr hn) (show 504 < 2 ^ 31 by decide), Option.bind_some, e1, e3, g3, pz_bit, n_le0 (show s < 2 ^ 31 by omega)]
    have skip : ∃ (w : Int32) (mc' mm' : jz_M), f_AR_spread_26 fu (nI r) (nI q) (nI (l + 1)) a4 (bx l r) v (nI (n + 1)) mc = some (w, mc') ∧ f_Mo_spread_39 fu' (nI r) (nI q) (nI (l + 1)) a4 v (b1 sh) (nI (n + 1)) mm = some (w, mm') ∧ I_ (b + 6 * (g + 1)) mc' mm' ∧ mm' 0 0 = mm 0 0 := by
      rw [show b + 6 * (g + 1) = b + 6 + 6 * g by omega]
      exact ih (n + 1) fu fu' (b + 6) v mc mm (by omega) (by omega) (by omega) (by omega) (I_le (by omega) hI) hsh
    by_cases hb0 : nI d >>> (nI q &&& 31) &&& 1 = 0
    · simp only [if_pos hb0, Option.bind_some, if_true, ite_self]
      exact skip
    · have hs1 : s ≠ 0 := fun z => hb0 (by
        rw [(hs0 z).2]; exact sh0 q hq)
      simp only [if_neg hb0, if_neg hs1, Option.bind_some, i10]
      obtain ⟨c2, m2, f1, f2, f3, f4, f5⟩ := spr_in hl hq hr hn a4 (v + 1) sh 6 0 1000 1000000 b mc mm (by decide) (by decide) (by decide) (by omega) hI hsh (by rw [e1]; exact fun z => hs1 ((nI_eq (b := 0) (by omega) (by decide)).mp z))
      obtain ⟨w, c3, m3, k1, k2, k3, k4⟩ := ih (n + 1) fu fu' (b + 6) (v + 1) c2 m2 (by omega) (by omega) (by omega) (by omega) f3 f4
      exact ⟨w, c3, m3, (f1 _).trans k1, (f2 _).trans k2, by rw [show b + 6 * (g + 1) = b + 6 + 6 * g by omega]; exact k3, k4.trans f5⟩
theorem ok_spread : sp_spread J_ := by
  intro c mc mm hc hI a1 a2 a3 a4
  unfold f_Mo_spread f_Mo_raise
  rcases bar4 hI a1 a2 a3 with ⟨r, q, l, hr, hq, hl, rfl, rfl, rfl, hon, hh, e1, e2, e3⟩ | ⟨e1, e2⟩ | ⟨e1, e2⟩ | ⟨e0, e1, e2⟩
  · obtain ⟨w, c3, m3, k1, k2, k3, k4⟩ := spr_out hl hq hr a4 (o_sh (jz_up mm 0 0 0) q) 42 0 1000 1000000 (252 * c) 0 mc (jz_up mm 0 0 0) (by decide) (by decide) (by decide) (by omega) (I_thr 0 0 hI) rfl
    rw [pz_b e3, if_pos (by decide), pz_n, pz_b (q_msh hq _)]
    refine ⟨(w, m3), k2, Or.inl ⟨(w, c3), ?_, by show m3 0 0 = 0; rw [k4]; exact pz_up_s mm 0 0 0, rfl, k3⟩⟩
    unfold f_AR_spread
    rw [pz_b e1, pz_b e2, pz_b (q_bs hr hl mc)]
    exact k1
  · rw [pz_b e2, if_neg (by decide)]
    exact ⟨(0, jz_up mm 0 0 1), rfl, Or.inr (Or.inl ⟨e1, pz_up_s mm 0 0 1, I_up (I_thr 0 1 hI)⟩)⟩
  · rw [pz_b e2, if_neg (by decide)]
    exact ⟨(0, jz_up mm 0 0 2), rfl, Or.inr (Or.inr (Or.inl ⟨e1, pz_up_s mm 0 0 2, I_up (I_thr 0 2 hI)⟩))⟩
  · rw [pz_b e2, if_neg (by decide)]
    exact ⟨(0, jz_up mm 0 0 3), rfl, Or.inr (Or.inr (Or.inr ⟨e0, e1, pz_up_s mm 0 0 3, I_up (I_thr 0 3 hI)⟩))⟩
