/-! request and summary -/
theorem I_ne {c : Nat} {mc mm : jz_M} (hI : I_ c mc mm) {l x q r : Nat} (hl : l < 2) (hx : x < 6) (hq : q < 6) (hr : r < 6) (h : o_ne mm l x q r = true) : x ≠ r ∧ o_on mm x q = true ∧ o_on mm r q = true := by
  obtain ⟨_, _, e3⟩ := hI.2.2.2.2.1 l x q r hl hx hq hr
  unfold o_ne at h
  simp only [Bool.and_eq_true, decide_eq_true_eq] at h
  exact e3 h.1
abbrev o_re (m : jz_M) (a : Int32) (l x q r : Nat) : Bool := o_mt a x && o_ne m l x q r
theorem q_re {c : Nat} {mc mm : jz_M} (hI : I_ c mc mm) {l x q r : Nat} (a : Int32) (hl : l < 2) (hx : x < 6) (hq : q < 6) (hr : r < 6) : f_AR_isReached (nI x) (nI r) (nI q) (nI (l + 1)) a mc = some (b1 (o_re mm a l x q r)) := by
  unfold f_AR_isReached
  simp only [q_mt, q_hg hl, q_mu hx hq hr, I_mu hI hl hx hq hr, Option.bind_some, b1_0]
  rw [pz_and, pz_br (f := some)]
theorem q_mre {c : Nat} {mc mm : jz_M} (hI : I_ c mc mm) {l x q r : Nat} (a : Int32) (hl : l < 2) (hx : x < 6) (hq : q < 6) (hr : r < 6) {α : Type} (y z : Option α) : ((f_Mo_receives (nI x) (nI r) (nI q) a mm).bind fun v2_ => if v2_ = 0 then y else (f_Mo_near (nI x) (nI q) (nI (l + 1)) (nI r) mm).bind fun v5_ => if v5_ = 0 then y else z) = if o_re mm a l x q r = true then z else y := by
  rw [pz_b (q_rc hx hr hq a mm), pz_b (q_ne hl hx hq hr mm), b1_0, b1_0]
  unfold o_re
  by_cases h : o_ne mm l x q r = true
  · obtain ⟨h1, h2, _⟩ := I_ne hI hl hx hq hr h
    rw [if_pos h, h2, h]
    cases o_mt a x <;> simp [h1]
  · rw [if_neg h]
    have : o_ne mm l x q r = false := by simpa using h
    rw [this]; simp
theorem lev2 {c : Nat} {mc mm : jz_M} (hI : I_ c mc mm) {r : Nat} (hr : r < 6) (a3 : Int32) : (∃ l, l < 2 ∧ a3 = nI (l + 1) ∧ f_AR_checkLevel (nI r) a3 mc = some () ∧ f_Mo_has (nI r) a3 mm = some 1 ∧ o_hl mm r l = true) ∨ (fx_AR_checkLevel (nI r) a3 mc = some 3 ∧ f_Mo_has (nI r) a3 mm = some 0) := by
  unfold f_AR_checkLevel fx_AR_checkLevel
  rcases lv_rng a3 with ⟨l, hl, rfl⟩ | ho
  · rw [pz_b (q_hl hr hl mc), pz_b (q_hl hr hl mc), q_has hr hl mm, b1_n, b1_n, I_hl hI hr l]
    by_cases h : o_hl mm r l = true
    · exact Or.inl ⟨l, hl, rfl, by rw [if_pos h], by rw [h]; rfl, h⟩
    · have h2 : o_hl mm r l = false := by simpa using h
      exact Or.inr ⟨by rw [if_neg h], by rw [h2]; rfl⟩
  · rw [pz_b (q_hl_out ho mc), pz_b (q_hl_out ho mc), q_has_out ho]
    exact Or.inr ⟨rfl, rfl⟩
theorem bar4 {c : Nat} {mc mm : jz_M} (hI : I_ c mc mm) (a1 a2 a3 : Int32) : (∃ r q l, r < 6 ∧ q < 6 ∧ l < 2 ∧ a1 = nI r ∧ a2 = nI q ∧ a3 = nI (l + 1) ∧ o_on mm r q = true ∧ o_hl mm r l = true ∧ f_AR_checkSender a1 a2 mc = some () ∧ f_AR_checkLevel a1 a3 mc = some () ∧ f_Mo_barredAt a1 a2 a3 mm = some 0) ∨ (fx_AR_checkSender a1 a2 mc = some 1 ∧ f_Mo_barredAt a1 a2 a3 mm = some 1) ∨ (fx_AR_checkSender a1 a2 mc = some 2 ∧ f_Mo_barredAt a1 a2 a3 mm = some 2) ∨ (f_AR_checkSender a1 a2 mc = some () ∧ fx_AR_checkLevel a1 a3 mc = some 3 ∧ f_Mo_barredAt a1 a2 a3 mm = some 3) := by
  unfold f_Mo_barredAt
  rcases snd3 hI a1 a2 with ⟨r, q, hr, hq, rfl, rfl, hon, e1, e2⟩ | ⟨e1, e2⟩ | ⟨e1, e2⟩
  · rw [pz_b e2, if_pos (by decide)]
    rcases lev2 hI hr a3 with ⟨l, hl, rfl, f1, f2, f3⟩ | ⟨f1, f2⟩
    · rw [pz_b f2]; exact Or.inl ⟨r, q, l, hr, hq, hl, rfl, rfl, rfl, hon, f3, e1, f1, rfl⟩
    · rw [pz_b f2]; exact Or.inr (Or.inr (Or.inr ⟨e1, f1, rfl⟩))
  · rw [pz_b e2, if_neg (by decide)]; exact Or.inr (Or.inl ⟨e1, rfl⟩)
  · rw [pz_b e2, if_neg (by decide)]; exact Or.inr (Or.inr (Or.inl ⟨e1, rfl⟩))
theorem req_in {c l q r n : Nat} (hc : c ≤ 200000) (hl : l < 2) (hq : q < 6) (hr : r < 6) (hn : n < 42) (a4 v : Int32) : ∀ (g i fu fu' : Nat) (mc mm : jz_M), i + g = 6 → g < fu → g < fu' → I_ c mc mm → ∃ mc' mm' : jz_M, (∀ k26, f_AR_request_59 k26 fu (nI r) (nI q) (nI (l + 1)) a4 (bx l r) v (nI n) (nI i) mc = k26 (nI r) (nI q) (nI (l + 1)) a4 (bx l r) v (nI (n + 1)) mc') ∧ (∀ k32, f_Mo_request_89 k32 fu' (nI r) (nI q) (nI (l + 1)) a4 v (nI n) (nI i) mm = k32 (nI r) (nI q) (nI (l + 1)) a4 v (nI (n + 1)) mm') ∧ I_ c mc' mm' ∧ ∀ k, k ≠ 16 → k ≠ 17 → mm' k = mm k := by
  intro g
  induction g with
  | zero =>
    intro i fu fu' mc mm h1 h2 h3 hI
    obtain ⟨fu, rfl⟩ : ∃ k, fu = k + 1 := ⟨fu - 1, by omega⟩
    obtain ⟨fu', rfl⟩ : ∃ k, fu' = k + 1 := ⟨fu' - 1, by omega⟩
    exact ⟨mc, mm, fun k26 => by rw [f_AR_request_59, if_pos (py6 (by omega) (by omega)), pz_n, nI_1], fun k32 => by rw [f_Mo_request_89, if_pos (py6 (by omega) (by omega)), pz_n, nI_1], hI, fun _ _ _ => rfl⟩
  | succ g ih =>
    intro i fu fu' mc mm h1 h2 h3 hI
    obtain ⟨fu, rfl⟩ : ∃ k, fu = k + 1 := ⟨fu - 1, by omega⟩
    obtain ⟨fu', rfl⟩ : ∃ k, fu' = k + 1 := ⟨fu' - 1, by omega⟩
    have hi : i < 6 := by omega
    have u1 : ∀ k26, f_AR_request_59 k26 (fu + 1) (nI r) (nI q) (nI (l + 1)) a4 (bx l r) v (nI n) (nI i) mc = if o_re mm a4 l i q r = true then (f_Ba_compareWithTold (bx l i) (bx l r) (nI n) (nI q) mc).bind (fun m7 => f_AR_request_59 k26 fu (nI r) (nI q) (nI (l + 1)) a4 (bx l r) v (nI n) (nI (i + 1)) m7) else f_AR_request_59 k26 fu (nI r) (nI q) (nI (l + 1)) a4 (bx l r) v (nI n) (nI (i + 1)) mc := fun k26 => by
      rw [f_AR_request_59, if_neg (pn6 hi), pz_b (q_re hI a4 hl hi hq hr), b1_0, pz_b (q_bs hi hl mc)]
      simp only [pz_n, nI_1]
    have u2 : ∀ k32, f_Mo_request_89 k32 (fu' + 1) (nI r) (nI q) (nI (l + 1)) a4 v (nI n) (nI i) mm = if o_re mm a4 l i q r = true then (f_Mo_told (nI i) (nI r) (nI q) (nI (l + 1)) (nI n) mm).bind (fun m9 => f_Mo_request_89 k32 fu' (nI r) (nI q) (nI (l + 1)) a4 v (nI n) (nI (i + 1)) m9) else f_Mo_request_89 k32 fu' (nI r) (nI q) (nI (l + 1)) a4 v (nI n) (nI (i + 1)) mm := fun k32 => by
      rw [f_Mo_request_89, if_neg (pn6 hi)]
      simp only [pz_n, nI_1]
      exact q_mre hI a4 hl hi hq hr _ _
    by_cases h : o_re mm a4 l i q r = true
    · obtain ⟨c1, m1, e1, e2, e3, e4⟩ := told_ hI hc hl hi hr hq hn
      obtain ⟨c2, m2, f1, f2, f3, f4⟩ := ih (i + 1) fu fu' c1 m1 (by omega) (by omega) (by omega) e3
      exact ⟨c2, m2, fun k26 => by rw [u1, if_pos h, pz_b e1]; exact f1 k26, fun k32 => by rw [u2, if_pos h, pz_b e2]; exact f2 k32, f3, fun k a b => (f4 k a b).trans (e4 k a b)⟩
    · obtain ⟨c2, m2, f1, f2, f3, f4⟩ := ih (i + 1) fu fu' mc mm (by omega) (by omega) (by omega) hI
      exact ⟨c2, m2, fun k26 => by rw [u1, if_neg h]; exact f1 k26, fun k32 => by rw [u2, if_neg h]; exact f2 k32, f3, f4⟩
theorem pn42 {i : Nat} (h : i < 42) : ¬ (42 : Int32) ≤ nI i := nI_ge h (by decide)
theorem py42 {i : Nat} (h : 42 ≤ i) (h2 : i < 2 ^ 31) : (42 : Int32) ≤ nI i := nI_le h h2
theorem pz_bit {y : Int32} {α : Type} {a b : α} : (if ¬ (y &&& 1) = 1 then a else b) = if (y &&& 1) = 0 then a else b := by
  rcases pz_and1 y with h | h <;> rw [h] <;> rfl
theorem req_out {c l q r : Nat} (hc : c ≤ 200000) (hl : l < 2) (hq : q < 6) (hr : r < 6) (a4 : Int32) : ∀ (g n fu fu' : Nat) (v : Int32) (mc mm : jz_M), n + g = 42 → g < fu → g < fu' → I_ c mc mm → ∃ (w : Int32) (mc' mm' : jz_M), f_AR_request_26 fu (nI r) (nI q) (nI (l + 1)) a4 (bx l r) v (nI n) mc = some (w, mc') ∧ f_Mo_request_32 fu' (nI r) (nI q) (nI (l + 1)) a4 v (nI n) mm = some (w, mm') ∧ I_ c mc' mm' ∧ mm' 0 = mm 0 := by
  intro g
  induction g with
  | zero =>
    intro n fu fu' v mc mm h1 h2 h3 hI
    obtain ⟨fu, rfl⟩ : ∃ k, fu = k + 1 := ⟨fu - 1, by omega⟩
    obtain ⟨fu', rfl⟩ : ∃ k, fu' = k + 1 := ⟨fu' - 1, by omega⟩
    exact ⟨v, mc, mm, by rw [f_AR_request_26, if_pos (py42 (by omega) (by omega))], by rw [f_Mo_request_32, if_pos (py42 (by omega) (by omega))], hI, rfl⟩
  | succ g ih =>
    intro n fu fu' v mc mm h1 h2 h3 hI
    obtain ⟨fu, rfl⟩ : ∃ k, fu = k + 1 := ⟨fu - 1, by omega⟩
    obtain ⟨fu', rfl⟩ : ∃ k, fu' = k + 1 := ⟨fu' - 1, by omega⟩
    have hn : n < 42 := by omega
    obtain ⟨s, f, d, a, hs, hf, hd, ha, e1, e2, e3, e4, g1, g2, g3, g4, hs0⟩ := I_sl hI hl hr hn
    rw [f_AR_request_26, if_neg (pn42 hn), f_Mo_request_32, if_neg (pn42 hn), pz_b (q_mat mm)]
    unfold f_Ba_isAsked f_Ba_setAsked
    simp only [pz_n, nI_1, pz_ix hn (show 42 < 2 ^ 31 by decide), pz_ix (ix_lt hl hr hn) (show 504 < 2 ^ 31 by decide), Option.bind_some, e4, g4, pz_bit, bt_an ha hq, if_true]
    by_cases hb : nI a >>> (nI q &&& 31) &&& 1 = 0
    · simp only [if_pos hb, Option.bind_some, if_true]
      exact ih (n + 1) fu fu' v mc mm (by omega) (by omega) (by omega) hI
    · simp only [if_neg hb, Option.bind_some, i10]
      obtain ⟨c2, m2, f1, f2, f3, f4⟩ := req_in hc hl hq hr hn a4 (v + 1) 6 0 1000 1000000 _ _ (by decide) (by decide) (by decide) (I_asked hI hc hl hr hn (bt_anl ha hq))
      obtain ⟨w, c3, m3, k1, k2, k3, k4⟩ := ih (n + 1) fu fu' (v + 1) c2 m2 (by omega) (by omega) (by omega) f3
      refine ⟨w, c3, m3, (f1 _).trans k1, (f2 _).trans k2, k3, k4.trans ((f4 0 (by decide) (by decide)).trans (jz_up_k (by decide)))⟩
theorem ok_request : sp_request J_ := by
  intro c mc mm hc hI a1 a2 a3 a4
  unfold f_Mo_request f_Mo_raise
  rcases bar4 hI a1 a2 a3 with ⟨r, q, l, hr, hq, hl, rfl, rfl, rfl, hon, hh, e1, e2, e3⟩ | ⟨e1, e2⟩ | ⟨e1, e2⟩ | ⟨e0, e1, e2⟩
  · obtain ⟨w, c3, m3, k1, k2, k3, k4⟩ := req_out (c := 252 * c) (by omega) hl hq hr a4 42 0 1000 1000000 0 mc (jz_up mm 0 0 0) (by decide) (by decide) (by decide) (I_thr 0 0 hI)
    rw [pz_b e3, if_pos (by decide), pz_n]
    refine ⟨(w, m3), k2, Or.inl ⟨(w, c3), ?_, by show m3 0 0 = 0; rw [k4]; exact pz_up_s mm 0 0 0, rfl, I_up k3⟩⟩
    unfold f_AR_request
    rw [pz_b e1, pz_b e2, pz_b (q_bs hr hl mc)]
    exact k1
  · rw [pz_b e2, if_neg (by decide)]
    exact ⟨(0, jz_up mm 0 0 1), rfl, Or.inr (Or.inl ⟨e1, pz_up_s mm 0 0 1, I_up (I_thr 0 1 hI)⟩)⟩
  · rw [pz_b e2, if_neg (by decide)]
    exact ⟨(0, jz_up mm 0 0 2), rfl, Or.inr (Or.inr (Or.inl ⟨e1, pz_up_s mm 0 0 2, I_up (I_thr 0 2 hI)⟩))⟩
  · rw [pz_b e2, if_neg (by decide)]
    exact ⟨(0, jz_up mm 0 0 3), rfl, Or.inr (Or.inr (Or.inr ⟨e0, e1, pz_up_s mm 0 0 3, I_up (I_thr 0 3 hI)⟩))⟩
