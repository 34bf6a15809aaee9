/-! the nearest; route and trace -/
def BR_ (K : Nat → Nat) (r : Nat) (x : Int32) : Prop := x = -1 ∨ ∃ b, b < 6 ∧ b ≠ r ∧ x = nI b ∧ K (7 * b) < 1000000
theorem neg_rt (m : jz_M) : f_AR_isRouter (-1) m = some 0 := rfl
theorem nr_ {mc mm : jz_M} {l r : Nat} {K H : Nat → Nat} (R : RW_ mc mm l r K H) {i : Nat} (hi : i < 6) (hir : i ≠ r) (hr : r < 6) {x : Int32} (hx : BR_ K r x) : ∃ x', f_Wa_nearer x (nI i) mc = some x' ∧ (∀ k6 x2 x3, f_Mo_nearest_72 mm k6 (nI r) x2 x3 x (nI i) 1 = k6 (nI r) x2 x3 x' (nI (i + 1))) ∧ BR_ K r x' ∧ (¬ K (7 * i) < 1000000 → x' = x) := by
  obtain ⟨r1, r2, r3, r4⟩ := R i hi hir
  clear r4
  have hKi : K (7 * i) < 2 ^ 31 := by omega
  unfold f_Wa_nearer f_Wa_nearer_22 f_Mo_nearest_72 f_AR_nameOf
  simp only [n7, Int32.add_zero, Option.bind_some, pz_ix (show 7 * i < 42 by omega) (show 42 < 2 ^ 31 by decide), r1, r2, cM_neg, pz_n, nI_1, n_eq (show i < 2 ^ 31 by omega) (show r < 2 ^ 31 by omega), if_neg hir, i10]
  rcases hx with rfl | ⟨b, hb, hbr, rfl, hbk⟩
  · simp only [neg_rt, Option.bind_some, if_true, if_pos (show (-1 : Int32) < 0 by decide)]
    rw [show (1000000 : Int32) = nI 1000000 from rfl, pz_nle (by decide) hKi]
    by_cases hk : K (7 * i) < 1000000
    · rw [if_pos hk]
      exact ⟨nI i, rfl, fun k6 x2 x3 => by rw [if_neg (fun z => z hk)], Or.inr ⟨i, hi, hir, rfl, hk⟩, fun z => absurd hk z⟩
    · rw [if_neg hk]
      exact ⟨-1, rfl, fun k6 x2 x3 => by rw [if_pos hk], Or.inl rfl, fun _ => rfl⟩
  · obtain ⟨s1, s2, s3, s4⟩ := R b hb hbr
    clear s4
    have hKb : K (7 * b) < 2 ^ 31 := by omega
    simp only [q_rt_in hb, Option.bind_some, i10, pz_ix (show 7 * b < 42 by omega) (show 42 < 2 ^ 31 by decide), s1, s2, if_neg (nI_pos (show b < 2 ^ 31 by omega)), n7, Int32.add_zero]
    rw [pz_nle hKb hKi, show cM (K (7 * b)) = nI (K (7 * b)) from if_pos hbk]
    by_cases hk : K (7 * i) < 1000000
    · rw [show cM (K (7 * i)) = nI (K (7 * i)) from if_pos hk]
      by_cases hlt : K (7 * i) < K (7 * b)
      · rw [if_pos hlt]
        exact ⟨nI i, rfl, fun k6 x2 x3 => by rw [if_neg (fun z => z hk), pz_nle hKb hKi, if_pos hlt], Or.inr ⟨i, hi, hir, rfl, hk⟩, fun z => absurd hk z⟩
      · rw [if_neg hlt]
        exact ⟨nI b, rfl, fun k6 x2 x3 => by rw [if_neg (fun z => z hk), pz_nle hKb hKi, if_neg hlt], Or.inr ⟨b, hb, hbr, rfl, hbk⟩, fun z => absurd hk z⟩
    · rw [if_neg (show ¬ K (7 * i) < K (7 * b) by omega)]
      exact ⟨nI b, rfl, fun k6 x2 x3 => by rw [if_pos hk], Or.inr ⟨b, hb, hbr, rfl, hbk⟩, fun _ => rfl⟩
theorem nr_z (mm : jz_M) {r i : Nat} (x : Int32) (k6 : Int32 → Int32 → Int32 → Int32 → Int32 → Option Int32) (x2 x3 : Int32) : f_Mo_nearest_72 mm k6 (nI r) x2 x3 x (nI i) 0 = k6 (nI r) x2 x3 x (nI (i + 1)) := by
  unfold f_Mo_nearest_72
  simp only [pz_n, nI_1, if_true, ite_self]
theorem nr_r (mm : jz_M) {r : Nat} (x s0 : Int32) (k6 : Int32 → Int32 → Int32 → Int32 → Int32 → Option Int32) (x2 x3 : Int32) : f_Mo_nearest_72 mm k6 (nI r) x2 x3 x (nI r) s0 = k6 (nI r) x2 x3 x (nI (r + 1)) := by
  unfold f_Mo_nearest_72
  simp only [pz_n, nI_1, if_true]
theorem I_lives {b : Nat} {mc mm : jz_M} (hI : I_ b mc mm) (hb : b ≤ 200000) {l r : Nat} (hl : l < 2) (hr : r < 6) {u : Nat} (hu : u < 42) : ∃ v : Bool, f_Mo_lives (nI r) (nI (l + 1)) (nI u) mm = some (b1 v) := by
  obtain ⟨G, hG, gc, gm⟩ := I_G hI hb hl hr
  exact ⟨_, m_lives gm hl hr hu⟩
/-- the end of the search for the nearest -/
theorem nr_end {mc mm : jz_M} {l r : Nat} {K H : Nat → Nat} (R : RW_ mc mm l r K H) (hr : r < 6) {x : Int32} (hx : BR_ K r x) : ∃ w, f_Wa_wayTo x mc = some w ∧ (if 0 ≤ x then (f_Mo_way (nI r) x mm).bind fun v => some v else some (-1)) = some w ∧ aw_ w := by
  rcases hx with rfl | ⟨b, hb, hbr, rfl, hbk⟩
  · refine ⟨-1, ?_, by rw [if_neg (by decide)], Or.inl rfl⟩
    unfold f_Wa_wayTo
    rw [pz_b (neg_rt mc), if_pos rfl]
  · obtain ⟨w, w1, w2, w3⟩ := wayTo_ R hr hb hbr
    refine ⟨w, w1, ?_, ?_⟩
    · rw [if_pos (show (0 : Int32) ≤ nI b from nI_le (a := 0) (by omega) (by omega)), w2]; rfl
    · rcases w3 with ⟨z, _⟩ | ⟨_, z⟩
      · exact Or.inl z
      · exact Or.inr z
theorem na_ {b : Nat} {mc mm : jz_M} (hI : I_ b mc mm) (hb : b ≤ 200000) {l r a : Nat} (hl : l < 2) (hr : r < 6) (ha : a ≤ 2) {K H : Nat → Nat} (R : RW_ mc mm l r K H) : ∀ (g i fu fu' : Nat) (x : Int32), i + g = 6 → g < fu → g < fu' → BR_ K r x → ∃ w, f_AR_wayToArea_26 fu (nI r) (nI a) (bx l r) x (nI i) mc = some (w, mc) ∧ f_Mo_nearest_6 mm fu' (nI r) (nI (l + 1)) (nI a) x (nI i) = some w ∧ aw_ w := by
  intro g
  induction g with
  | zero =>
    intro i fu fu' x h1 h2 h3 hx
    obtain ⟨fu, rfl⟩ : ∃ k, fu = k + 1 := ⟨fu - 1, by omega⟩
    obtain ⟨fu', rfl⟩ : ∃ k, fu' = k + 1 := ⟨fu' - 1, by omega⟩
    obtain ⟨w, w1, w2, w3⟩ := nr_end R hr hx
    refine ⟨w, ?_, ?_, w3⟩
    · rw [f_AR_wayToArea_26, if_pos (py6 (by omega) (by omega)), pz_b w1]
    · rw [f_Mo_nearest_6, if_pos (py6 (by omega) (by omega))]; exact w2
  | succ g ih =>
    intro i fu fu' x h1 h2 h3 hx
    obtain ⟨fu, rfl⟩ : ∃ k, fu = k + 1 := ⟨fu - 1, by omega⟩
    obtain ⟨fu', rfl⟩ : ∃ k, fu' = k + 1 := ⟨fu' - 1, by omega⟩
    have hi : i < 6 := by omega
    have h42 : 7 * i < 42 := by omega
    obtain ⟨v, hv⟩ := I_lives hI hb hl hr h42
    obtain ⟨⟨_, _, _, _, _, a6, _⟩, _⟩ := hI.2.2.2.2.2 l r (7 * i) hl hr h42
    rw [f_AR_wayToArea_26, if_neg (pn6 hi), f_Mo_nearest_6, if_neg (pn6 hi)]
    unfold f_AR_nameOf f_Mo_nearest_71 f_Mo_nearest_67
    simp only [n7, Int32.add_zero, Option.bind_some, pz_ix h42 (show 42 < 2 ^ 31 by decide), pz_ix (ix_lt hl hr h42) (show 504 < 2 ^ 31 by decide), q_mat, hv, b1_0, pz_n, nI_1, n_eq (show i < 2 ^ 31 by omega) (show r < 2 ^ 31 by omega), a6, if_pos (show (0 : Int32) ≤ nI a from nI_le (a := 0) (by omega) (by omega))]
    by_cases hir : i = r
    · subst hir
      simp only [if_true, nr_r, ite_self]
      exact ih (i + 1) fu fu' x (by omega) (by omega) (by omega) hx
    · simp only [if_neg hir]
      by_cases hm : mm 13 (ix l r (7 * i)) = nI a
      · simp only [if_neg (fun z => z hm : ¬ ¬ mm 13 (ix l r (7 * i)) = nI a)]
        obtain ⟨x', y1, y2, y3, y4⟩ := nr_ R hi hir hr hx
        rw [pz_b y1]
        cases v with
        | true =>
          rw [if_pos rfl, y2]
          exact ih (i + 1) fu fu' x' (by omega) (by omega) (by omega) y3
        | false =>
          rw [if_neg (by decide), nr_z]
          have hk : ¬ K (7 * i) < 1000000 := fun z => by
            have := ((R i hi hir).2.2.2 z).1
            rw [hv] at this
            exact absurd (Option.some.inj this) (by decide)
          rw [y4 hk]
          exact ih (i + 1) fu fu' x (by omega) (by omega) (by omega) hx
      · simp only [if_pos hm, nr_z, ite_self]
        exact ih (i + 1) fu fu' x (by omega) (by omega) (by omega) hx
theorem nx_ {b : Nat} {mc mm : jz_M} (hI : I_ b mc mm) (hb : b ≤ 200000) {l r : Nat} (hl : l < 2) (hr : r < 6) {K H : Nat → Nat} (R : RW_ mc mm l r K H) : ∀ (g i fu fu' : Nat) (x : Int32), i + g = 6 → g < fu → g < fu' → BR_ K r x → ∃ w, f_AR_wayToExit_25 fu (nI r) (bx l r) x (nI i) mc = some (w, mc) ∧ f_Mo_nearest_6 mm fu' (nI r) (nI (l + 1)) (-1) x (nI i) = some w ∧ aw_ w := by
  intro g
  induction g with
  | zero =>
    intro i fu fu' x h1 h2 h3 hx
    obtain ⟨fu, rfl⟩ : ∃ k, fu = k + 1 := ⟨fu - 1, by omega⟩
    obtain ⟨fu', rfl⟩ : ∃ k, fu' = k + 1 := ⟨fu' - 1, by omega⟩
    obtain ⟨w, w1, w2, w3⟩ := nr_end R hr hx
    refine ⟨w, ?_, ?_, w3⟩
    · rw [f_AR_wayToExit_25, if_pos (py6 (by omega) (by omega)), pz_b w1]
    · rw [f_Mo_nearest_6, if_pos (py6 (by omega) (by omega))]; exact w2
  | succ g ih =>
    intro i fu fu' x h1 h2 h3 hx
    obtain ⟨fu, rfl⟩ : ∃ k, fu = k + 1 := ⟨fu - 1, by omega⟩
    obtain ⟨fu', rfl⟩ : ∃ k, fu' = k + 1 := ⟨fu' - 1, by omega⟩
    have hi : i < 6 := by omega
    have h42 : 7 * i < 42 := by omega
    obtain ⟨v, hv⟩ := I_lives hI hb hl hr h42
    obtain ⟨⟨_, _, _, _, a5, _⟩, _⟩ := hI.2.2.2.2.2 l r (7 * i) hl hr h42
    rw [f_AR_wayToExit_25, if_neg (pn6 hi), f_Mo_nearest_6, if_neg (pn6 hi)]
    unfold f_AR_nameOf f_Mo_nearest_71 f_Mo_nearest_67
    simp only [n7, Int32.add_zero, Option.bind_some, pz_ix h42 (show 42 < 2 ^ 31 by decide), pz_ix (ix_lt hl hr h42) (show 504 < 2 ^ 31 by decide), q_mat, hv, b1_0, pz_n, nI_1, n_eq (show i < 2 ^ 31 by omega) (show r < 2 ^ 31 by omega), a5, if_neg (show ¬ (0 : Int32) ≤ -1 by decide)]
    by_cases hir : i = r
    · subst hir
      simp only [if_true, nr_r, ite_self]
      exact ih (i + 1) fu fu' x (by omega) (by omega) (by omega) hx
    · simp only [if_neg hir]
      by_cases hm : mm 12 (ix l r (7 * i)) = 0
      · simp only [if_pos hm, nr_z, ite_self]
        exact ih (i + 1) fu fu' x (by omega) (by omega) (by omega) hx
      · simp only [if_neg hm]
        obtain ⟨x', y1, y2, y3, y4⟩ := nr_ R hi hir hr hx
        rw [pz_b y1]
        cases v with
        | true =>
          rw [if_pos rfl, y2]
          exact ih (i + 1) fu fu' x' (by omega) (by omega) (by omega) y3
        | false =>
          rw [if_neg (by decide), nr_z]
          have hk : ¬ K (7 * i) < 1000000 := fun z => by
            have := ((R i hi hir).2.2.2 z).1
            rw [hv] at this
            exact absurd (Option.some.inj this) (by decide)
          rw [y4 hk]
          exact ih (i + 1) fu fu' x (by omega) (by omega) (by omega) hx
theorem aw_neg {w : Int32} (h : aw_ w) : (w < 0) = (w = -1) := by
  rcases h with rfl | ⟨j, k, hj, hk, rfl⟩
  · simp
  · refine propext ⟨fun z => absurd z (nI_pos (by omega)), fun z => ?_⟩
    rw [z]; decide
/-- by level two, or to the nearest exit -/
theorem r57 {b : Nat} {mc mm : jz_M} (hI : I_ b mc mm) (hb : b ≤ 200000) {r d : Nat} (hr : r < 6) (hd : d < 6) : ∃ (w : Int32) (mc' mm' : jz_M), f_AR_wayFrom_57 (nI r) (nI d) mc = some (w, mc') ∧ f_Mo_routeOf_43 (nI r) (nI d) mm = some (w, mm') ∧ I_ b mc' mm' ∧ mm' 0 0 = mm 0 0 ∧ aw_ w := by
  unfold f_AR_wayFrom_57 f_Mo_routeOf_43
  rw [show (2 : Int32) = nI (1 + 1) from rfl, pz_b (q_hl hr (l := 1) (by decide) mc), pz_b (q_has hr (l := 1) (by decide) mm), b1_0, b1_0, I_hl hI hr 1]
  by_cases hh : o_hl mm r 1 = true
  · rw [if_pos hh, if_pos hh]
    obtain ⟨mc', mm', K, H, a1, a2, a3, a4, R⟩ := ways_ hI hb (l := 1) (by decide) hr
    have hI1 : I_ b mc' mm' := I_ext a3 (fun q _ h2 => a4 q (by omega)) hI
    obtain ⟨e1, _, ⟨a, ha, ea⟩, _⟩ := hI.1 d hd
    unfold f_AR_wayToArea f_AR_nameOf f_Mo_nearest
    rw [show (2 : Int32) = nI (1 + 1) from rfl]
    simp only [pz_ix hd (show 6 < 2 ^ 31 by decide), Option.bind_some, e1, ea, q_bs hr (show 1 < 2 by decide), n7, Int32.add_zero, a1, a2, a4 1 (by decide)]
    obtain ⟨w, w1, w2, w3⟩ := na_ hI1 hb (l := 1) (by decide) hr ha R 6 0 1000 1000000 (-1) (by decide) (by decide) (by decide) (Or.inl rfl)
    rw [show f_AR_wayToArea_26 1000 (nI r) (nI a) (bx 1 r) (-1) 0 mc' = some (w, mc') from w1, show f_Mo_nearest_6 mm' 1000000 (nI r) (nI (1 + 1)) (nI a) (-1) 0 = some w from w2]
    exact ⟨w, mc', mm', rfl, rfl, hI1, by rw [a4 0 (by decide)], w3⟩
  · rw [if_neg hh, if_neg hh]
    obtain ⟨mc', mm', K, H, a1, a2, a3, a4, R⟩ := ways_ hI hb (l := 0) (by decide) hr
    have hI1 : I_ b mc' mm' := I_ext a3 (fun q _ h2 => a4 q (by omega)) hI
    unfold f_AR_wayToExit f_AR_nameOf f_Mo_nearest
    have q1 : f_AR_baseOf (nI r) 1 mc = some (bx 0 r) := q_bs (l := 0) hr (by decide) mc
    have q2 : f_Mo_ways (nI r) 1 mm = some mm' := a2
    simp only [Option.bind_some, q1, n7, Int32.add_zero, a1, q2]
    obtain ⟨w, w1, w2, w3⟩ := nx_ hI1 hb (l := 0) (by decide) hr R 6 0 1000 1000000 (-1) (by decide) (by decide) (by decide) (Or.inl rfl)
    rw [show f_AR_wayToExit_25 1000 (nI r) (bx 0 r) (-1) 0 mc' = some (w, mc') from w1, show f_Mo_nearest_6 mm' 1000000 (nI r) 1 (-1) (-1) 0 = some w from w2]
    exact ⟨w, mc', mm', rfl, rfl, hI1, by rw [a4 0 (by decide)], w3⟩
theorem rt_ {b : Nat} {mc mm : jz_M} (hI : I_ b mc mm) (hb : b ≤ 200000) {r d : Nat} (hr : r < 6) (hd : d < 6) (hdr : d ≠ r) : ∃ (w : Int32) (mc' mm' : jz_M), f_AR_wayFrom (nI r) (nI d) mc = some (w, mc') ∧ f_Mo_routeOf (nI r) (nI d) mm = some (w, mm') ∧ I_ b mc' mm' ∧ mm' 0 0 = mm 0 0 ∧ aw_ w := by
  unfold f_AR_wayFrom f_Mo_routeOf
  rw [show (1 : Int32) = nI (0 + 1) from rfl, pz_b (q_hl hr (l := 0) (by decide) mc), pz_b (q_has hr (l := 0) (by decide) mm), b1_0, b1_0, I_hl hI hr 0]
  by_cases hh : o_hl mm r 0 = true
  · rw [if_pos hh, if_pos hh]
    obtain ⟨mc', mm', K, H, a1, a2, a3, a4, R⟩ := ways_ hI hb (l := 0) (by decide) hr
    have hI1 : I_ b mc' mm' := I_ext a3 (fun q _ h2 => a4 q (by omega)) hI
    unfold f_AR_nameOf
    simp only [pz_ix hd (show 6 < 2 ^ 31 by decide), pz_ix hr (show 6 < 2 ^ 31 by decide), Option.bind_some, (hI.1 d hd).1, (hI.1 r hr).1, q_bs hr (show 0 < 2 by decide), n7, Int32.add_zero, a1, a2]
    obtain ⟨w, w1, w2, w3⟩ := wayTo_ R hr hd hdr
    rw [w1, w2]
    simp only [Option.bind_some]
    have haw : aw_ w := by
      rcases w3 with ⟨z, _⟩ | ⟨_, z⟩
      · exact Or.inl z
      · exact Or.inr z
    by_cases he : mm 1 r = mm 1 d
    · rw [if_neg (show ¬ ¬ mm 1 r = mm 1 d from fun z => z he), if_neg (show ¬ ¬ mm 1 d = mm 1 r from fun z => z he.symm)]
      by_cases hw : w < 0
      · rw [if_pos hw, if_pos hw]
        obtain ⟨w', c2, m2, d1, d2, d3, d4, d5⟩ := r57 hI1 hb hr hd
        exact ⟨w', c2, m2, d1, d2, d3, by rw [d4, a4 0 (by decide)], d5⟩
      · rw [if_neg hw, if_neg hw]
        exact ⟨w, mc', mm', rfl, rfl, hI1, by rw [a4 0 (by decide)], haw⟩
    · rw [if_pos he, if_pos (show ¬ mm 1 d = mm 1 r from fun z => he z.symm)]
      exact r57 hI hb hr hd
  · rw [if_neg hh, if_neg hh]
    exact r57 hI hb hr hd
theorem ok_route : sp_route J_ := by
  intro c mc mm hc hI a1 a2
  unfold f_AR_route f_Mo_route
  simp only [pz_n]
  obtain ⟨m1, hm1⟩ : ∃ x, x = jz_up mm 0 0 0 := ⟨_, rfl⟩
  rw [← hm1]
  have hI1 : I_ (252 * c) mc m1 := by rw [hm1]; exact I_thr 0 0 hI
  rcases pz_rng (n := 6) (by decide) a1 with ⟨r, hr, rfl⟩ | ho
  · simp only [q_rt_in hr, q_one_in hr, Option.bind_some, i10]
    rcases pz_rng (n := 6) (by decide) a2 with ⟨d, hd, rfl⟩ | ho
    · simp only [q_rt_in hd, q_one_in hd, Option.bind_some, i10, n_eq (show r < 2 ^ 31 by omega) (show d < 2 ^ 31 by omega)]
      by_cases hrd : r = d
      · simp only [if_pos hrd, if_neg (fun z => z hrd : ¬ ¬ r = d)]
        exact ⟨_, _, rfl, rfl, rfl, I_up hI1⟩
      · simp only [if_neg hrd, if_pos hrd]
        obtain ⟨w, c2, m2, e1, e2, e3, e4, e5⟩ := rt_ hI1 (by omega) hr hd (fun z => hrd z.symm)
        rw [e1, e2]
        exact ⟨_, _, rfl, rfl, rfl, I_up e3⟩
    · simp only [q_rt_out ho, q_one_out ho, Option.bind_some, i00]
      exact ⟨_, _, rfl, rfl, rfl, I_up hI1⟩
  · simp only [q_rt_out ho, q_one_out ho, Option.bind_some, i00]
    exact ⟨_, _, rfl, rfl, rfl, I_up hI1⟩
theorem nI_div8 {a : Nat} (ha : a < 2 ^ 31) : nI a / 8 = nI (a / 8) := by
  apply Int32.toInt_inj.mp
  rw [Int32.toInt_div, nI_toInt ha, nI_toInt (by omega), show (8 : Int32).toInt = 8 from rfl, Int.tdiv_eq_ediv_of_nonneg (by omega), Int.bmod_def]
  split <;> omega
theorem nI_and7 (a : Nat) : nI a &&& 7 = nI (a &&& 7) := by
  apply Int32.toBitVec_inj.mp
  show (Int32.ofNat a &&& Int32.ofNat 7).toBitVec = (Int32.ofNat (a &&& 7)).toBitVec
  rw [Int32.toBitVec_and]
  show BitVec.ofNat 32 a &&& BitVec.ofNat 32 7 = BitVec.ofNat 32 (a &&& 7)
  exact (BitVec.ofNat_and).symm
theorem w8_all {j k : Nat} (hj : j < 6) (hk : k ≤ 2520) : nI (j + 8 * k) - nI (j + 8 * k) / 8 * 8 = nI j ∧ nI (j + 8 * k) &&& 7 = nI j := by
  refine ⟨?_, ?_⟩
  · rw [nI_div8 (by omega), show (j + 8 * k) / 8 = k by omega, show (8 : Int32) = nI 8 from rfl, nI_mul, show j + 8 * k = j + k * 8 by omega, ← nI_add]
    exact Int32.add_sub_cancel _ _
  · rw [nI_and7, show (7 : Nat) = 2 ^ 3 - 1 from rfl, Nat.and_two_pow_sub_one_eq_mod, show (j + 8 * k) % 2 ^ 3 = j by omega]
theorem tr_ {b d : Nat} (hb : b ≤ 200000) (hd : d < 6) : ∀ (g n fu fu' r : Nat) (mc mm : jz_M), n + g = 11 → g < fu → g < fu' → r < 6 → I_ b mc mm → ∃ (w : Int32) (mc' mm' : jz_M), f_AR_trace_21 fu (nI d) (nI r) (nI n) mc = some (w, mc') ∧ f_Mo_trace_26 fu' (nI d) (nI r) (nI n) mm = some (w, mm') ∧ I_ b mc' mm' := by
  intro g
  induction g with
  | zero =>
    intro n fu fu' r mc mm h1 h2 h3 hr hI
    obtain ⟨fu, rfl⟩ : ∃ k, fu = k + 1 := ⟨fu - 1, by omega⟩
    obtain ⟨fu', rfl⟩ : ∃ k, fu' = k + 1 := ⟨fu' - 1, by omega⟩
    have h10 : (10 : Int32) < nI n := nI_lt (a := 10) (by omega) (by omega)
    exact ⟨-1, mc, mm, by rw [f_AR_trace_21, if_pos h10], by rw [f_Mo_trace_26, if_pos h10], hI⟩
  | succ g ih =>
    intro n fu fu' r mc mm h1 h2 h3 hr hI
    obtain ⟨fu, rfl⟩ : ∃ k, fu = k + 1 := ⟨fu - 1, by omega⟩
    obtain ⟨fu', rfl⟩ : ∃ k, fu' = k + 1 := ⟨fu' - 1, by omega⟩
    have h10 : ¬ (10 : Int32) < nI n := fun z => absurd ((nI_ltI (a := 10) (by decide) (by omega)).mp z) (by omega)
    rw [f_AR_trace_21, if_neg h10, f_Mo_trace_26, if_neg h10]
    simp only [pz_n, nI_1, n_eq (show r < 2 ^ 31 by omega) (show d < 2 ^ 31 by omega)]
    by_cases hrd : r = d
    · simp only [if_neg (fun z => z hrd : ¬ ¬ r = d)]
      exact ⟨_, mc, mm, rfl, rfl, hI⟩
    · simp only [if_pos hrd]
      obtain ⟨w, c2, m2, e1, e2, e3, e4, e5⟩ := rt_ hI hb hr hd (fun z => hrd z.symm)
      rw [e1, e2]
      simp only [Option.bind_some]
      rcases e5 with rfl | ⟨j, k, hj, hk, rfl⟩
      · rw [if_neg (by decide), if_neg (by decide)]
        exact ⟨-1, c2, m2, rfl, rfl, e3⟩
      · have h0 : (0 : Int32) ≤ nI (j + 8 * k) := nI_le (a := 0) (by omega) (by omega)
        rw [if_pos h0, if_pos h0, (w8_all hj hk).1, (w8_all hj hk).2]
        exact ih (n + 1) fu fu' j c2 m2 (by omega) (by omega) (by omega) hj e3
theorem ok_trace : sp_trace J_ := by
  intro c mc mm hc hI a1 a2
  unfold f_AR_trace f_Mo_trace
  simp only [pz_n]
  obtain ⟨m1, hm1⟩ : ∃ x, x = jz_up mm 0 0 0 := ⟨_, rfl⟩
  rw [← hm1]
  have hI1 : I_ (252 * c) mc m1 := by rw [hm1]; exact I_thr 0 0 hI
  rcases pz_rng (n := 6) (by decide) a1 with ⟨r, hr, rfl⟩ | ho
  · simp only [q_rt_in hr, q_one_in hr, Option.bind_some, i10]
    rcases pz_rng (n := 6) (by decide) a2 with ⟨d, hd, rfl⟩ | ho
    · simp only [q_rt_in hd, q_one_in hd, Option.bind_some, n10]
      obtain ⟨w, c2, m2, e1, e2, e3⟩ := tr_ (b := 252 * c) (by omega) hd 11 0 1000 1000000 r mc m1 (by decide) (by decide) (by decide) hr hI1
      exact ⟨(w, c2), (w, m2), e1, e2, rfl, I_up e3⟩
    · simp only [q_rt_out ho, q_one_out ho, Option.bind_some, n00]
      exact ⟨_, _, rfl, rfl, rfl, I_up hI1⟩
  · simp only [q_rt_out ho, q_one_out ho, Option.bind_some, i00]
    exact ⟨_, _, rfl, rfl, rfl, I_up hI1⟩
