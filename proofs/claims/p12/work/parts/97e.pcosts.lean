/-! the reference's costs -/
def gM (m : jz_M) (l r : Nat) (G : GR) : Prop := ∀ u, u < 42 → (∃ s f : Nat, s ≤ 200000 ∧ f ≤ 20 ∧ m 8 (ix l r u) = nI s ∧ m 10 (ix l r u) = nI f ∧ (al_ G u = true ↔ f ≠ 0) ∧ (f ≠ 0 → s ≠ 0)) ∧ m 14 (ix l r u) = nI (mn_ G u) ∧ (∀ k, k < mn_ G u → m 15 (10 * ix l r u + k) = nI (tg_ G u k + 64 * wt_ G u k))
theorem gM_fr {m m' : jz_M} {l r : Nat} {G : GR} (h : gM m l r G) (hf : ∀ q, q ≤ 17 → m' q = m q) : gM m' l r G := by
  intro u hu
  rw [hf 8 (by decide), hf 10 (by decide), hf 14 (by decide), hf 15 (by decide)]
  exact h u hu
def cM (x : Nat) : Int32 := if x < 1000000 then nI x else -1
def rM (m : jz_M) (K : Nat → Nat) : Prop := ∀ v, v < 42 → m 19 v = cM (K v)
theorem cM_neg {x : Nat} : (cM x < 0) = ¬ (x < 1000000) := by
  unfold cM
  by_cases h : x < 1000000
  · rw [if_pos h]; simp only [h, not_true_eq_false, eq_iff_iff, iff_false]; exact nI_pos (by omega)
  · rw [if_neg h]; simp only [h, not_false_eq_true, eq_iff_iff, iff_true]; decide
/-- links to -/
theorem m_lt14 {m : jz_M} {l r : Nat} {G : GR} (hG : GP_ G) (h : gM m l r G) (hl : l < 2) (hr : r < 6) {v u : Nat} (hv : v < 42) (hu : u < 42) : ∀ (g i fu : Nat), i + g = mn_ G v → g < fu → f_Mo_linksTo_14 m fu (nI u) (nI (ix l r v)) 1 (nI i) = some 1 ∧ ((al_ G v = true ∧ ∃ k, i ≤ k ∧ k < mn_ G v ∧ tg_ G v k = u) → f_Mo_linksTo_14 m fu (nI u) (nI (ix l r v)) 0 (nI i) = some 1) ∧ (¬ (al_ G v = true ∧ ∃ k, i ≤ k ∧ k < mn_ G v ∧ tg_ G v k = u) → f_Mo_linksTo_14 m fu (nI u) (nI (ix l r v)) 0 (nI i) = some 0) := by
  obtain ⟨⟨s, f, hs, hf, e8, e10, ha, hsf⟩, e14, e15⟩ := h v hv
  obtain ⟨gm, gt⟩ := hG v hv
  have hix := ix_lt hl hr hv
  intro g
  induction g with
  | zero =>
    intro i fu h1 h2
    obtain ⟨fu, rfl⟩ : ∃ k, fu = k + 1 := ⟨fu - 1, by omega⟩
    rw [f_Mo_linksTo_14, f_Mo_linksTo_14]
    simp only [pz_ix hix (show 504 < 2 ^ 31 by decide), Option.bind_some, e14, if_pos (nI_le (show mn_ G v ≤ i by omega) (show i < 2 ^ 31 by omega)), bo_0, bo_1]
    exact ⟨trivial, fun ⟨_, k, a, b, _⟩ => by omega, fun _ => trivial⟩
  | succ g ih =>
    intro i fu h1 h2
    obtain ⟨fu, rfl⟩ : ∃ k, fu = k + 1 := ⟨fu - 1, by omega⟩
    obtain ⟨j0, j1, j2⟩ := ih (i + 1) fu (by omega) (by omega)
    obtain ⟨t1, t2, _⟩ := gt i (by omega)
    have a1 : f_Mo_linksTo_14 m (fu + 1) (nI u) (nI (ix l r v)) 1 (nI i) = some 1 := by
      rw [f_Mo_linksTo_14]
      unfold f_Mo_linksTo_72
      simp only [pz_ix hix (show 504 < 2 ^ 31 by decide), Option.bind_some, e14, if_neg (pn_k (show i < mn_ G v by omega) (show mn_ G v < 2 ^ 31 by omega)), bo_1, pz_n, nI_1, j0]
      simp
    refine ⟨a1, ?_⟩
    rw [f_Mo_linksTo_14]
    unfold f_Mo_linksTo_72
    simp only [pz_ix hix (show 504 < 2 ^ 31 by decide), Option.bind_some, e14, if_neg (pn_k (show i < mn_ G v by omega) (show mn_ G v < 2 ^ 31 by omega)), bo_0, pz_n, nI_1, j0, e8, e10, n_le0 (show s < 2 ^ 31 by omega), n_le0 (show f < 2 ^ 31 by omega), nI_10m, pz_ix (show 10 * ix l r v + i < 5040 by omega) (show 5040 < 2 ^ 31 by decide), e15 i (by omega), (lw_all (wt_ G v i) t2 (tg_ G v i) t1).2.1, n_eq (show tg_ G v i < 2 ^ 31 by omega) (show u < 2 ^ 31 by omega)]
    by_cases hf0 : f = 0
    · have hna : ¬ al_ G v = true := fun z => (ha.mp z) hf0
      refine ⟨fun z => absurd z.1 hna, fun _ => ?_⟩
      rw [if_pos hf0, ite_self]
    · have hal := ha.mpr hf0
      rw [if_neg (hsf hf0), if_neg hf0, if_neg (by decide)]
      by_cases hh : tg_ G v i = u
      · rw [if_neg (fun z => z hh)]
        exact ⟨fun _ => rfl, fun z => absurd ⟨hal, i, Nat.le_refl _, by omega, hh⟩ z⟩
      · rw [if_pos hh]
        refine ⟨fun ⟨_, k, a, b, d⟩ => j1 ⟨hal, k, ?_, b, d⟩, fun z => j2 (fun ⟨_, k, a, b, d⟩ => z ⟨hal, k, by omega, b, d⟩)⟩
        rcases Nat.lt_or_ge i k with z | z
        · exact z
        · exact absurd (show tg_ G v i = u by rw [show i = k by omega]; exact d) hh
theorem m_lt {m : jz_M} {l r : Nat} {G : GR} (hG : GP_ G) (h : gM m l r G) (hl : l < 2) (hr : r < 6) {v u : Nat} (hv : v < 42) (hu : u < 42) : (lt_ G v u → f_Mo_linksTo (nI r) (nI (l + 1)) (nI v) (nI u) m = some 1) ∧ (¬ lt_ G v u → f_Mo_linksTo (nI r) (nI (l + 1)) (nI v) (nI u) m = some 0) := by
  have := (hG v hv).1
  obtain ⟨_, a, b⟩ := m_lt14 hG h hl hr hv hu (mn_ G v) 0 1000000 (by omega) (by omega)
  unfold f_Mo_linksTo
  rw [pz_b (q_mat m)]
  exact ⟨fun ⟨h1, k, h2, h3⟩ => a ⟨h1, k, Nat.zero_le _, h2, h3⟩, fun z => b (fun ⟨h1, k, _, h2, h3⟩ => z ⟨h1, k, h2, h3⟩)⟩
def rch (K : Nat → Nat) (v : Nat) : Nat := if K v < 1000000 then 1 else 0
/-- costs that may still fall -/
def B_ (G : GR) (s : Nat) (K : Nat → Nat) : Prop := al_ G s = true ∧ K s = 0 ∧ (∀ v, v < 42 → K v = 1000000 ∨ K v + 60 ≤ 60 * sm 42 (rch K)) ∧ (∀ v, v < 42 → v ≠ s → K v < 1000000 → ∃ u k, u < 42 ∧ K u < 1000000 ∧ ed_ G u k ∧ tg_ G u k = v ∧ K u + wt_ G u k ≤ K v)
def B2_ (G : GR) (s : Nat) (K : Nat → Nat) : Prop := (al_ G s = true ∧ B_ G s K) ∨ (al_ G s = false ∧ ∀ v, v < 42 → K v = 1000000)
theorem rch_le (K : Nat → Nat) : sm 42 (rch K) ≤ 42 := by
  have := sm_le (f := rch K) (g := fun _ => 1) 42 (fun v _ => by unfold rch; split <;> decide)
  rw [sm_c] at this
  omega
theorem B2_b {G : GR} {s : Nat} {K : Nat → Nat} (B : B2_ G s K) {v : Nat} (hv : v < 42) : K v = 1000000 ∨ K v ≤ 2460 := by
  rcases B with ⟨ba, B⟩ | ⟨ba, B⟩
  · have := B.2.2.1 v hv
    have := rch_le K
    omega
  · exact Or.inl (B v hv)
theorem B2_al {G : GR} {s : Nat} {K : Nat → Nat} (B : B2_ G s K) {v : Nat} (hv : v < 42) (h : K v < 1000000) : al_ G v = true := by
  rcases B with ⟨ba, B⟩ | ⟨ba, B⟩
  · by_cases hs : v = s
    · rw [hs]; exact B.1
    · obtain ⟨u, k, h1, h2, h3, h4, h5⟩ := B.2.2.2 v hv hs h
      have := h3.2.2.1
      rw [h4] at this
      exact this
  · have := B v hv; omega
def ph_ (K : Nat → Nat) : Nat := sm 42 (fun v => min (K v) 2521)
theorem B2_up {G : GR} (hG : GP_ G) {s : Nat} {K : Nat → Nat} (B : B2_ G s K) {u k : Nat} (hu : u < 42) (hk : K u < 1000000) (he : ed_ G u k) (h : K u + wt_ G u k < K (tg_ G u k)) : B2_ G s (up_ K (tg_ G u k) (K u + wt_ G u k)) ∧ ph_ (up_ K (tg_ G u k) (K u + wt_ G u k)) < ph_ K := by
  obtain ⟨t1, t2, _⟩ := (hG u hu).2 k he.2.1
  obtain ⟨c, hc⟩ : ∃ c, c = K u + wt_ G u k := ⟨_, rfl⟩
  obtain ⟨t, ht⟩ : ∃ t, t = tg_ G u k := ⟨_, rfl⟩
  rw [← ht, ← hc] at h ⊢
  rw [← ht] at t1
  have hub := B2_b B hu
  have htb := B2_b B t1
  refine ⟨?_, ?_⟩
  · rcases B with ⟨ba, B⟩ | ⟨ba, B⟩
    · obtain ⟨b1, b2, b3, b4⟩ := B
      have hts : t ≠ s := fun z => by rw [z, b2] at h; omega
      have hut : u ≠ t := fun z => by rw [z] at hc; omega
      have hrc : sm 42 (rch (up_ K t c)) = sm 42 (up_ (rch K) t 1) := sm_ext 42 (fun v _ => by
        unfold rch
        by_cases hvt : v = t
        · rw [hvt, up_s, up_s, if_pos (by omega)]
        · rw [up_n _ _ hvt, up_n _ _ hvt])
      have hsu := sm_up (f := rch K) (t := t) (x := 1) 42 t1
      have hrt : rch K t = if K t < 1000000 then 1 else 0 := rfl
      refine Or.inl ⟨ba, b1, by rw [up_n _ _ (fun z => hts z.symm)]; exact b2, fun v hv => ?_, fun v hv hvs hvk => ?_⟩
      · rw [hrc]
        have g1 := b3 u hu
        have g2 := b3 t t1
        by_cases hvt : v = t
        · rw [hvt, up_s]
          refine Or.inr ?_
          split at hrt <;> omega
        · rw [up_n _ _ hvt]
          have g3 := b3 v hv
          split at hrt <;> omega
      · by_cases hvt : v = t
        · subst hvt
          exact ⟨u, k, hu, by rw [up_n _ _ hut]; exact hk, he, ht.symm, by rw [up_s, up_n _ _ hut]; omega⟩
        · rw [up_n _ _ hvt] at hvk ⊢
          obtain ⟨u', k', a1, a2, a3, a4, a5⟩ := b4 v hv hvs hvk
          by_cases hu't : u' = t
          · subst hu't
            exact ⟨u', k', a1, by rw [up_s]; omega, a3, a4, by rw [up_s]; omega⟩
          · exact ⟨u', k', a1, by rw [up_n _ _ hu't]; exact a2, a3, a4, by rw [up_n _ _ hu't]; exact a5⟩
    · have := B u hu; omega
  · unfold ph_
    refine sm_lt (t := t) 42 (fun v hv => ?_) t1 ?_
    · show min (up_ K t c v) 2521 ≤ min (K v) 2521
      by_cases hvt : v = t
      · rw [hvt, up_s]; omega
      · rw [up_n _ _ hvt]; exact Nat.le_refl _
    · show min (up_ K t c t) 2521 < min (K t) 2521
      rw [up_s]; omega
theorem rM_1 {m : jz_M} {K : Nat → Nat} (h : rM m K) (t : Nat) {c : Nat} (hc : c < 1000000) : rM (jz_up m 19 t (nI c)) (up_ K t c) := by
  intro v hv
  rw [pz_up]
  by_cases hvt : v = t
  · rw [if_pos ⟨rfl, hvt⟩, hvt, up_s]; unfold cM; rw [if_pos hc]
  · rw [if_neg (fun z => hvt z.2), up_n _ _ hvt]; exact h v hv
/-- what a run over links did: nothing, and they are in order, or it made costs fall -/
def Y_ (m m' : jz_M) (K K' : Nat → Nat) (x x' : Int32) (S : Prop) : Prop := (x' = x ∧ m' = m ∧ K' = K ∧ S) ∨ (x' = 1 ∧ ph_ K' < ph_ K)
/-- the links of one name -/
theorem m_c78 {l r : Nat} {G : GR} (hG : GP_ G) (hl : l < 2) (hr : r < 6) {u s : Nat} (hu : u < 42) : ∀ (g i fu : Nat) (x : Int32) (m : jz_M) (K : Nat → Nat), i + g = mn_ G u → g < fu → gM m l r G → rM m K → B2_ G s K → ∃ (x' : Int32) (m' : jz_M) (K' : Nat → Nat), (∀ k50 k59, f_Mo_costs_78 k50 k59 fu (nI r) (nI (l + 1)) x (nI u) (nI (ix l r u)) (nI i) m = k59 (nI r) (nI (l + 1)) x' (nI (u + 1)) m') ∧ (∀ q, q ≠ 19 → m' q = m q) ∧ rM m' K' ∧ B2_ G s K' ∧ Y_ m m' K K' x x' (K u < 1000000 → ∀ k, i ≤ k → ed_ G u k → K (tg_ G u k) ≤ K u + wt_ G u k) := by
  have hix := ix_lt hl hr hu
  have hmn := (hG u hu).1
  intro g
  induction g with
  | zero =>
    intro i fu x m K h1 h2 hg hr' B
    obtain ⟨fu, rfl⟩ : ∃ k, fu = k + 1 := ⟨fu - 1, by omega⟩
    refine ⟨x, m, K, fun k50 k59 => ?_, fun _ _ => rfl, hr', B, Or.inl ⟨rfl, rfl, rfl, fun _ k hk he => by have := he.2.1; omega⟩⟩
    rw [f_Mo_costs_78]
    simp only [pz_ix hu (show 42 < 2 ^ 31 by decide), pz_ix hix (show 504 < 2 ^ 31 by decide), Option.bind_some, (hg u hu).2.1, if_pos (nI_le (show mn_ G u ≤ i by omega) (show i < 2 ^ 31 by omega)), pz_n, nI_1, ite_self]
  | succ g ih =>
    intro i fu x m K h1 h2 hg hr' B
    obtain ⟨fu, rfl⟩ : ∃ k, fu = k + 1 := ⟨fu - 1, by omega⟩
    have hi : i < mn_ G u := by omega
    obtain ⟨t1, t2, _⟩ := (hG u hu).2 i hi
    obtain ⟨lw1, lw2⟩ := (lw_all (wt_ G u i) t2 (tg_ G u i) t1).2
    by_cases hKu : K u < 1000000
    · have hub := B2_b B hu
      have htb := B2_b B t1
      obtain ⟨l1, l2⟩ := m_lt hG hg hl hr t1 hu
      have cu : cM (K u) = nI (K u) := if_pos hKu
      -- one step
      have e : ∀ k50 k59, f_Mo_costs_78 k50 k59 (fu + 1) (nI r) (nI (l + 1)) x (nI u) (nI (ix l r u)) (nI i) m = if K u + wt_ G u i < K (tg_ G u i) then f_Mo_costs_166 k50 k59 (f_Mo_costs_78 k50 k59 fu) (nI r) (nI (l + 1)) x (nI u) (nI (ix l r u)) (nI i) (nI (tg_ G u i)) (nI (K u + wt_ G u i)) m else f_Mo_costs_78 k50 k59 fu (nI r) (nI (l + 1)) x (nI u) (nI (ix l r u)) (nI (i + 1)) m := fun k50 k59 => by
        rw [f_Mo_costs_78]
        simp only [pz_ix hu (show 42 < 2 ^ 31 by decide), pz_ix hix (show 504 < 2 ^ 31 by decide), pz_ix t1 (show 42 < 2 ^ 31 by decide), Option.bind_some, (hg u hu).2.1, hr' u hu, hr' (tg_ G u i) t1, cu, if_neg (pn_k hi (show mn_ G u < 2 ^ 31 by omega)), pz_n, nI_1, nI_10m, pz_ix (show 10 * ix l r u + i < 5040 by omega) (show 5040 < 2 ^ 31 by decide), (hg u hu).2.2 i hi, lw1, lw2, nI_add, if_neg (nI_pos (show K u < 2 ^ 31 by omega)), cM_neg]
        by_cases hKt : K (tg_ G u i) < 1000000
        · rw [if_neg (fun z => z hKt), show cM (K (tg_ G u i)) = nI (K (tg_ G u i)) from if_pos hKt, pz_nle (show K (tg_ G u i) < 2 ^ 31 by omega) (show K u + wt_ G u i < 2 ^ 31 by omega)]
        · rw [if_pos hKt, if_pos (show K u + wt_ G u i < K (tg_ G u i) by omega)]
      by_cases hlt : K u + wt_ G u i < K (tg_ G u i)
      · by_cases hL : lt_ G (tg_ G u i) u
        · have he : ed_ G u i := ⟨B2_al B hu hKu, hi, hL⟩
          obtain ⟨B', P'⟩ := B2_up hG B hu hKu he hlt
          obtain ⟨x', m', K', a1, a2, a3, a4, a5⟩ := ih (i + 1) fu 1 (jz_up m 19 (tg_ G u i) (nI (K u + wt_ G u i))) _ (by omega) (by omega) (gM_fr hg (fun q hq => jz_up_k (by omega))) (rM_1 hr' (tg_ G u i) (by omega)) B'
          refine ⟨x', m', K', fun k50 k59 => ?_, fun q hq => (a2 q hq).trans (jz_up_k hq), a3, a4, Or.inr ?_⟩
          · rw [e, if_pos hlt]
            unfold f_Mo_costs_166
            simp only [l1 hL, Option.bind_some, i10, pz_ix t1 (show 42 < 2 ^ 31 by decide), pz_n, nI_1]
            exact a1 k50 k59
          · rcases a5 with ⟨y1, y2, y3, y4⟩ | ⟨y1, y2⟩
            · exact ⟨y1, by rw [y3]; exact P'⟩
            · exact ⟨y1, by omega⟩
        · obtain ⟨x', m', K', a1, a2, a3, a4, a5⟩ := ih (i + 1) fu x m K (by omega) (by omega) hg hr' B
          refine ⟨x', m', K', fun k50 k59 => ?_, a2, a3, a4, ?_⟩
          · rw [e, if_pos hlt]
            unfold f_Mo_costs_166
            simp only [l2 hL, Option.bind_some, if_true, pz_n, nI_1]
            exact a1 k50 k59
          · rcases a5 with ⟨y1, y2, y3, y4⟩ | y
            · refine Or.inl ⟨y1, y2, y3, fun hk k hki he => ?_⟩
              by_cases hki' : k = i
              · subst hki'; exact absurd he.2.2 hL
              · exact y4 hk k (by omega) he
            · exact Or.inr y
      · obtain ⟨x', m', K', a1, a2, a3, a4, a5⟩ := ih (i + 1) fu x m K (by omega) (by omega) hg hr' B
        refine ⟨x', m', K', fun k50 k59 => by rw [e, if_neg hlt]; exact a1 k50 k59, a2, a3, a4, ?_⟩
        rcases a5 with ⟨y1, y2, y3, y4⟩ | y
        · refine Or.inl ⟨y1, y2, y3, fun hk k hki he => ?_⟩
          by_cases hki' : k = i
          · subst hki'; omega
          · exact y4 hk k (by omega) he
        · exact Or.inr y
    · refine ⟨x, m, K, fun k50 k59 => ?_, fun _ _ => rfl, hr', B, Or.inl ⟨rfl, rfl, rfl, fun z => absurd z hKu⟩⟩
      rw [f_Mo_costs_78]
      simp only [pz_ix hu (show 42 < 2 ^ 31 by decide), Option.bind_some, hr' u hu, cM_neg, if_pos hKu, pz_n, nI_1]
/-- one pass -/
theorem m_c59 {l r : Nat} {G : GR} (hG : GP_ G) (hl : l < 2) (hr : r < 6) {s : Nat} : ∀ (g u fu : Nat) (x : Int32) (m : jz_M) (K : Nat → Nat), u + g = 42 → g < fu → gM m l r G → rM m K → B2_ G s K → ∃ (x' : Int32) (m' : jz_M) (K' : Nat → Nat), (∀ k50, f_Mo_costs_59 k50 fu (nI r) (nI (l + 1)) x (nI u) m = k50 (nI r) (nI (l + 1)) x' m') ∧ (∀ q, q ≠ 19 → m' q = m q) ∧ rM m' K' ∧ B2_ G s K' ∧ Y_ m m' K K' x x' (∀ u', u ≤ u' → u' < 42 → K u' < 1000000 → ∀ k, ed_ G u' k → K (tg_ G u' k) ≤ K u' + wt_ G u' k) := by
  intro g
  induction g with
  | zero =>
    intro u fu x m K h1 h2 hg hr' B
    obtain ⟨fu, rfl⟩ : ∃ k, fu = k + 1 := ⟨fu - 1, by omega⟩
    exact ⟨x, m, K, fun k50 => by rw [f_Mo_costs_59, if_pos (py42 (by omega) (by omega))], fun _ _ => rfl, hr', B, Or.inl ⟨rfl, rfl, rfl, fun u' a b => by omega⟩⟩
  | succ g ih =>
    intro u fu x m K h1 h2 hg hr' B
    obtain ⟨fu, rfl⟩ : ∃ k, fu = k + 1 := ⟨fu - 1, by omega⟩
    have hu : u < 42 := by omega
    have hmn := (hG u hu).1
    obtain ⟨x1, m1, K1, a1, a2, a3, a4, a5⟩ := m_c78 hG hl hr hu (s := s) (mn_ G u) 0 1000000 x m K (by omega) (by omega) hg hr' B
    obtain ⟨x2, m2, K2, b1, b2, b3, b4, b5⟩ := ih (u + 1) fu x1 m1 K1 (by omega) (by omega) (gM_fr hg (fun q hq => a2 q (by omega))) a3 a4
    refine ⟨x2, m2, K2, fun k50 => ?_, fun q hq => (b2 q hq).trans (a2 q hq), b3, b4, ?_⟩
    · rw [f_Mo_costs_59, if_neg (pn42 hu), pz_b (q_mat m)]
      exact (a1 _ _).trans (b1 k50)
    · rcases a5 with ⟨y1, y2, y3, y4⟩ | ⟨y1, y2⟩
      · subst y1 y2 y3
        rcases b5 with ⟨z1, z2, z3, z4⟩ | z
        · refine Or.inl ⟨z1, z2, z3, fun u' a b hk k he => ?_⟩
          by_cases huu : u' = u
          · subst huu; exact y4 hk k (Nat.zero_le _) he
          · exact z4 u' (by omega) b hk k he
        · exact Or.inr z
      · rcases b5 with ⟨z1, z2, z3, z4⟩ | ⟨z1, z2⟩
        · exact Or.inr ⟨by rw [z1, y1], by rw [z3]; exact y2⟩
        · exact Or.inr ⟨z1, by omega⟩
/-- passes until nothing falls -/
theorem m_c50 {l r : Nat} {G : GR} (hG : GP_ G) (hl : l < 2) (hr : r < 6) {s : Nat} : ∀ (p fu : Nat) (m : jz_M) (K : Nat → Nat), ph_ K ≤ p → p + 1 < fu → gM m l r G → rM m K → B2_ G s K → ∃ (m' : jz_M) (K' : Nat → Nat), f_Mo_costs_50 fu (nI r) (nI (l + 1)) 1 m = some m' ∧ (∀ q, q ≠ 19 → m' q = m q) ∧ rM m' K' ∧ B2_ G s K' ∧ (∀ u, u < 42 → K' u < 1000000 → ∀ k, ed_ G u k → K' (tg_ G u k) ≤ K' u + wt_ G u k) := by
  intro p
  induction p with
  | zero =>
    intro fu m K h1 h2 hg hr' B
    obtain ⟨fu, rfl⟩ : ∃ k, fu = k + 2 := ⟨fu - 2, by omega⟩
    obtain ⟨x1, m1, K1, a1, a2, a3, a4, a5⟩ := m_c59 hG hl hr (s := s) 42 0 1000000 0 m K (by decide) (by decide) hg hr' B
    rcases a5 with ⟨y1, y2, y3, y4⟩ | ⟨y1, y2⟩
    · subst y1 y2 y3
      refine ⟨m1, K1, ?_, fun _ _ => rfl, a3, a4, fun u hu => y4 u (Nat.zero_le _) hu⟩
      rw [f_Mo_costs_50, i10]
      refine (a1 _).trans ?_
      rw [f_Mo_costs_50, if_pos rfl]
    · omega
  | succ p ih =>
    intro fu m K h1 h2 hg hr' B
    obtain ⟨fu, rfl⟩ : ∃ k, fu = k + 2 := ⟨fu - 2, by omega⟩
    obtain ⟨x1, m1, K1, a1, a2, a3, a4, a5⟩ := m_c59 hG hl hr (s := s) 42 0 1000000 0 m K (by decide) (by decide) hg hr' B
    rcases a5 with ⟨y1, y2, y3, y4⟩ | ⟨y1, y2⟩
    · subst y1 y2 y3
      refine ⟨m1, K1, ?_, fun _ _ => rfl, a3, a4, fun u hu => y4 u (Nat.zero_le _) hu⟩
      rw [f_Mo_costs_50, i10]
      refine (a1 _).trans ?_
      rw [f_Mo_costs_50, if_pos rfl]
    · obtain ⟨m2, K2, b1, b2, b3, b4, b5⟩ := ih (fu + 1) m1 K1 (by omega) (by omega) (gM_fr hg (fun q hq => a2 q (by omega))) a3 a4
      refine ⟨m2, K2, ?_, fun q hq => (b2 q hq).trans (a2 q hq), b3, b4, b5⟩
      rw [f_Mo_costs_50, i10]
      refine (a1 _).trans ?_
      rw [y1]; exact b1
