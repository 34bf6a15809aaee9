/-! the reference's first hops, in its cells -/
theorem cM_eq {x c : Nat} (hx : x ≤ 1000000) (hc : c < 1000000) : (cM x = nI c) = (x = c) := by
  unfold cM
  by_cases h : x < 1000000
  · rw [if_pos h, n_eq (by omega) (by omega)]
  · rw [if_neg h]
    refine propext ⟨fun z => ?_, fun z => by omega⟩
    exact absurd (show nI c < 0 by rw [← z]; decide) (nI_pos (by omega))
theorem m_h62 {l r : Nat} {G : GR} (hG : GP_ G) (hl : l < 2) (hr : r < 6) {K : Nat → Nat} {u : Nat} (hu : u < 42) (B : B2_ G (7 * r) K) : ∀ (g i fu : Nat) (x : Int32) (m : jz_M) (H : Nat → Nat), i + g = mn_ G u → g < fu → gM m l r G → rM m K → rH m H → V_ G (7 * r) K H → (x = 0 ∨ x = 1) → ∃ (x' : Int32) (m' : jz_M) (H' : Nat → Nat), (∀ k34 k43, f_Mo_firstHops_62 k34 k43 fu (nI r) (nI (l + 1)) x (nI u) (nI (ix l r u)) (nI i) m = k43 (nI r) (nI (l + 1)) x' (nI (u + 1)) m') ∧ (∀ q, q ≠ 20 → m' q = m q) ∧ rH m' H' ∧ V_ G (7 * r) K H' ∧ (x' = 0 ∨ x' = 1) ∧ Yh m m' H H' x x' (K u < 1000000 → H u ≠ 0 → ∀ k, i ≤ k → tt_ G (7 * r) K u k → H (tg_ G u k) ||| on_ (H u) (tg_ G u k) = H (tg_ G u k)) := by
  have hix := ix_lt hl hr hu
  have hmn := (hG u hu).1
  have hub := B2_b B hu
  intro g
  induction g with
  | zero =>
    intro i fu x m H h1 h2 hg hr' hh V hx
    obtain ⟨fu, rfl⟩ : ∃ k, fu = k + 1 := ⟨fu - 1, by omega⟩
    refine ⟨x, m, H, fun k34 k43 => ?_, fun _ _ => rfl, hh, V, hx, Or.inl ⟨rfl, rfl, rfl, fun _ _ k hk he => by have := he.1.2.1; omega⟩⟩
    rw [f_Mo_firstHops_62]
    simp only [pz_ix hu (show 42 < 2 ^ 31 by decide), pz_ix hix (show 504 < 2 ^ 31 by decide), Option.bind_some, (hg u hu).2.1, if_pos (nI_le (show mn_ G u ≤ i by omega) (show i < 2 ^ 31 by omega)), pz_n, nI_1, ite_self]
  | succ g ih =>
    intro i fu x m H h1 h2 hg hr' hh V hx
    obtain ⟨fu, rfl⟩ : ∃ k, fu = k + 1 := ⟨fu - 1, by omega⟩
    have hi : i < mn_ G u := by omega
    obtain ⟨t1, t2, _⟩ := (hG u hu).2 i hi
    obtain ⟨lw1, lw2⟩ := (lw_all (wt_ G u i) t2 (tg_ G u i) t1).2
    have hHu := V.2.1 u hu
    have htb := B2_b B t1
    by_cases hKu : K u < 1000000
    · by_cases hH0 : H u = 0
      · refine ⟨x, m, H, fun k34 k43 => ?_, fun _ _ => rfl, hh, V, hx, Or.inl ⟨rfl, rfl, rfl, fun _ z => absurd hH0 z⟩⟩
        rw [f_Mo_firstHops_62]
        simp only [pz_ix hu (show 42 < 2 ^ 31 by decide), Option.bind_some, hr' u hu, cM_neg, hKu, not_true_eq_false, if_false, hh u hu, hH0, pz_n, nI_1]
        rfl
      · obtain ⟨l1, l2⟩ := m_lt hG hg hl hr t1 hu
        have cu : cM (K u) = nI (K u) := if_pos hKu
        have hne : ¬ nI (H u) = 0 := fun z => hH0 ((nI_eq (b := 0) (by omega) (by decide)).mp z)
        obtain ⟨v, hv⟩ : ∃ v, v = tg_ G u i := ⟨_, rfl⟩
        have hsame : jz_up m 20 v (nI (H v)) = m := jz_up_id (by rw [hv]; exact hh _ t1)
        -- not a cheapest link, or nothing new
        have e0 : ∀ (k34 : Int32 → Int32 → Int32 → jz_M → Option jz_M) (k43 : Int32 → Int32 → Int32 → Int32 → jz_M → Option jz_M) (k62 : Int32 → Int32 → Int32 → Int32 → Int32 → Int32 → jz_M → Option jz_M), f_Mo_firstHops_210 k34 k43 k62 (nI r) (nI (l + 1)) x (nI u) (nI (ix l r u)) (nI i) (nI v) (nI (H v)) m = k62 (nI r) (nI (l + 1)) x (nI u) (nI (ix l r u)) (nI (i + 1)) m := fun k34 k43 k62 => by
          unfold f_Mo_firstHops_210 f_Mo_firstHops_228 f_Mo_firstHops_233
          have hv42 : v < 42 := by rw [hv]; exact t1
          simp only [pz_ix hv42 (show 42 < 2 ^ 31 by decide), Option.bind_some, pz_n, nI_1, hh v hv42, hsame, if_true]
          rcases hx with rfl | rfl
          · rw [if_neg (by decide)]
          · rw [if_pos (by decide)]
        have e1 : ∀ (k34 : Int32 → Int32 → Int32 → jz_M → Option jz_M) (k43 : Int32 → Int32 → Int32 → Int32 → jz_M → Option jz_M) (k62 : Int32 → Int32 → Int32 → Int32 → Int32 → Int32 → jz_M → Option jz_M), ∀ y, y < 128 → y ≠ H v → f_Mo_firstHops_210 k34 k43 k62 (nI r) (nI (l + 1)) x (nI u) (nI (ix l r u)) (nI i) (nI v) (nI y) m = k62 (nI r) (nI (l + 1)) 1 (nI u) (nI (ix l r u)) (nI (i + 1)) (jz_up m 20 v (nI y)) := fun k34 k43 k62 y hy hyv => by
          unfold f_Mo_firstHops_210 f_Mo_firstHops_228 f_Mo_firstHops_233
          have hv42 : v < 42 := by rw [hv]; exact t1
          have := V.2.1 v hv42
          simp only [pz_ix hv42 (show 42 < 2 ^ 31 by decide), Option.bind_some, pz_n, nI_1, hh v hv42, n_eq (show y < 2 ^ 31 by omega) (show H v < 2 ^ 31 by omega), if_neg hyv, ite_self]
        have step : ∀ k34 k43, f_Mo_firstHops_62 k34 k43 (fu + 1) (nI r) (nI (l + 1)) x (nI u) (nI (ix l r u)) (nI i) m = if K v = K u + wt_ G u i then (if v = 7 * r then f_Mo_firstHops_210 k34 k43 (f_Mo_firstHops_62 k34 k43 fu) (nI r) (nI (l + 1)) x (nI u) (nI (ix l r u)) (nI i) (nI v) (nI (H v)) m else (f_Mo_linksTo (nI r) (nI (l + 1)) (nI v) (nI u) m).bind fun w => if w = 0 then f_Mo_firstHops_210 k34 k43 (f_Mo_firstHops_62 k34 k43 fu) (nI r) (nI (l + 1)) x (nI u) (nI (ix l r u)) (nI i) (nI v) (nI (H v)) m else f_Mo_firstHops_210 k34 k43 (f_Mo_firstHops_62 k34 k43 fu) (nI r) (nI (l + 1)) x (nI u) (nI (ix l r u)) (nI i) (nI v) (nI (H v ||| on_ (H u) v)) m) else f_Mo_firstHops_210 k34 k43 (f_Mo_firstHops_62 k34 k43 fu) (nI r) (nI (l + 1)) x (nI u) (nI (ix l r u)) (nI i) (nI v) (nI (H v)) m := fun k34 k43 => by
          rw [f_Mo_firstHops_62]
          unfold f_Mo_firstHops_172 f_Mo_firstHops_173
          have hv42 : v < 42 := by rw [hv]; exact t1
          have hHv := V.2.1 v hv42
          simp only [pz_ix hu (show 42 < 2 ^ 31 by decide), pz_ix hix (show 504 < 2 ^ 31 by decide), pz_ix t1 (show 42 < 2 ^ 31 by decide), Option.bind_some, (hg u hu).2.1, hr' u hu, hr' (tg_ G u i) t1, cu, if_neg (pn_k hi (show mn_ G u < 2 ^ 31 by omega)), pz_n, nI_10m, pz_ix (show 10 * ix l r u + i < 5040 by omega) (show 5040 < 2 ^ 31 by decide), (hg u hu).2.2 i hi, lw1, lw2, nI_add, if_neg (nI_pos (show K u < 2 ^ 31 by omega)), hh u hu, hh (tg_ G u i) t1, if_neg hne, if_true, i10, n7, m_onw hHu t1, hp_or _ (V.2.1 _ t1) _ (on_p (H u) hHu _ t1).1, cM_eq (show K (tg_ G u i) ≤ 1000000 by omega) (show K u + wt_ G u i < 1000000 by omega), n_eq (show tg_ G u i < 2 ^ 31 by omega) (show 7 * r < 2 ^ 31 by omega)]
          rw [← hv]
          by_cases c1 : K v = K u + wt_ G u i
          · rw [if_neg (fun z => z c1), if_pos c1]
          · rw [if_pos c1, if_neg c1]
        -- what goes on as it was
        have same : (∀ k34 k43, f_Mo_firstHops_62 k34 k43 (fu + 1) (nI r) (nI (l + 1)) x (nI u) (nI (ix l r u)) (nI i) m = f_Mo_firstHops_62 k34 k43 fu (nI r) (nI (l + 1)) x (nI u) (nI (ix l r u)) (nI (i + 1)) m) → (tt_ G (7 * r) K u i → H v ||| on_ (H u) v = H v) → ∃ (x' : Int32) (m' : jz_M) (H' : Nat → Nat), (∀ k34 k43, f_Mo_firstHops_62 k34 k43 (fu + 1) (nI r) (nI (l + 1)) x (nI u) (nI (ix l r u)) (nI i) m = k43 (nI r) (nI (l + 1)) x' (nI (u + 1)) m') ∧ (∀ q, q ≠ 20 → m' q = m q) ∧ rH m' H' ∧ V_ G (7 * r) K H' ∧ (x' = 0 ∨ x' = 1) ∧ Yh m m' H H' x x' (K u < 1000000 → H u ≠ 0 → ∀ k, i ≤ k → tt_ G (7 * r) K u k → H (tg_ G u k) ||| on_ (H u) (tg_ G u k) = H (tg_ G u k)) := fun es et => by
          obtain ⟨x', m', H', a1, a2, a3, a4, a5, a6⟩ := ih (i + 1) fu x m H (by omega) (by omega) hg hr' hh V hx
          refine ⟨x', m', H', fun k34 k43 => (es k34 k43).trans (a1 k34 k43), a2, a3, a4, a5, ?_⟩
          rcases a6 with ⟨y1, y2, y3, y4⟩ | y
          · refine Or.inl ⟨y1, y2, y3, fun z1 z2 k hk ht => ?_⟩
            by_cases hki : k = i
            · subst hki; rw [← hv]; exact et ht
            · exact y4 z1 z2 k (by omega) ht
          · exact Or.inr y
        by_cases c1 : K v = K u + wt_ G u i
        · by_cases c2 : v = 7 * r
          · refine same (fun k34 k43 => ?_) (fun ht => absurd (hv.symm.trans c2) ht.2.1)
            rw [step, if_pos c1, if_pos c2, e0]
          · by_cases hL : lt_ G v u
            · have hLw : f_Mo_linksTo (nI r) (nI (l + 1)) (nI v) (nI u) m = some 1 := by rw [hv] at hL ⊢; exact l1 hL
              by_cases hset : H v ||| on_ (H u) v = H v
              · refine same (fun k34 k43 => ?_) (fun _ => hset)
                rw [step, if_pos c1, if_neg c2, hLw, hset]
                simp only [Option.bind_some, i10]
                exact e0 k34 k43 _
              · have hT : tt_ G (7 * r) K u i := by
                  refine ⟨⟨B2_al B hu hKu, hi, ?_⟩, ?_, ?_⟩
                  · rw [← hv]; exact hL
                  · rw [← hv]; exact c2
                  · rw [← hv]; exact c1
                obtain ⟨V', P'⟩ := V_up hG V hu hKu hT (by rw [← hv]; exact hset)
                rw [← hv] at V' P'
                have hlt : H v ||| on_ (H u) v < 128 := by
                  have := V'.2.1 v (by rw [hv]; exact t1)
                  rwa [up_s] at this
                obtain ⟨x', m', H', a1, a2, a3, a4, a5, a6⟩ := ih (i + 1) fu 1 (jz_up m 20 v (nI (H v ||| on_ (H u) v))) _ (by omega) (by omega) (gM_fr hg (fun q hq => jz_up_k (by omega))) (fun w hw => by rw [jz_up_k (by decide)]; exact hr' w hw) (rH_1 hh v _) V' (Or.inr rfl)
                refine ⟨x', m', H', fun k34 k43 => ?_, fun q hq => (a2 q hq).trans (jz_up_k hq), a3, a4, a5, Or.inr ?_⟩
                · rw [step, if_pos c1, if_neg c2, hLw]
                  simp only [Option.bind_some, i10]
                  rw [e1 k34 k43 _ _ hlt hset]
                  exact a1 k34 k43
                · rcases a6 with ⟨y1, y2, y3, y4⟩ | ⟨y1, y2⟩
                  · exact ⟨y1, by rw [y3]; exact P'⟩
                  · exact ⟨y1, by omega⟩
            · have hLw : f_Mo_linksTo (nI r) (nI (l + 1)) (nI v) (nI u) m = some 0 := by rw [hv] at hL ⊢; exact l2 hL
              refine same (fun k34 k43 => ?_) (fun ht => absurd (by rw [hv]; exact ht.1.2.2) hL)
              rw [step, if_pos c1, if_neg c2, hLw]
              simp only [Option.bind_some, if_true]
              exact e0 k34 k43 _
        · refine same (fun k34 k43 => ?_) (fun ht => absurd (by rw [hv]; exact ht.2.2) c1)
          rw [step, if_neg c1, e0]
    · refine ⟨x, m, H, fun k34 k43 => ?_, fun _ _ => rfl, hh, V, hx, Or.inl ⟨rfl, rfl, rfl, fun z => absurd z hKu⟩⟩
      rw [f_Mo_firstHops_62]
      simp only [pz_ix hu (show 42 < 2 ^ 31 by decide), Option.bind_some, hr' u hu, cM_neg, if_pos hKu, pz_n, nI_1]
theorem m_h43 {l r : Nat} {G : GR} (hG : GP_ G) (hl : l < 2) (hr : r < 6) {K : Nat → Nat} (B : B2_ G (7 * r) K) : ∀ (g u fu : Nat) (x : Int32) (m : jz_M) (H : Nat → Nat), u + g = 42 → g < fu → gM m l r G → rM m K → rH m H → V_ G (7 * r) K H → (x = 0 ∨ x = 1) → ∃ (x' : Int32) (m' : jz_M) (H' : Nat → Nat), (∀ k34, f_Mo_firstHops_43 k34 fu (nI r) (nI (l + 1)) x (nI u) m = k34 (nI r) (nI (l + 1)) x' m') ∧ (∀ q, q ≠ 20 → m' q = m q) ∧ rH m' H' ∧ V_ G (7 * r) K H' ∧ (x' = 0 ∨ x' = 1) ∧ Yh m m' H H' x x' (∀ u', u ≤ u' → u' < 42 → K u' < 1000000 → H u' ≠ 0 → ∀ k, tt_ G (7 * r) K u' k → H (tg_ G u' k) ||| on_ (H u') (tg_ G u' k) = H (tg_ G u' k)) := by
  intro g
  induction g with
  | zero =>
    intro u fu x m H h1 h2 hg hr' hh V hx
    obtain ⟨fu, rfl⟩ : ∃ k, fu = k + 1 := ⟨fu - 1, by omega⟩
    exact ⟨x, m, H, fun k34 => by rw [f_Mo_firstHops_43, if_pos (py42 (by omega) (by omega))], fun _ _ => rfl, hh, V, hx, Or.inl ⟨rfl, rfl, rfl, fun u' a b => by omega⟩⟩
  | succ g ih =>
    intro u fu x m H h1 h2 hg hr' hh V hx
    obtain ⟨fu, rfl⟩ : ∃ k, fu = k + 1 := ⟨fu - 1, by omega⟩
    have hu : u < 42 := by omega
    have hmn := (hG u hu).1
    obtain ⟨x1, m1, H1, a1, a2, a3, a4, a5, a6⟩ := m_h62 hG hl hr hu B (mn_ G u) 0 1000000 x m H (by omega) (by omega) hg hr' hh V hx
    obtain ⟨x2, m2, H2, b1, b2, b3, b4, b5, b6⟩ := ih (u + 1) fu x1 m1 H1 (by omega) (by omega) (gM_fr hg (fun q hq => a2 q (by omega))) (fun w hw => by rw [a2 19 (by decide)]; exact hr' w hw) a3 a4 a5
    refine ⟨x2, m2, H2, fun k34 => ?_, fun q hq => (b2 q hq).trans (a2 q hq), b3, b4, b5, ?_⟩
    · rw [f_Mo_firstHops_43, if_neg (pn42 hu), pz_b (q_mat m)]
      exact (a1 _ _).trans (b1 k34)
    · rcases a6 with ⟨y1, y2, y3, y4⟩ | ⟨y1, y2⟩
      · subst y1 y2 y3
        rcases b6 with ⟨z1, z2, z3, z4⟩ | z
        · refine Or.inl ⟨z1, z2, z3, fun u' a b hk h0 k he => ?_⟩
          by_cases huu : u' = u
          · subst huu; exact y4 hk h0 k (Nat.zero_le _) he
          · exact z4 u' (by omega) b hk h0 k he
        · exact Or.inr z
      · rcases b6 with ⟨z1, z2, z3, z4⟩ | ⟨z1, z2⟩
        · exact Or.inr ⟨by rw [z1, y1], by rw [z3]; exact y2⟩
        · exact Or.inr ⟨z1, by omega⟩
theorem m_h34 {l r : Nat} {G : GR} (hG : GP_ G) (hl : l < 2) (hr : r < 6) {K : Nat → Nat} (B : B2_ G (7 * r) K) : ∀ (p fu : Nat) (m : jz_M) (H : Nat → Nat), p2_ H ≤ p → p + 1 < fu → gM m l r G → rM m K → rH m H → V_ G (7 * r) K H → ∃ (m' : jz_M) (H' : Nat → Nat), f_Mo_firstHops_34 fu (nI r) (nI (l + 1)) 1 m = some m' ∧ (∀ q, q ≠ 20 → m' q = m q) ∧ rH m' H' ∧ V_ G (7 * r) K H' ∧ (∀ u, u < 42 → K u < 1000000 → H' u ≠ 0 → ∀ k, tt_ G (7 * r) K u k → H' (tg_ G u k) ||| on_ (H' u) (tg_ G u k) = H' (tg_ G u k)) := by
  intro p
  induction p with
  | zero =>
    intro fu m H h1 h2 hg hr' hh V
    obtain ⟨fu, rfl⟩ : ∃ k, fu = k + 2 := ⟨fu - 2, by omega⟩
    obtain ⟨x1, m1, H1, a1, a2, a3, a4, a5, a6⟩ := m_h43 hG hl hr B 42 0 1000000 0 m H (by decide) (by decide) hg hr' hh V (Or.inl rfl)
    rcases a6 with ⟨y1, y2, y3, y4⟩ | ⟨y1, y2⟩
    · subst y1 y2 y3
      refine ⟨m1, H1, ?_, fun _ _ => rfl, a3, a4, fun u hu => y4 u (Nat.zero_le _) hu⟩
      rw [f_Mo_firstHops_34, i10]
      refine (a1 _).trans ?_
      rw [f_Mo_firstHops_34, if_pos rfl]
    · omega
  | succ p ih =>
    intro fu m H h1 h2 hg hr' hh V
    obtain ⟨fu, rfl⟩ : ∃ k, fu = k + 2 := ⟨fu - 2, by omega⟩
    obtain ⟨x1, m1, H1, a1, a2, a3, a4, a5, a6⟩ := m_h43 hG hl hr B 42 0 1000000 0 m H (by decide) (by decide) hg hr' hh V (Or.inl rfl)
    rcases a6 with ⟨y1, y2, y3, y4⟩ | ⟨y1, y2⟩
    · subst y1 y2 y3
      refine ⟨m1, H1, ?_, fun _ _ => rfl, a3, a4, fun u hu => y4 u (Nat.zero_le _) hu⟩
      rw [f_Mo_firstHops_34, i10]
      refine (a1 _).trans ?_
      rw [f_Mo_firstHops_34, if_pos rfl]
    · obtain ⟨m2, H2, b1, b2, b3, b4, b5⟩ := ih (fu + 1) m1 H1 (by omega) (by omega) (gM_fr hg (fun q hq => a2 q (by omega))) (fun w hw => by rw [a2 19 (by decide)]; exact hr' w hw) a3 a4
      refine ⟨m2, H2, ?_, fun q hq => (b2 q hq).trans (a2 q hq), b3, b4, b5⟩
      rw [f_Mo_firstHops_34, i10]
      refine (a1 _).trans ?_
      rw [y1]; exact b1
theorem m_h2 {l r : Nat} {G : GR} (hG : GP_ G) (hl : l < 2) (hr : r < 6) {K : Nat → Nat} (B : B2_ G (7 * r) K) : ∀ (g i fu : Nat) (m : jz_M), i + g = 42 → g < fu → gM m l r G → rM m K → (∀ v, v < i → m 20 v = 0) → ∃ (m' : jz_M) (H : Nat → Nat), f_Mo_firstHops_2 fu (nI r) (nI (l + 1)) (nI i) m = some m' ∧ (∀ q, q ≠ 20 → m' q = m q) ∧ rH m' H ∧ V_ G (7 * r) K H ∧ (∀ u, u < 42 → K u < 1000000 → H u ≠ 0 → ∀ k, tt_ G (7 * r) K u k → H (tg_ G u k) ||| on_ (H u) (tg_ G u k) = H (tg_ G u k)) := by
  have hs : 7 * r < 42 := by omega
  intro g
  induction g with
  | zero =>
    intro i fu m h1 h2 hg hr' hv
    obtain ⟨fu, rfl⟩ : ∃ k, fu = k + 1 := ⟨fu - 1, by omega⟩
    rw [f_Mo_firstHops_2, if_pos (py42 (by omega) (by omega))]
    simp only [n7, Option.bind_some, pz_ix hs (show 42 < 2 ^ 31 by decide), pz_n]
    have r1 : rH (jz_up m 20 (7 * r) (nI 64)) (up_ (fun _ => 0) (7 * r) 64) := rH_1 (fun v hv' => hv v (by omega)) (7 * r) 64
    have V : V_ G (7 * r) K (up_ (fun _ => 0) (7 * r) 64) := by
      refine ⟨up_s _ _ _, fun v hv' => ?_, fun v hv' hvs j hj z => ?_⟩
      · by_cases hvs : v = 7 * r
        · rw [hvs, up_s]; decide
        · rw [up_n _ _ hvs]; decide
      · rw [up_n _ _ hvs, Nat.zero_testBit] at z; exact absurd z (by decide)
    have hp : p2_ (up_ (fun _ => 0) (7 * r) 64) ≤ 5334 := by
      have := sm_le (f := fun v => 127 - up_ (fun _ => 0) (7 * r) 64 v) (g := fun _ => 127) 42 (fun v _ => Nat.sub_le _ _)
      rw [sm_c] at this
      exact this
    obtain ⟨m2, H2, b1, b2, b3⟩ := m_h34 hG hl hr B 5334 1000000 (jz_up m 20 (7 * r) (nI 64)) _ hp (by decide) (gM_fr hg (fun q hq => jz_up_k (by omega))) (fun w hw => by rw [jz_up_k (by decide)]; exact hr' w hw) r1 V
    exact ⟨m2, H2, b1, fun q hq => (b2 q hq).trans (jz_up_k hq), b3⟩
  | succ g ih =>
    intro i fu m h1 h2 hg hr' hv
    obtain ⟨fu, rfl⟩ : ∃ k, fu = k + 1 := ⟨fu - 1, by omega⟩
    have hi : i < 42 := by omega
    rw [f_Mo_firstHops_2, if_neg (pn42 hi)]
    simp only [pz_ix hi (show 42 < 2 ^ 31 by decide), Option.bind_some, pz_n, nI_1]
    obtain ⟨m2, K2, b1, b2, b3⟩ := ih (i + 1) fu (jz_up m 20 i 0) (by omega) (by omega) (gM_fr hg (fun q hq => jz_up_k (by omega))) (fun w hw => by rw [jz_up_k (by decide)]; exact hr' w hw) (fun v hv' => by
      rw [pz_up]
      by_cases hvi : v = i
      · rw [if_pos ⟨rfl, hvi⟩]
      · rw [if_neg (fun z => hvi z.2)]; exact hv v (by omega))
    exact ⟨m2, K2, b1, fun q hq => (b2 q hq).trans (jz_up_k hq), b3⟩
/-- the reference's ways -/
theorem m_ways {l r : Nat} {G : GR} (hG : GP_ G) (hl : l < 2) (hr : r < 6) {m : jz_M} (hg : gM m l r G) : ∃ (m' : jz_M) (K H : Nat → Nat), f_Mo_ways (nI r) (nI (l + 1)) m = some m' ∧ (∀ q, q ≤ 18 → m' q = m q) ∧ rM m' K ∧ rH m' H ∧ W_ G (7 * r) (up_ K (7 * r) 0) H := by
  have hs : 7 * r < 42 := by omega
  obtain ⟨m1, K, a1, a2, a3, B, a5⟩ := m_c2 hG hl hr 42 0 1000000 m (by decide) (by decide) hg (fun v hv => absurd hv (Nat.not_lt_zero v))
  have hg1 := gM_fr hg (fun q (hq : q ≤ 17) => a2 q (by omega))
  obtain ⟨m2, H, b1, b2, b3, V, b5⟩ := m_h2 hG hl hr B 42 0 1000000 m1 (by decide) (by decide) hg1 a3 (fun v hv => absurd hv (Nat.not_lt_zero v))
  refine ⟨m2, K, H, ?_, fun q hq => (b2 q (by omega)).trans (a2 q (by omega)), fun w hw => by rw [b2 19 (by decide)]; exact a3 w hw, b3, ?_⟩
  · unfold f_Mo_ways f_Mo_costs f_Mo_firstHops
    rw [show f_Mo_costs_2 1000000 (nI r) (nI (l + 1)) 0 m = some m1 from a1]
    simp only [Option.bind_some]
    rw [show f_Mo_firstHops_2 1000000 (nI r) (nI (l + 1)) 0 m1 = some m2 from b1]
    rfl
  · rcases B with ⟨ba, B⟩ | ⟨ba, B⟩
    · have e : up_ K (7 * r) 0 = K := by
        funext v
        by_cases hv : v = 7 * r
        · rw [hv, up_s, B.2.1]
        · rw [up_n _ _ hv]
      rw [e]
      have hb := fun v hv => B2_b (Or.inl ⟨ba, B⟩ : B2_ G (7 * r) K) (v := v) hv
      refine ⟨B.2.1, V.1, fun v hv => by have := hb v hv; omega, fun u k hu hk he => a5 u hu hk k he, fun v hv hvs hk => ?_, fun v hv hvs hk => ⟨V.2.1 v hv, fun j hj => ⟨V.2.2 v hv hvs j hj, ?_⟩⟩⟩
      · obtain ⟨u, k, c1, c2, c3, c4, c5⟩ := B.2.2.2 v hv hvs hk
        have := a5 u c1 c2 k c3
        rw [c4] at this
        exact ⟨u, k, c1, c2, c3, c4, by omega⟩
      · rintro ⟨u, k, c1, c2, c3, c4, c5, c6⟩
        by_cases h0 : H u = 0
        · rw [h0] at c6
          have : on_ 0 v = 0 := by unfold on_; rw [if_pos (by decide)]
          rw [this, Nat.zero_testBit] at c6
          exact absurd c6 (by decide)
        · have := b5 u c1 c2 h0 k ⟨c3, by rw [c4]; exact hvs, by rw [c4]; exact c5⟩
          rw [c4] at this
          rw [← this, Nat.testBit_or, c6, Bool.or_true]
    · have nk : ∀ v, v < 42 → v ≠ 7 * r → ¬ up_ K (7 * r) 0 v < 1000000 := fun v hv hvs => by rw [up_n _ _ hvs, B v hv]; decide
      refine ⟨up_s _ _ _, V.1, fun v hv => ?_, fun u k hu hk he => ?_, fun v hv hvs hk => absurd hk (nk v hv hvs), fun v hv hvs hk => absurd hk (nk v hv hvs)⟩
      · by_cases hvs : v = 7 * r
        · rw [hvs, up_s]; exact Or.inr (Nat.zero_le _)
        · rw [up_n _ _ hvs]; exact Or.inl (B v hv)
      · by_cases hus : u = 7 * r
        · have := he.1
          rw [hus, ba] at this
          exact absurd this (by decide)
        · exact absurd hk (nk u hu hus)
