/-! the class's search, round by round -/
theorem zb (b : Bool) : (nI b.toNat = 0) = (b = false) := by cases b <;> simp [nI]
theorem q_pt {v : Nat} (hv : v < 42) (m : jz_M) : f_AR_partOf (nI v) m = some (nI (v % 7)) := by unfold f_AR_partOf; rw [(n_div7 v hv).2]
/-- unsettled and reached -/
def op_ (K : Nat → Nat) (Z : Nat → Bool) (v : Nat) : Prop := Z v = false ∧ K v < 1000000
theorem g_nx {m : jz_M} {K H : Nat → Nat} {Z : Nat → Bool} (h : rC m K H Z) (hK : ∀ v, v < 42 → K v ≤ 1000000) : ∀ (g i fu : Nat) (x : Int32), i + g = 42 → g < fu → ((x = -1 ∧ ∀ v, v < i → ¬ op_ K Z v) ∨ (∃ b, b < i ∧ x = nI b ∧ op_ K Z b ∧ ∀ v, v < i → op_ K Z v → ky K b ≤ ky K v)) → (f_Wa_nextToSettle_4 m fu x (nI i) = some (-1) ∧ ∀ v, v < 42 → ¬ op_ K Z v) ∨ (∃ b, b < 42 ∧ f_Wa_nextToSettle_4 m fu x (nI i) = some (nI b) ∧ op_ K Z b ∧ ∀ v, v < 42 → op_ K Z v → ky K b ≤ ky K v) := by
  intro g
  induction g with
  | zero =>
    intro i fu x h1 h2 hx
    obtain ⟨fu, rfl⟩ : ∃ k, fu = k + 1 := ⟨fu - 1, by omega⟩
    rw [f_Wa_nextToSettle_4, if_pos (py42 (by omega) (by omega))]
    rcases hx with ⟨rfl, z⟩ | ⟨b, b1, rfl, b2, b3⟩
    · exact Or.inl ⟨rfl, fun v hv => z v (by omega)⟩
    · exact Or.inr ⟨b, by omega, rfl, b2, fun v hv => b3 v (by omega)⟩
  | succ g ih =>
    intro i fu x h1 h2 hx
    obtain ⟨fu, rfl⟩ : ∃ k, fu = k + 1 := ⟨fu - 1, by omega⟩
    have hi : i < 42 := by omega
    obtain ⟨e1, e2, e3⟩ := h i hi
    have hKi := hK i hi
    rw [f_Wa_nextToSettle_4, if_neg (pn42 hi)]
    simp only [pz_ix hi (show 42 < 2 ^ 31 by decide), Option.bind_some, pz_n, nI_1, e1, e3, zb]
    -- i is passed over
    have skip : (¬ op_ K Z i) → (f_Wa_nextToSettle_4 m fu x (nI (i + 1)) = some (-1) ∧ ∀ v, v < 42 → ¬ op_ K Z v) ∨ (∃ b, b < 42 ∧ f_Wa_nextToSettle_4 m fu x (nI (i + 1)) = some (nI b) ∧ op_ K Z b ∧ ∀ v, v < 42 → op_ K Z v → ky K b ≤ ky K v) := fun ho => by
      refine ih (i + 1) fu x (by omega) (by omega) ?_
      rcases hx with ⟨z1, z2⟩ | ⟨b, b1, b2, b3, b4⟩
      · refine Or.inl ⟨z1, fun v hv => ?_⟩
        by_cases hvi : v = i
        · rw [hvi]; exact ho
        · exact z2 v (by omega)
      · refine Or.inr ⟨b, by omega, b2, b3, fun v hv hov => ?_⟩
        by_cases hvi : v = i
        · rw [hvi] at hov; exact absurd hov ho
        · exact b4 v (by omega) hov
    by_cases hz : Z i = false
    · rw [if_neg (fun z => z hz)]
      rw [show (1000000 : Int32) = nI 1000000 from rfl, pz_nle (by decide) (show K i < 2 ^ 31 by omega)]
      by_cases hf : K i < 1000000
      · rw [if_pos hf]
        have ho : op_ K Z i := ⟨hz, hf⟩
        -- i is the best so far
        have take : (∀ v, v < i → op_ K Z v → ky K i ≤ ky K v) → (f_Wa_nextToSettle_4 m fu (nI i) (nI (i + 1)) = some (-1) ∧ ∀ v, v < 42 → ¬ op_ K Z v) ∨ (∃ b, b < 42 ∧ f_Wa_nextToSettle_4 m fu (nI i) (nI (i + 1)) = some (nI b) ∧ op_ K Z b ∧ ∀ v, v < 42 → op_ K Z v → ky K b ≤ ky K v) := fun hm => by
          refine ih (i + 1) fu (nI i) (by omega) (by omega) (Or.inr ⟨i, by omega, rfl, ho, fun v hv hov => ?_⟩)
          by_cases hvi : v = i
          · rw [hvi]; exact Nat.le_refl _
          · exact hm v (by omega) hov
        rcases hx with ⟨rfl, z2⟩ | ⟨b, b1, rfl, b3, b4⟩
        · rw [if_pos (by decide)]
          unfold f_Wa_nextToSettle_49
          rw [pz_n, nI_1]
          exact take (fun v hv hov => absurd hov (z2 v hv))
        · have hb : b < 42 := by omega
          obtain ⟨f1, f2, f3⟩ := h b hb
          have hKb := hK b hb
          have keep : ky K b ≤ ky K i → (f_Wa_nextToSettle_4 m fu (nI b) (nI (i + 1)) = some (-1) ∧ ∀ v, v < 42 → ¬ op_ K Z v) ∨ (∃ b', b' < 42 ∧ f_Wa_nextToSettle_4 m fu (nI b) (nI (i + 1)) = some (nI b') ∧ op_ K Z b' ∧ ∀ v, v < 42 → op_ K Z v → ky K b' ≤ ky K v) := fun hk => by
            refine ih (i + 1) fu (nI b) (by omega) (by omega) (Or.inr ⟨b, by omega, rfl, b3, fun v hv hov => ?_⟩)
            by_cases hvi : v = i
            · rw [hvi]; exact hk
            · exact b4 v (by omega) hov
          rw [if_neg (nI_pos (by omega))]
          simp only [pz_ix hb (show 42 < 2 ^ 31 by decide), Option.bind_some, f1, q_pt hb, q_pt hi, n_eq (show K i < 2 ^ 31 by omega) (show K b < 2 ^ 31 by omega), n_eq0 (show b % 7 < 2 ^ 31 by omega), n_le0 (show i % 7 < 2 ^ 31 by omega)]
          rw [pz_nle (show K b < 2 ^ 31 by omega) (show K i < 2 ^ 31 by omega)]
          unfold ky at b4 keep take
          by_cases hlt : K i < K b
          · rw [if_pos hlt]
            unfold f_Wa_nextToSettle_49
            rw [pz_n, nI_1]
            refine take (fun v hv hov => ?_)
            have := b4 v hv hov
            split at this <;> split at this <;> split <;> (try split) <;> omega
          · rw [if_neg hlt]
            by_cases heq : K i = K b
            · rw [if_neg (fun z => z heq)]
              by_cases hb7 : b % 7 = 0
              · rw [if_neg (fun z => z hb7)]
                by_cases hi7 : i % 7 = 0
                · rw [if_pos hi7]
                  exact keep (by rw [if_pos hb7, if_pos hi7]; omega)
                · rw [if_neg hi7]
                  refine take (fun v hv hov => ?_)
                  have := b4 v hv hov
                  rw [if_pos hb7] at this
                  rw [if_neg hi7]
                  omega
              · rw [if_pos hb7]
                exact keep (by rw [if_neg hb7]; omega)
            · rw [if_pos heq]
              exact keep (by split <;> split <;> omega)
      · rw [if_neg hf]
        exact skip (fun z => hf z.2)
    · rw [if_pos hz]
      exact skip (fun z => hz z.1)
theorem g_next {m : jz_M} {K H : Nat → Nat} {Z : Nat → Bool} (h : rC m K H Z) (hK : ∀ v, v < 42 → K v ≤ 1000000) : (f_Wa_nextToSettle m = some (-1) ∧ ∀ v, v < 42 → ¬ op_ K Z v) ∨ (∃ b, b < 42 ∧ f_Wa_nextToSettle m = some (nI b) ∧ op_ K Z b ∧ ∀ v, v < 42 → op_ K Z v → ky K b ≤ ky K v) :=
  g_nx h hK 42 0 1000 (-1) (by decide) (by decide) (Or.inl ⟨rfl, fun v hv => absurd hv (Nat.not_lt_zero v)⟩)
theorem rC_3 {m : jz_M} {K H : Nat → Nat} {Z : Nat → Bool} (h : rC m K H Z) (t : Nat) : rC (jz_up m 151 t (vp_nar .boolean 1)) K H (up_ Z t true) := by
  intro v hv
  obtain ⟨e1, e2, e3⟩ := h v hv
  refine ⟨?_, ?_, ?_⟩
  · rw [jz_up_k (by decide), e1]
  · rw [jz_up_k (by decide), e2]
  · rw [pz_up]
    by_cases hvt : v = t
    · rw [if_pos ⟨rfl, hvt⟩, hvt, up_s, nar_1]
    · rw [if_neg (fun z => hvt z.2), up_n _ _ hvt, e3]
/-- the rounds -/
theorem g_rounds {G : GR} (hG : GP_ G) {o s : Nat} (ho : o + 10 < 146) : ∀ (g i fu : Nat) (m : jz_M) (K H : Nat → Nat) (Z : Nat → Bool), i + g = 42 → g < fu → gC m o G → rC m K H Z → D_ G s Z 42 0 K H i → sm 42 (fun v => (Z v).toNat) = i → (Z s = true ∨ ∀ v, v < 42 → v ≠ s → K v = 1000000) → ∃ (m' : jz_M) (K' H' : Nat → Nat) (Z' : Nat → Bool), f_Wa_find_53 fu o (nI i) m = some m' ∧ (∀ q, q < 146 → m' q = m q) ∧ rC m' K' H' Z' ∧ W_ G s K' H' := by
  intro g
  induction g with
  | zero =>
    intro i fu m K H Z h1 h2 hg hr D hs hz
    obtain ⟨fu, rfl⟩ : ∃ k, fu = k + 1 := ⟨fu - 1, by omega⟩
    refine ⟨m, K, H, Z, by rw [f_Wa_find_53, if_pos (py42 (by omega) (by omega))], fun _ _ => rfl, hr, D_W D (by omega) (fun v hv _ => ?_)⟩
    have := sm_all 42 (f := fun v => (Z v).toNat) (fun v _ => by cases Z v <;> decide) (by rw [hs]; omega) v hv
    cases hzv : Z v with
    | true => rfl
    | false => rw [hzv] at this; exact absurd this (by decide)
  | succ g ih =>
    intro i fu m K H Z h1 h2 hg hr D hs hz
    obtain ⟨fu, rfl⟩ : ∃ k, fu = k + 1 := ⟨fu - 1, by omega⟩
    have hi : i < 42 := by omega
    have hKle : ∀ v, v < 42 → K v ≤ 1000000 := fun v hv => by have := D.2.2.1 v hv; omega
    rw [f_Wa_find_53, if_neg (pn42 hi)]
    rcases g_next hr hKle with ⟨a1, a2⟩ | ⟨b, hb, a1, a2, a3⟩
    · rw [pz_b a1, if_neg (by decide)]
      refine ⟨m, K, H, Z, rfl, fun _ _ => rfl, hr, D_W D (by omega) (fun v hv hk => ?_)⟩
      cases hzv : Z v with
      | true => rfl
      | false => exact absurd ⟨hzv, hk⟩ (a2 v hv)
    · rw [pz_b a1, if_pos (show (0 : Int32) ≤ nI b from nI_le (a := 0) (by omega) (by omega)), pz_b (pz_ix hb (by decide))]
      simp only [pz_n, nI_1]
      have hbs : Z s = true ∨ b = s := by
        rcases hz with z | z
        · exact Or.inl z
        · refine Or.inr (Classical.byContradiction fun y => ?_)
          have := z b hb y
          have := a2.2
          omega
      obtain ⟨D1, N1⟩ := D_next D hb a2.1 a2.2 (fun v hv z1 z2 => a3 v hv ⟨z1, z2⟩) hbs (by omega)
      have r1 := rC_3 hr b
      have fr : ∀ q, q < 146 → jz_up m 151 b (vp_nar .boolean 1) q = m q := fun q hq => jz_up_k (by omega)
      have hg1 := gC_fr hg ho fr
      have hs1 : sm 42 (fun v => (up_ Z b true v).toNat) = i + 1 := by
        have e : sm 42 (fun v => (up_ Z b true v).toNat) = sm 42 (up_ (fun v => (Z v).toNat) b 1) := sm_ext 42 (fun v _ => by
          by_cases hvb : v = b
          · rw [hvb, up_s, up_s]; rfl
          · rw [up_n _ _ hvb, up_n _ _ hvb])
        have e2 := sm_up (f := fun v => (Z v).toNat) (t := b) (x := 1) 42 hb
        have e3 : (Z b).toNat = 0 := by rw [a2.1]; rfl
        rw [e]
        simp only [e3] at e2
        omega
      have hzs : up_ Z b true s = true := N1.2.2.1
      unfold f_Wa_followLinks
      rw [g_al hg1 hb]
      simp only [Option.bind_some, b1_n]
      by_cases hal : al_ G b = true
      · rw [if_pos hal]
        have hmn := (hG b hb).1
        obtain ⟨m2, K2, H2, c1, c2, c3, c4⟩ := g_fl hG (o := o) (n := i + 1) ho (by omega) hal (mn_ G b) 0 1000 _ K H (by omega) (by omega) hg1 r1 D1 N1
        rw [show f_Wa_followLinks_11 1000 o (nI b) 0 (jz_up m 151 b (vp_nar .boolean 1)) = some m2 from c1]
        simp only [Option.bind_some]
        obtain ⟨m3, K3, H3, Z3, d1, d2, d3, d4⟩ := ih (i + 1) fu m2 K2 H2 _ (by omega) (by omega) (gC_fr hg1 ho c2) c3 (D_end c4 (fun k hk => hk.2.1)) hs1 (Or.inl hzs)
        exact ⟨m3, K3, H3, Z3, d1, fun q hq => (d2 q hq).trans ((c2 q hq).trans (fr q hq)), d3, d4⟩
      · rw [if_neg hal]
        simp only [Option.bind_some]
        obtain ⟨m3, K3, H3, Z3, d1, d2, d3, d4⟩ := ih (i + 1) fu _ K H _ (by omega) (by omega) hg1 r1 (D_end D1 (fun k hk => absurd hk.1 hal)) hs1 (Or.inl hzs)
        exact ⟨m3, K3, H3, Z3, d1, fun q hq => (d2 q hq).trans (fr q hq), d3, d4⟩
/-- before the first round -/
theorem g_start {G : GR} (hG : GP_ G) {o s : Nat} (ho : o + 10 < 146) (hs : s < 42) : ∀ (g i fu : Nat) (m : jz_M), i + g = 42 → g < fu → gC m o G → (∀ v, v < i → m 149 v = nI 1000000 ∧ m 150 v = nI 0 ∧ m 151 v = nI 0) → ∃ (m' : jz_M) (K' H' : Nat → Nat) (Z' : Nat → Bool), f_Wa_find_2 fu o (nI s) (nI i) m = some m' ∧ (∀ q, q < 146 → m' q = m q) ∧ rC m' K' H' Z' ∧ W_ G s K' H' := by
  intro g
  induction g with
  | zero =>
    intro i fu m h1 h2 hg hv
    obtain ⟨fu, rfl⟩ : ∃ k, fu = k + 1 := ⟨fu - 1, by omega⟩
    rw [f_Wa_find_2, if_pos (py42 (by omega) (by omega))]
    simp only [pz_ix hs (show 42 < 2 ^ 31 by decide), Option.bind_some, pz_n]
    have fr : ∀ q, q < 146 → jz_up (jz_up m 149 s 0) 150 s 64 q = m q := fun q hq => by rw [jz_up_k (by omega), jz_up_k (by omega)]
    have r0 : rC m (fun _ => 1000000) (fun _ => 0) (fun _ => false) := fun v hv' => hv v (by omega)
    have r1 : rC (jz_up (jz_up m 149 s 0) 150 s 64) (up_ (fun _ => 1000000) s 0) (up_ (fun _ => 0) s 64) (fun _ => false) := rC_1 r0 s 0 64
    have D0 : D_ G s (fun _ => false) 42 0 (up_ (fun _ => 1000000) s 0) (up_ (fun _ => 0) s 64) 0 := by
      refine ⟨up_s _ _ _, up_s _ _ _, fun v hv' => ?_, fun v hv' => ?_, fun u k _ hp => absurd hp.1 Bool.false_ne_true, fun v hv' hvs hk => ?_, fun v hv' hvs hk => ?_, fun u v _ _ zu => absurd zu Bool.false_ne_true, fun u _ zu => absurd zu Bool.false_ne_true⟩
      · by_cases hvs : v = s
        · rw [hvs, up_s]; exact Or.inr (Nat.zero_le _)
        · rw [up_n _ _ hvs]; exact Or.inl rfl
      · by_cases hvs : v = s
        · rw [hvs, up_s]; decide
        · rw [up_n _ _ hvs]; decide
      · rw [up_n _ _ hvs] at hk; exact absurd hk (by decide)
      · rw [up_n _ _ hvs] at hk; exact absurd hk (by decide)
    obtain ⟨m3, K3, H3, Z3, d1, d2, d3, d4⟩ := g_rounds hG (o := o) (s := s) ho 42 0 1000 _ _ _ _ (by decide) (by decide) (gC_fr hg ho fr) r1 D0 (sm_c 0 42) (Or.inr (fun v hv' hvs => up_n _ _ hvs))
    exact ⟨m3, K3, H3, Z3, d1, fun q hq => (d2 q hq).trans (fr q hq), d3, d4⟩
  | succ g ih =>
    intro i fu m h1 h2 hg hv
    obtain ⟨fu, rfl⟩ : ∃ k, fu = k + 1 := ⟨fu - 1, by omega⟩
    have hi : i < 42 := by omega
    rw [f_Wa_find_2, if_neg (pn42 hi)]
    simp only [pz_ix hi (show 42 < 2 ^ 31 by decide), Option.bind_some, pz_n, nI_1, nar_0]
    have fr : ∀ q, q < 146 → jz_up (jz_up (jz_up m 149 i 1000000) 150 i 0) 151 i (nI (false).toNat) q = m q := fun q hq => by rw [jz_up_k (by omega), jz_up_k (by omega), jz_up_k (by omega)]
    obtain ⟨m3, K3, H3, Z3, d1, d2, d3, d4⟩ := ih (i + 1) fu _ (by omega) (by omega) (gC_fr hg ho fr) (fun v hv' => by
      by_cases hvi : v = i
      · subst hvi
        exact ⟨by rw [jz_up_k (by decide), jz_up_k (by decide), pz_up_s]; rfl, by rw [jz_up_k (by decide), pz_up_s]; rfl, by rw [pz_up_s]; rfl⟩
      · obtain ⟨x1, x2, x3⟩ := hv v (by omega)
        exact ⟨by rw [jz_up_k (by decide), jz_up_k (by decide), pz_up_i _ _ _ _ _ hvi, x1], by rw [jz_up_k (by decide), pz_up_i _ _ _ _ _ hvi, jz_up_k (by decide), x2], by rw [pz_up_i _ _ _ _ _ hvi, jz_up_k (by decide), jz_up_k (by decide), x3]⟩)
    exact ⟨m3, K3, H3, Z3, d1, fun q hq => (d2 q hq).trans (fr q hq), d3, d4⟩
theorem g_find {G : GR} (hG : GP_ G) {o s : Nat} (ho : o + 10 < 146) (hs : s < 42) {m : jz_M} (hg : gC m o G) : ∃ (m' : jz_M) (K H : Nat → Nat) (Z : Nat → Bool), f_Wa_find o (nI s) m = some m' ∧ (∀ q, q < 146 → m' q = m q) ∧ rC m' K H Z ∧ W_ G s K H :=
  g_start hG ho hs 42 0 1000 m (by decide) (by decide) hg (fun v hv => absurd hv (Nat.not_lt_zero v))
