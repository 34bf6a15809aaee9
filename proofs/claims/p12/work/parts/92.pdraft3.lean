/-! what a router would say of a part now -/
theorem bo_1 : jz_bo 1 = some 1 := rfl
theorem bo_0 : jz_bo 0 = some 0 := rfl
theorem bo_ex (m : jz_M) (l r p : Nat) : jz_bo (v_ex m l r p) = some (v_ex m l r p) := by
  unfold v_ex
  split
  · rfl
  · rfl
theorem v_ex01 (m : jz_M) (l r p : Nat) : v_ex m l r p = 0 ∨ v_ex m l r p = 1 := by
  unfold v_ex
  split
  · exact Or.inr rfl
  · exact Or.inl rfl
theorem q_dx {b l r : Nat} {mc mm : jz_M} (hI : I_ b mc mm) (hl : l < 2) (hr : r < 6) : f_AR_draftItself (nI r) (nI (l + 1)) mc = f_AR_draftItself_32 (nI r) (nI (l + 1)) (v_ex mm l r 0) mc := by
  unfold f_AR_draftItself f_AR_draftItself_31 v_ex
  by_cases h1 : l = 0
  · subst h1
    rw [if_neg (by decide), pz_b (pz_ix hr (by decide)), (hI.1 r hr).2.1]
    by_cases h2 : mm 2 r = 3
    · rw [if_neg (fun z => z h2)]
      obtain ⟨a1, a2⟩ := q_ele hI hr
      by_cases h3 : o_el mm r
      · rw [pz_b (a1 h3), i10, if_pos ⟨rfl, rfl, h2, h3⟩]
      · rw [pz_b (a2 h3), i00, if_neg (fun z => h3 z.2.2.2)]
    · rw [if_pos h2, if_neg (fun z => h2 z.2.2.1)]
  · rw [if_pos (show ¬ nI (l + 1) = 1 from fun z => h1 (by have := (nI_eq (b := 1) (by omega) (by decide)).mp z; omega)), if_neg (fun z => h1 z.1)]
theorem dp_ {b l r p : Nat} {mc mm : jz_M} (hI : I_ b mc mm) (hl : l < 2) (hr : r < 6) (hp : p < 7) : ∃ (v : Int32) (k : Nat) (mc' mm' : jz_M), f_AR_draftPart (nI r) (nI (l + 1)) (nI p) mc = some (v, mc') ∧ f_Mo_describes (nI r) (nI (l + 1)) (nI p) mm = some (v, mm') ∧ (v = 0 ∨ (v = 1 ∧ DR_ mc' mm' (7 * r + p) k ∧ k ≤ 10 ∧ mc' 146 1 = mm 1 r ∧ mc' 146 2 = v_ex mm l r p)) ∧ (∀ q, q < 146 → mc' q = mc q) ∧ (∀ q, 1 ≤ q → q ≤ 17 → mm' q = mm q) ∧ mm' 0 0 = mm 0 0 := by
  unfold f_AR_draftPart f_Dr_begin f_Mo_describes
  simp only [pz_n, pz_ix hr (show 6 < 2 ^ 31 by decide), Option.bind_some]
  obtain ⟨c1, hc1⟩ : ∃ x, x = jz_up (jz_up (jz_up mc 146 0 0) 146 1 (mc 1 r)) 146 2 0 := ⟨_, rfl⟩
  obtain ⟨m1, hm1⟩ : ∃ x, x = jz_up mm 0 1 0 := ⟨_, rfl⟩
  rw [← hc1, ← hm1]
  have kc : ∀ q, q < 146 → c1 q = mc q := fun q hq => by rw [hc1, jz_up_k (by omega), jz_up_k (by omega), jz_up_k (by omega)]
  have km : ∀ q, 1 ≤ q → m1 q = mm q := fun q hq => by rw [hm1, jz_up_k (by omega)]
  have k0 : m1 0 0 = mm 0 0 := by rw [hm1, pz_up, if_neg (by decide)]
  have hI1 : I_ b c1 m1 := I_ext kc (fun q h1 _ => km q h1) hI
  have hc0 : c1 146 0 = nI 0 := by rw [hc1, pz_up, if_neg (by decide), pz_up, if_neg (by decide), pz_up_s]; rfl
  have hca : c1 146 1 = mm 1 r := by rw [hc1, pz_up, if_neg (by decide), pz_up_s, (hI.1 r hr).1]
  have hce : c1 146 2 = 0 := by rw [hc1, pz_up_s]
  have hm0 : m1 0 1 = nI 0 := by rw [hm1, pz_up_s]; rfl
  have hve : v_ex m1 l r p = v_ex mm l r p := x_ex (km 1 (by decide)) (km 2 (by decide)) (km 6 (by decide)) (km 7 (by decide)) l r p
  by_cases h0 : p = 0
  · subst h0
    rw [if_neg (by decide), if_pos (by decide), q_dx hI1 hl hr]
    unfold f_AR_draftItself_32
    rw [pz_b (bo_ex _ _ _ _), pz_n]
    obtain ⟨c2, hc2⟩ : ∃ x, x = jz_up c1 146 2 (v_ex m1 l r 0) := ⟨_, rfl⟩
    rw [← hc2]
    have hD : DR_ c2 m1 (7 * r) 0 := ⟨by rw [hc2, pz_up, if_neg (by decide), hc0], hm0, fun j hj => absurd hj (Nat.not_lt_zero j)⟩
    obtain ⟨k', c3, m3, a1, a2, a3, a4, a5⟩ := q_di hl hr 6 0 1000 1000000 0 c2 m1 (by decide) (by decide) (by decide) (by decide) (I_ext (fun q hq => by rw [hc2, jz_up_k (by omega)]) (fun _ _ _ => rfl) hI1) hD
    refine ⟨1, k', c3, m3, ?_, a3, Or.inr ⟨rfl, a4, by omega, ?_, ?_⟩, fun q hq => ?_, fun q h1 h2 => ?_, ?_⟩
    · rw [show f_AR_draftItself_37 1000 (nI r) (nI (l + 1)) 0 c2 = some c3 from a2]; rfl
    · rw [a5.2.1, hc2, pz_up, if_neg (by decide), hca]
    · rw [a5.2.2.1, hc2, pz_up_s, hve]
    · rw [a5.1 q hq, hc2, jz_up_k (by omega), kc q hq]
    · rw [a5.2.2.2.1 q h1 h2, km q h1]
    · rw [a5.2.2.2.2, k0]
  · obtain ⟨c, rfl⟩ : ∃ c, p = c + 1 := ⟨p - 1, by omega⟩
    have hc : c < 6 := by omega
    have hx0 : v_ex mm l r (c + 1) = 0 := by unfold v_ex; rw [if_neg (fun z => h0 z.2.1)]
    have h00 : ¬ nI (c + 1) ≤ 0 := nI_ge (a := 0) (by omega) (by omega)
    rw [if_pos (show ¬ nI (c + 1) = 0 from fun z => h0 ((nI_eq (b := 0) (by omega) (by decide)).mp z)), if_neg h00, nI_pred]
    have bad : ∃ (v : Int32) (k : Nat) (mc' mm' : jz_M), some ((0 : Int32), c1) = some (v, mc') ∧ some ((0 : Int32), m1) = some (v, mm') ∧ (v = 0 ∨ (v = 1 ∧ DR_ mc' mm' (7 * r + (c + 1)) k ∧ k ≤ 10 ∧ mc' 146 1 = mm 1 r ∧ mc' 146 2 = v_ex mm l r (c + 1))) ∧ (∀ q, q < 146 → mc' q = mc q) ∧ (∀ q, 1 ≤ q → q ≤ 17 → mm' q = mm q) ∧ mm' 0 0 = mm 0 0 := ⟨0, 0, c1, m1, rfl, rfl, Or.inl rfl, kc, fun q h1 _ => km q h1, k0⟩
    unfold f_AR_draftCircuit f_AR_nameOf
    simp only [q_hg hl, q_sh hc, q_on hr hc, q_msh hc, Option.bind_some, b1_0, I_sh hI1 hc, q_sp hI1 hl hr hc, (q_msp hl hr hc m1).1]
    by_cases hs : o_sh m1 c = true
    · simp only [if_pos hs]
      rcases q_near hI1 hl hr hc with ⟨a1, a2, a3⟩ | ⟨n, hn, a1, a2, a3⟩
      · simp only [a2, a3, Option.bind_some, if_true, ite_self, if_pos (show (-1 : Int32) < 0 by decide), bo_0]
        exact bad
      · obtain ⟨o1, o2, o3⟩ := I_ne hI1 hl hr hc hn a1
        simp only [a2, a3, Option.bind_some, if_pos o2, i10, if_neg (nI_pos (show n < 2 ^ 31 by omega))]
        by_cases hsp : nI (o_sp m1 l r c 6 0 r) = nI r
        · simp only [if_pos hsp]
          have hD : DR_ c1 m1 (7 * r + (c + 1)) 0 := ⟨hc0, hm0, fun j hj => absurd hj (Nat.not_lt_zero j)⟩
          rw [n7a, n7, q_adl hD (by decide), q_put hm0 (by decide)]
          have f1 := FR_ad c1 m1 0 (nI (7 * r) + 64 * 0) (nI (7 * r) + 64 * 0)
          obtain ⟨k', c3, m3, b1, b2, b3, b4, b5⟩ := q_dc hl hr hc (N := 7 * r + (c + 1)) (by omega) 6 0 1000 1000000 1 _ _ (by decide) (by decide) (by decide) (by decide) (FR_I hI1 f1) (DR_ad hD (LK_1 (by omega) (by omega) (by omega)))
          have b6 := FR_t f1 b5
          refine ⟨1, k', c3, m3, ?_, b3, Or.inr ⟨rfl, b4, by omega, ?_, ?_⟩, fun q hq => ?_, fun q h1 h2 => ?_, ?_⟩
          · simp only [Option.bind_some]
            rw [show f_AR_draftCircuit_57 1000 (nI r) (nI c) (7 + 3 * l) 0 (ad_c c1 0 (nI (7 * r) + 64 * 0)) = some (1, c3) from b2]; rfl
          · rw [b6.2.1, hca]
          · rw [b6.2.2.1, hce, hx0]
          · rw [b6.1 q hq, kc q hq]
          · rw [b6.2.2.2.1 q h1 h2, km q h1]
          · rw [b6.2.2.2.2, k0]
        · simp only [if_neg hsp, Option.bind_some, bo_0]
          exact bad
    · simp only [if_neg hs, ite_self, Option.bind_some, bo_0]
      exact bad
