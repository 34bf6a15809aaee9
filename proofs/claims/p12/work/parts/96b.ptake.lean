/-! a description is received -/
theorem nar_id {v : Int32} (h : v = 0 ∨ v = 1) : vp_nar .boolean v = v := by
  rcases h with rfl | rfl
  · rw [nar_0]; rfl
  · rw [nar_1]; rfl
theorem I_copy {b l x r n : Nat} {mc mm : jz_M} (hI : I_ b mc mm) (hb : b ≤ 200000) (hl : l < 2) (hx : x < 6) (hr : r < 6) (hxr : x ≠ r) (hn : n < 42) (hs : mm 8 (ix l r n) ≠ 0) : ∃ mc' mm' : jz_M, f_Ba_copyFrom (bx l x) (bx l r) (nI n) mc = some mc' ∧ f_Mo_copy (nI (ix l r n)) (nI (ix l x n)) mm = some mm' ∧ I_ b mc' mm' ∧ (∀ q j, ¬ md_ l x n q j → mm' q j = mm q j) ∧ mm' 8 (ix l x n) = mm 8 (ix l r n) ∧ mm' 10 (ix l x n) = mm 10 (ix l r n) := by
  obtain ⟨⟨a1, a2, a3, a4, a5, a6, a7, a8, a9, a10⟩, ⟨⟨s, t, b1, b2, b3, b4⟩, b5, b6, b7, b8, b9, ⟨k, k1, k2, k3⟩, b10, b11⟩⟩ := hI.2.2.2.2.2 l r n hl hr hn
  obtain ⟨⟨x1, x2, x3, x4, x5, x6, x7, x8, x9, x10⟩, ⟨⟨s', t', y1, y2, y3, y4⟩, y5, y6, y7, y8, y9, ⟨k', j1, j2, j3⟩, y10, y11⟩⟩ := hI.2.2.2.2.2 l x n hl hx hn
  obtain ⟨mc', c0, c1, c2, c3, c4, c5, c6, c7, c8, c9, c10, cf⟩ := q_cp hl hx hr hxr hn k1 ((a7 hs).trans k2)
  obtain ⟨mm', m0, m1, m2, m3, m4, m5, m6, m7, m8, m9, m10, mf⟩ := q_mcp hl hx hr hxr hn k1 k2
  have hmax : mx_ (mm 9 (ix l x n)) (mm 8 (ix l r n)) = nI (max t' s) := by
    rw [y2, b1]; unfold mx_
    rw [pz_nle (by omega) (by omega)]
    by_cases h : t' < s
    · rw [if_pos h, Nat.max_eq_right (by omega)]
    · rw [if_neg h, Nat.max_eq_left (by omega)]
  have hmaxc : jz_max (mc (bx l x + 2) n) (mc (bx l r + 1) n) = nI (max t' s) := by
    rw [x2, y2, a1, b1]; unfold jz_max
    simp only [n_lt (show t' < 2 ^ 31 by omega) (show s < 2 ^ 31 by omega)]
    by_cases h : t' < s
    · rw [if_pos h, Nat.max_eq_right (by omega)]
    · rw [if_neg h, Nat.max_eq_left (by omega)]
  refine ⟨mc', mm', c0, m0, I_desc hI (Nat.le_refl b) hl hx hn (fun q j _ => cf q j) (fun q j _ _ => mf q j) ?_ ?_, mf, m1, m3⟩
  · refine ⟨by rw [c1, m1, a1], by rw [c2, m2, hmaxc, hmax], by rw [c3, m3, a3], fun _ _ => by rw [c4, m4], by rw [c5, m5, a5], by rw [c6, m6, a6], fun _ => by rw [c7, m7], fun j hj => ?_, by rw [c9, m9, x9], by rw [c10, m10, x10]⟩
    rw [c8 j hj, m8 j hj]
    by_cases hjk : j < k
    · rw [if_pos hjk, if_pos hjk, a8 j hj]
    · rw [if_neg hjk, if_neg hjk, x8 j hj]
  · refine ⟨⟨s, max t' s, by rw [m1, b1], by rw [m2, hmax], Nat.le_max_right _ _, by omega⟩, by rw [m3]; exact b5, fun z => ?_, fun _ _ => ⟨0, by decide, by rw [m4]; rfl⟩, ?_, by rw [m6]; exact b9, ⟨k, k1, m7, fun j hj => ?_⟩, by rw [m9]; exact y10, by rw [m10]; exact y11⟩
    · rw [m1] at z; exact absurd z hs
    · rw [m5, nar_id b8]; exact b8
    · rw [m8 j (by omega), if_pos hj]; exact k3 j hj
theorem n_div7 : ∀ n, n < 42 → nI n / 7 = nI (n / 7) ∧ nI n - nI n / 7 * 7 = nI (n % 7) := by decide +kernel
/-- the router answers for its own -/
theorem own_ {b l x p : Nat} {mc mm : jz_M} (hI : I_ b mc mm) (hb : b ≤ 200000) (hl : l < 2) (hx : x < 6) (hp : p < 7) (hs : mm 8 (ix l x (7 * x + p)) ≠ 0) : ∃ mc' mm' : jz_M, f_AR_answerForOwn (nI x) (nI (l + 1)) (nI (7 * x + p)) mc = some mc' ∧ f_Mo_own (nI x) (nI (l + 1)) (nI p) mm = some mm' ∧ I_ (b + 1) mc' mm' ∧ mm' 0 0 = mm 0 0 ∧ (∀ q j, 1 ≤ q → q ≤ 17 → ¬ md_ l x (7 * x + p) q j → mm' q j = mm q j) := by
  obtain ⟨v, k, c1, m1, d1, d2, d3, d4, d5, d6⟩ := dp_ hI hl hx hp
  have hI1 : I_ b c1 m1 := I_ext d4 d5 hI
  have hn : 7 * x + p < 42 := by omega
  unfold f_AR_answerForOwn f_AR_partOf f_Mo_own
  simp only [q_bs hx hl, n7, nI_add, q_mat, Option.bind_some, (n_div7 (7 * x + p) hn).2, show (7 * x + p) % 7 = p by omega, d1, d2, q_cs hx, I_cs hI1 hx]
  rcases d3 with rfl | ⟨rfl, hD, hk, ha1, he1⟩
  · simp only [if_true]
    have hs1 : m1 8 (ix l x (7 * x + p)) ≠ 0 := by rw [d5 8 (by decide) (by decide)]; exact hs
    obtain ⟨c2, m2, f1, f2, f3, f4, f5, f6⟩ := I_end hI1 hl hx hn hs1
    unfold f_Ba_askNowhere
    simp only [f1, f2, Option.bind_some, pz_n, pz_ix hn (show 42 < 2 ^ 31 by decide), pz_ix (ix_lt hl hx hn) (show 504 < 2 ^ 31 by decide)]
    refine ⟨_, _, rfl, rfl, I_mono (I_asked (a := 0) f3 hb hl hx hn (by decide)), ?_, fun q j h1 h2 hz => ?_⟩
    · rw [jz_up_k (by decide), f4.2, d6]
    · rw [pz_up, if_neg (fun z => hz ⟨by omega, fun y => by omega, fun _ => z.2⟩), f5 q j hz, d5 q h1 h2]
  · simp only [i10]
    have hve : v_ex mm l x p = v_ex m1 l x p := (x_ex (d5 1 (by decide) (by decide)) (d5 2 (by decide) (by decide)) (d5 6 (by decide) (by decide)) (d5 7 (by decide) (by decide)) l x p).symm
    obtain ⟨c2, m2, f1, f2, f3, f4, f5⟩ := I_renew hI1 hb hl hx hp hk hD (ha1.trans (congrFun (d5 1 (by decide) (by decide)) x).symm) (he1.trans hve)
    simp only [f1, f2, Option.bind_some]
    exact ⟨c2, m2, rfl, rfl, f3, f4.2.trans d6, fun q j h1 h2 hz => (f5 q j hz).trans (congrFun (d5 q h1 h2) j)⟩
theorem take_ {b l x r q n : Nat} {mc mm : jz_M} (hI : I_ b mc mm) (hb : b ≤ 200000) (hl : l < 2) (hx : x < 6) (hr : r < 6) (hxr : x ≠ r) (hq : q < 6) (hn : n < 42) (hs : mm 8 (ix l r n) ≠ 0) : ∃ mc' mm' : jz_M, f_AR_receive (nI x) (nI q) (nI (l + 1)) (bx l r) (nI n) mc = some mc' ∧ f_Mo_take (nI x) (nI r) (nI q) (nI (l + 1)) (nI n) mm = some mm' ∧ I_ (b + 1) mc' mm' ∧ mm' 0 0 = mm 0 0 ∧ (∀ y j, 1 ≤ y → y ≤ 17 → ¬ md_ l x n y j → mm' y j = mm y j) := by
  obtain ⟨s, f, d, a, hs1, hf, hd, ha, e1, e2, e3, e4, g1, g2, g3, g4, hs0⟩ := I_sl hI hl hx hn
  obtain ⟨t, g, d', a', ht, hg, _, _, j1, j2, _, _, k1, k2, _, _, ht0⟩ := I_sl hI hl hr hn
  have ht1 : t ≠ 0 := fun z => hs (by rw [j1, z]; rfl)
  obtain ⟨v, hv, v1, v2⟩ := q_ord (mm := mm) hI hb hl hx hr hn hs1 hf ht hg g1 g2 k1 k2
  have hz : (0 : Int32).toInt = 0 := rfl
  have hmf : ∀ (m : jz_M) (w w' : Int32) (y j : Nat), ¬ md_ l x n y j → jz_up (jz_up m 16 (ix l x n) w) 17 (ix l x n) w' y j = m y j := fun m w w' y j hz => by
    rw [pz_up, if_neg (fun z => hz ⟨by omega, fun q => by omega, fun _ => z.2⟩), pz_up, if_neg (fun z => hz ⟨by omega, fun q => by omega, fun _ => z.2⟩)]
  have hmf1 : ∀ (m : jz_M) (w : Int32) (y j : Nat), ¬ md_ l x n y j → jz_up m 16 (ix l x n) w y j = m y j := fun m w y j hz => by
    rw [pz_up, if_neg (fun z => hz ⟨by omega, fun q => by omega, fun _ => z.2⟩)]
  have hilx := ix_lt hl hx hn
  have hilr := ix_lt hl hr hn
  -- what the reference asks
  have T : f_Mo_take (nI x) (nI r) (nI q) (nI (l + 1)) (nI n) mm = f_Mo_take_57 (nI x) (nI q) (nI (l + 1)) (nI n) (nI (ix l x n)) (nI (ix l r n)) ((1 : Int32) <<< (nI q &&& 31)) (b1 (decide (f = 0))) (b1 (decide (g = 0))) mm := by
    unfold f_Mo_take f_Mo_take_40
    simp only [pz_n, q_mat, pz_ix hilx (show 504 < 2 ^ 31 by decide), pz_ix hilr (show 504 < 2 ^ 31 by decide), Option.bind_some, e2, j2, n_eq0 (show f < 2 ^ 31 by omega), n_eq0 (show g < 2 ^ 31 by omega)]
    by_cases h1 : f = 0 <;> by_cases h2 : g = 0 <;> simp [h1, h2, b1]
  rw [T]
  have NW : ∀ (s f t g : Nat), s ≤ b → t ≤ b → f_Mo_newer (nI s) (b1 (decide (f = 0))) (nI t) (b1 (decide (g = 0))) mm = some (b1 (decide (t < s ∨ (s = t ∧ f = 0 ∧ g ≠ 0)))) := fun s f t g h1 h2 => by
    unfold f_Mo_newer f_Mo_newer_18
    simp only [n_lt (show t < 2 ^ 31 by omega) (show s < 2 ^ 31 by omega), n_eq (show s < 2 ^ 31 by omega) (show t < 2 ^ 31 by omega)]
    by_cases h3 : t < s
    · simp [h3]
    · by_cases h4 : s = t
      · by_cases h5 : f = 0 <;> by_cases h6 : g = 0 <;> simp [h4, h5, h6]
      · simp [h3, h4]
  unfold f_Mo_take_57
  simp only [pz_ix hilx (show 504 < 2 ^ 31 by decide), pz_ix hilr (show 504 < 2 ^ 31 by decide), Option.bind_some, e1, j1, NW t g s f ht hs1, NW s f t g hs1 ht, n_eq0 (show s < 2 ^ 31 by omega), b1_0, decide_eq_true_eq]
  unfold f_AR_receive
  simp only [q_bs hx hl, hv, Option.bind_some]
  unfold nw_ at v1
  unfold sm_ at v2
  by_cases c1 : t < s ∨ (s = t ∧ f = 0 ∧ g ≠ 0)
  · have := v1.mpr c1
    rw [if_neg (show ¬ v ≤ 0 by rw [i32_le, hz]; omega), if_neg (show ¬ s = 0 by omega), if_neg (show ¬ (s < t ∨ t = s ∧ g = 0 ∧ f ≠ 0) by omega), if_pos c1]
    unfold f_Ba_setDue f_Ba_setAsked
    simp only [pz_n, pz_ix hn (show 42 < 2 ^ 31 by decide), Option.bind_some, i10, if_true, g3, e3, bt_or hd hq]
    rw [jz_up_k (show bx l x + 10 ≠ bx l x + 9 by omega), g4, jz_up_k (show 17 ≠ 16 by decide), e4, bt_an ha hq]
    refine ⟨_, _, rfl, rfl, I_mono (I_marks hI hl hx hn (bt_orl hd hq) (bt_anl ha hq) (fun z => ?_)), ?_, fun y j _ _ hz => hmf mm _ _ y j hz⟩
    · rw [e1] at z
      have := (nI_eq (b := 0) (show s < 2 ^ 31 by omega) (by decide)).mp z
      omega
    · rw [jz_up_k (by decide), jz_up_k (by decide)]
  by_cases c2 : s = t ∧ (f = 0 ↔ g = 0)
  · have := v2.mpr c2
    rw [if_pos (show v ≤ 0 by rw [i32_le, hz]; omega), if_pos (show 0 ≤ v by rw [i32_le, hz]; omega), if_neg (show ¬ s = 0 by omega), if_neg (show ¬ (s < t ∨ t = s ∧ g = 0 ∧ f ≠ 0) by omega), if_neg c1]
    unfold f_AR_receive_100 f_Ba_setDue f_Ba_setAsked
    simp only [pz_n, pz_ix hn (show 42 < 2 ^ 31 by decide), Option.bind_some, i10, if_true, g3, e3, bt_an hd hq, q_sh hq, q_msh hq, b1_0, b1_n]
    rw [jz_up_k (show bx l x + 10 ≠ bx l x + 9 by omega), g4, jz_up_k (show 17 ≠ 16 by decide), e4, bt_or ha hq]
    have hI1 := I_due hI hl hx hn (bt_anl hd hq) (fun z => by
      rw [e1] at z
      have := (nI_eq (b := 0) (show s < 2 ^ 31 by omega) (by decide)).mp z
      omega)
    rw [I_sh hI1 hq]
    by_cases hsh : o_sh (jz_up mm 16 (ix l x n) (nI (an_ d q))) q = true
    · simp only [if_pos hsh]
      refine ⟨_, _, rfl, rfl, ?_, ?_, fun y j _ _ hz => hmf mm _ _ y j hz⟩
      · rw [jz_up_id (m := jz_up mm 16 (ix l x n) (nI (an_ d q))) (by rw [jz_up_k (by decide), e4])]
        exact I_mono hI1
      · rw [jz_up_k (by decide), jz_up_k (by decide)]
    · simp only [if_neg hsh]
      refine ⟨_, _, rfl, rfl, I_mono (I_asked hI1 hb hl hx hn (bt_orl ha hq)), ?_, fun y j _ _ hz => hmf mm _ _ y j hz⟩
      rw [jz_up_k (by decide), jz_up_k (by decide)]
  · have n1 : ¬ 0 < v.toInt := fun z => c1 (v1.mp z)
    have n2 : ¬ v.toInt = 0 := fun z => c2 (v2.mp z)
    have c3 : s < t ∨ t = s ∧ g = 0 ∧ f ≠ 0 := by omega
    rw [if_pos (show v ≤ 0 by rw [i32_le, hz]; omega), if_neg (show ¬ 0 ≤ v by rw [i32_le, hz]; omega), if_pos c3, ite_self]
    unfold f_Mo_take_93
    obtain ⟨c4, m4, o1, o2, o3, o4, o5, o6⟩ := I_copy hI hb hl hx hr hxr hn hs
    have kc : KP_ mm m4 := KP_md o4
    obtain ⟨s4, f4, d4, a4, hs4, hf4, hd4, ha4, p1, p2, p3, p4, q1, q2, q3, q4, _⟩ := I_sl o3 hl hx hn
    have hs8 : m4 8 (ix l x n) ≠ 0 := by rw [o5]; exact hs
    have hfg : f4 = g := (nI_eq (by omega) (by omega)).mp (p2.symm.trans (o6.trans j2))
    unfold f_AR_routerOf
    have e7 : nI n - nI (n / 7) * 7 = nI (n % 7) := by have := (n_div7 n hn).2; rwa [(n_div7 n hn).1] at this
    simp only [o1, o2, Option.bind_some, (n_div7 n hn).1, e7, q_al (c := b) (mm := m4) hn hf4 q2, b1_0, b1_n, decide_eq_true_eq, n_eq (show n / 7 < 2 ^ 31 by omega) (show x < 2 ^ 31 by omega)]
    -- it is not answered for
    have plain : ∃ mc' mm' : jz_M, f_AR_receive_85 (nI x) (nI q) (nI n) (bx l x) c4 = some mc' ∧ f_Mo_take_128 (nI x) (nI q) (nI (ix l x n)) ((1 : Int32) <<< (nI q &&& 31)) m4 = some mm' ∧ I_ (b + 1) mc' mm' ∧ mm' 0 0 = mm 0 0 ∧ (∀ y j, 1 ≤ y → y ≤ 17 → ¬ md_ l x n y j → mm' y j = mm y j) := by
      unfold f_AR_receive_85 f_AR_receive_100 f_Mo_take_128 f_Mo_take_179 f_Ba_setDue f_Ba_setDueOn f_Ba_setAsked
      simp only [pz_n, q_cs hx, q_mcs hx, I_cs o3 hx, pz_ix hn (show 42 < 2 ^ 31 by decide), pz_ix hilx (show 504 < 2 ^ 31 by decide), Option.bind_some, i10, if_true, o_cs_b, pz_up_s, jz_up_up, bt_an (b6_s_lt (o_on m4 x)) hq, q_sh hq, q_msh hq, b1_0, b1_n]
      rw [jz_up_k (show bx l x + 10 ≠ bx l x + 9 by omega), q4, jz_up_k (show 17 ≠ 16 by decide), p4, bt_or ha4 hq]
      have hI1 := I_due o3 hl hx hn (bt_anl (b6_s_lt (o_on m4 x)) hq) (fun z => absurd z hs8)
      rw [I_sh hI1 hq]
      by_cases hsh : o_sh (jz_up m4 16 (ix l x n) (nI (an_ (b6_s (o_on m4 x)) q))) q = true
      · simp only [if_pos hsh]
        refine ⟨_, _, rfl, rfl, ?_, ?_, fun y j _ _ hz => (hmf m4 _ _ y j hz).trans (o4 y j hz)⟩
        · rw [jz_up_id (m := jz_up m4 16 (ix l x n) (nI (an_ (b6_s (o_on m4 x)) q))) (by rw [jz_up_k (by decide), p4])]
          exact I_mono hI1
        · rw [jz_up_k (by decide), jz_up_k (by decide), kc.2]
      · simp only [if_neg hsh]
        refine ⟨_, _, rfl, rfl, I_mono (I_asked hI1 hb hl hx hn (bt_orl ha4 hq)), ?_, fun y j _ _ hz => (hmf m4 _ _ y j hz).trans (o4 y j hz)⟩
        rw [jz_up_k (by decide), jz_up_k (by decide), kc.2]
    by_cases h7 : n / 7 = x
    · simp only [if_neg (fun z => z h7 : ¬ ¬ n / 7 = x)]
      by_cases hg0 : g = 0
      · simp only [if_neg (show ¬ f4 ≠ 0 by omega), if_pos hg0]
        exact plain
      · simp only [if_pos (show f4 ≠ 0 by omega), if_neg hg0]
        obtain ⟨p, hp, rfl⟩ : ∃ p, p < 7 ∧ n = 7 * x + p := ⟨n % 7, by omega, by omega⟩
        obtain ⟨c5, m5, w1, w2, w3, w4, w5⟩ := own_ o3 hb hl hx hp hs8
        rw [show (7 * x + p) % 7 = p by omega, w1, w2]
        exact ⟨c5, m5, rfl, rfl, w3, w4.trans kc.2, fun y j h1 h2 hz => (w5 y j h1 h2 hz).trans (o4 y j hz)⟩
    · simp only [if_pos h7]
      exact plain
