/-! who may send; hello -/
theorem snd3 {c : Nat} {mc mm : jz_M} (hI : I_ c mc mm) (a1 a2 : Int32) : (∃ r q, r < 6 ∧ q < 6 ∧ a1 = nI r ∧ a2 = nI q ∧ o_on mm r q = true ∧ f_AR_checkSender a1 a2 mc = some () ∧ f_Mo_barred a1 a2 mm = some 0) ∨ (fx_AR_checkSender a1 a2 mc = some 1 ∧ f_Mo_barred a1 a2 mm = some 1) ∨ (fx_AR_checkSender a1 a2 mc = some 2 ∧ f_Mo_barred a1 a2 mm = some 2) := by
  unfold f_AR_checkSender f_Mo_barred fx_AR_checkSender f_Mo_barred_14
  rcases pz_rng (n := 6) (by decide) a1 with ⟨r, hr, rfl⟩ | ho
  · rcases pz_rng (n := 6) (by decide) a2 with ⟨q, hq, rfl⟩ | ho
    · simp only [q_rt_in hr, q_one_in hr, q_ct_in hq, q_one_in hq, q_at hr hq, q_on hr hq, Option.bind_some, i10, n10, b1_n, I_on hI hr hq]
      by_cases hon : o_on mm r q = true
      · simp only [if_pos hon]; exact Or.inl ⟨r, q, hr, hq, rfl, rfl, hon, by trivial, by trivial⟩
      · simp only [if_neg hon]; exact Or.inr (Or.inr ⟨by trivial, by trivial⟩)
    · simp only [q_rt_in hr, q_one_in hr, q_ct_out ho, q_one_out ho, Option.bind_some, i10, n00]
      exact Or.inr (Or.inl ⟨by trivial, by trivial⟩)
  · simp only [q_rt_out ho, q_one_out ho, Option.bind_some, i00]
    exact Or.inr (Or.inl ⟨by trivial, by trivial⟩)
theorem I_hear {c : Nat} {mc mm : jz_M} (h : I_ c mc mm) {l x q r v : Nat} (hl : l < 2) (hx : x < 6) (hq : q < 6) (hr : r < 6) (hxr : x ≠ r) (h1 : o_on mm x q = true) (h2 : o_on mm r q = true) (hv : v ≤ 1) :
    I_ c (jz_up (jz_up mc (8 + 3 * l) (36 * x + 6 * q + r) 4) (9 + 3 * l) (36 * x + 6 * q + r) (nI v)) (jz_up (jz_up mm 6 (ex l x q r) 4) 7 (ex l x q r) (nI v)) := by
  obtain ⟨m2, hm2⟩ : ∃ y, y = jz_up (jz_up mm 6 (ex l x q r) 4) 7 (ex l x q r) (nI v) := ⟨_, rfl⟩
  obtain ⟨c2, hc2⟩ : ∃ y, y = jz_up (jz_up mc (8 + 3 * l) (36 * x + 6 * q + r) 4) (9 + 3 * l) (36 * x + 6 * q + r) (nI v) := ⟨_, rfl⟩
  rw [← hm2, ← hc2]
  have hk : ∀ k, k ≠ 6 → k ≠ 7 → m2 k = mm k := fun k a b => by rw [hm2, jz_up_k b, jz_up_k a]
  have gk : ∀ k, k ≠ 8 + 3 * l → k ≠ 9 + 3 * l → c2 k = mc k := fun k a b => by rw [hc2, jz_up_k b, jz_up_k a]
  have f6 : ∀ j, m2 6 j = if j = ex l x q r then 4 else mm 6 j := fun j => by rw [hm2, jz_up_k (by decide), pz_up]; simp
  have f7 : ∀ j, m2 7 j = if j = ex l x q r then nI v else mm 7 j := fun j => by rw [hm2, pz_up, jz_up_k (by decide)]; simp
  have f8 : ∀ j, c2 (8 + 3 * l) j = if j = 36 * x + 6 * q + r then 4 else mc (8 + 3 * l) j := fun j => by rw [hc2, jz_up_k (by omega), pz_up]; simp
  have f9 : ∀ j, c2 (9 + 3 * l) j = if j = 36 * x + 6 * q + r then nI v else mc (9 + 3 * l) j := fun j => by rw [hc2, pz_up, jz_up_k (by omega)]; simp
  refine ⟨fun y hy => ?_, fun j hj => ?_, fun y hy => ?_, fun l' e hl' he => ?_, fun l' y p n g1 g2 g3 g4 => ?_, fun l' y n g1 g2 g3 => ?_⟩
  · rw [x_pl (mc := mc) (mm := mm) (gk 1 (by omega) (by omega)) (gk 2 (by omega) (by omega)) (hk 1 (by decide) (by decide)) (hk 2 (by decide) (by decide)) (hk 3 (by decide) (by decide)) (hk 4 (by decide) (by decide))]
    exact h.1 y hy
  · rw [x_wi (mc := mc) (mm := mm) (gk 4 (by omega) (by omega)) (gk 5 (by omega) (by omega)) (hk 4 (by decide) (by decide)) (hk 5 (by decide) (by decide))]
    exact h.2.1 j hj
  · rw [x_ct (hk 4 (by decide) (by decide))]; exact h.2.2.1 y hy
  · obtain ⟨e1, e2⟩ := h.2.2.2.1 l' e hl' he
    unfold I_he
    by_cases hll : l' = l
    · subst hll
      rw [f6, f7, f8, f9]
      by_cases hee : e = 36 * x + 6 * q + r
      · rw [if_pos hee, if_pos (by unfold ex; omega), if_pos hee, if_pos (by unfold ex; omega)]; exact ⟨rfl, rfl⟩
      · rw [if_neg hee, if_neg (by unfold ex; omega), if_neg hee, if_neg (by unfold ex; omega)]; exact ⟨e1, e2⟩
    · rw [gk (8 + 3 * l') (by omega) (by omega), gk (9 + 3 * l') (by omega) (by omega), f6, f7, if_neg (by unfold ex; omega), if_neg (by unfold ex; omega)]
      exact ⟨e1, e2⟩
  · obtain ⟨e1, e2, e3⟩ := h.2.2.2.2.1 l' y p n g1 g2 g3 g4
    unfold ih_
    rw [x_on (hk 4 (by decide) (by decide)), f6, f7]
    by_cases hee : ex l' y p n = ex l x q r
    · have hy : y = x ∧ p = q ∧ n = r := by unfold ex at hee; omega
      obtain ⟨rfl, rfl, rfl⟩ := hy
      rw [if_pos hee, if_pos hee]
      refine ⟨⟨4, by decide, rfl⟩, ?_, fun _ => ⟨hxr, h1, h2⟩⟩
      rcases (show v = 0 ∨ v = 1 by omega) with rfl | rfl
      · exact Or.inl rfl
      · exact Or.inr rfl
    · rw [if_neg hee, if_neg hee]; exact ⟨e1, e2, e3⟩
  · rw [x_rd (mc := mc) (mm := mm) (fun k a b => gk k (by omega) (by omega)) (fun k a b => hk k (by omega) (by omega)) g1 g2, x_iv (mm := mm) (fun k a b => hk k (by omega) (by omega))]
    exact h.2.2.2.2.2 l' y n g1 g2 g3
theorem nar_b (b : Bool) : vp_nar .boolean (b1 b) = nI b.toNat := by cases b <;> decide +kernel
theorem nar_0 : vp_nar .boolean 0 = nI (false).toNat := by decide +kernel
theorem nar_1 : vp_nar .boolean 1 = nI (true).toNat := by decide +kernel
theorem b_le (b : Bool) : b.toNat ≤ 1 := by cases b <;> decide
abbrev o_hd (m : jz_M) (l r c n : Nat) : Bool := decide (0 < (m 6 (ex l r c n)).toInt)
theorem q_hd {k l r c n : Nat} {mc mm : jz_M} (hI : I_ k mc mm) (hl : l < 2) (hr : r < 6) (hc : c < 6) (hn : n < 6) : f_He_isHeard (7 + 3 * l) (nI r) (nI c) (nI n) mc = some (b1 (o_hd mm l r c n)) := by
  unfold f_He_isHeard
  simp only [he_ix hr hc hn, Option.bind_some]
  rw [show 7 + 3 * l + 1 = 8 + 3 * l by omega, (hI.2.2.2.1 l (36 * r + 6 * c + n) hl (by omega)).1, pz_le0, pz_br (f := some)]
/-- one level of a hello that x receives -/
theorem hello_l {c l x q r : Nat} {mc mm : jz_M} (hI : I_ c mc mm) (hl : l < 2) (hx : x < 6) (hq : q < 6) (hr : r < 6) (hxr : x ≠ r) (h1 : o_on mm x q = true) (h2 : o_on mm r q = true) :
    ∃ mc' mm' : jz_M, (∀ fu, f_AR_noteHello_3 (fu + 1) (nI x) (nI q) (nI r) (nI (l + 1)) mc = f_AR_noteHello_3 fu (nI x) (nI q) (nI r) (nI (l + 1 + 1)) mc') ∧ (∀ k31 fu a3 n, f_Mo_hello_56 k31 (fu + 1) (nI r) (nI q) a3 n (nI x) (nI (l + 1)) mm = f_Mo_hello_56 k31 fu (nI r) (nI q) a3 n (nI x) (nI (l + 1 + 1)) mm') ∧ I_ c mc' mm' ∧ mm' 0 = mm 0 ∧ mm' 4 = mm 4 := by
  have h2l : ¬ (2 : Int32) < nI (l + 1) := nI_nlt (a := 2) (b := l + 1) (by omega) (by decide)
  have e62 : ∀ k3, f_AR_noteHello_62 k3 (nI x) (nI q) (nI r) (nI (l + 1)) mc = k3 (nI x) (nI q) (nI r) (nI (l + 1 + 1)) (jz_up (jz_up mc (8 + 3 * l) (36 * x + 6 * q + r) 4) (9 + 3 * l) (36 * x + 6 * q + r) (nI (o_hd mm l r q x).toNat)) := fun k3 => by
    unfold f_AR_noteHello_62 f_He_note
    simp only [pz_n, q_hg hl, q_hd hI hl hr hq hx, he_ix hx hq hr, Option.bind_some, nI_1, nar_b]
    rw [show 7 + 3 * l + 1 = 8 + 3 * l by omega, show 7 + 3 * l + 2 = 9 + 3 * l by omega]
  have e105 : ∀ k31 k56 a3 n, f_Mo_hello_105 k31 k56 (nI r) (nI q) a3 n (nI x) (nI (l + 1)) mm = k56 (nI r) (nI q) a3 n (nI x) (nI (l + 1 + 1)) (jz_up (jz_up mm 6 (ex l x q r) 4) 7 (ex l x q r) (nI (o_hd mm l r q x).toNat)) := fun k31 k56 a3 n => by
    unfold f_Mo_hello_105
    simp only [pz_n, q_ear, ex_ix hl hx hq hr, ex_ix hl hr hq hx, Option.bind_some, nI_1, nar_0, nar_1]
    rw [pz_up_i _ _ _ _ _ (show ex l r q x ≠ ex l x q r by unfold ex; omega), pz_le0]
    unfold o_hd
    cases decide (0 < (mm 6 (ex l r q x)).toInt) <;> rfl
  obtain ⟨b, hb⟩ : ∃ b : Bool, b = (o_hl mm x l && o_hl mm r l && (decide (l = 1) || decide (mm 1 x = mm 1 r))) := ⟨_, rfl⟩
  have ha : mc 1 x = mm 1 x := (hI.1 x hx).1
  have har : mc 1 r = mm 1 r := (hI.1 r hr).1
  cases b with
  | true =>
    have hb1 : o_hl mm x l = true ∧ o_hl mm r l = true ∧ (l = 1 ∨ mm 1 x = mm 1 r) := by
      have := hb.symm
      simp only [Bool.and_eq_true, Bool.or_eq_true, decide_eq_true_eq] at this
      exact ⟨this.1.1, this.1.2, this.2⟩
    refine ⟨_, _, fun fu => ?_, fun k31 fu a3 n => ?_, I_hear hI hl hx hq hr hxr h1 h2 (b_le (o_hd mm l r q x)), ?_, ?_⟩
    · rw [f_AR_noteHello_3, if_neg h2l, pz_b (q_hl hx hl mc), b1_0, I_hl hI hx l, if_pos hb1.1, pz_b (q_hl hr hl mc), b1_0, I_hl hI hr l, if_pos hb1.2.1]
      unfold f_AR_noteHello_34
      rw [i10, e62, pz_ix hx (by decide), pz_ix hr (by decide)]
      simp only [Option.bind_some, ha, har]
      by_cases hl1 : l = 1
      · subst hl1; rw [if_pos (by decide)]
      · rw [if_neg (fun z => hl1 (by have := (nI_eq (a := l + 1) (b := 2) (by omega) (by decide)).mp z; omega)), if_neg (fun z => z (hb1.2.2.resolve_left hl1))]
    · rw [f_Mo_hello_56, if_neg h2l, pz_b (q_has hx hl mm), b1_0, if_pos hb1.1, pz_b (q_has hr hl mm), b1_0, if_pos hb1.2.1, e105, pz_ix hx (by decide), pz_ix hr (by decide)]
      simp only [Option.bind_some]
      by_cases hl1 : l = 1
      · subst hl1; rw [if_pos (by decide)]
      · rw [if_neg (fun z => hl1 (by have := (nI_eq (a := l + 1) (b := 2) (by omega) (by decide)).mp z; omega)), if_neg (fun z => z (hb1.2.2.resolve_left hl1))]
    · rw [jz_up_k (by decide), jz_up_k (by decide)]
    · rw [jz_up_k (by decide), jz_up_k (by decide)]
  | false =>
    have hb1 : ¬ (o_hl mm x l = true ∧ o_hl mm r l = true ∧ (l = 1 ∨ mm 1 x = mm 1 r)) := by
      rintro ⟨a1, a2, a3⟩
      rw [a1, a2] at hb
      rcases a3 with a3 | a3 <;> simp [a3] at hb
    refine ⟨mc, mm, fun fu => ?_, fun k31 fu a3 n => ?_, hI, rfl, rfl⟩
    · rw [f_AR_noteHello_3, if_neg h2l, pz_b (q_hl hx hl mc), b1_0, I_hl hI hx l]
      unfold f_AR_noteHello_33 f_AR_noteHello_34
      simp only [if_true, i10, pz_n, nI_1]
      by_cases a1 : o_hl mm x l = true
      · rw [if_pos a1, pz_b (q_hl hr hl mc), b1_0, I_hl hI hr l]
        by_cases a2 : o_hl mm r l = true
        · have a3 : ¬ (l = 1 ∨ mm 1 x = mm 1 r) := fun z => hb1 ⟨a1, a2, z⟩
          rw [if_pos a2, if_neg (fun z => a3 (Or.inl (by have := (nI_eq (a := l + 1) (b := 2) (by omega) (by decide)).mp z; omega))), pz_ix hx (by decide), pz_ix hr (by decide)]
          simp only [Option.bind_some, ha, har]
          rw [if_pos (fun z => a3 (Or.inr z))]
        · rw [if_neg a2]
      · rw [if_neg a1]
    · rw [f_Mo_hello_56, if_neg h2l, pz_b (q_has hx hl mm), b1_0]
      simp only [pz_n, nI_1]
      by_cases a1 : o_hl mm x l = true
      · rw [if_pos a1, pz_b (q_has hr hl mm), b1_0]
        by_cases a2 : o_hl mm r l = true
        · have a3 : ¬ (l = 1 ∨ mm 1 x = mm 1 r) := fun z => hb1 ⟨a1, a2, z⟩
          rw [if_pos a2, if_neg (fun z => a3 (Or.inl (by have := (nI_eq (a := l + 1) (b := 2) (by omega) (by decide)).mp z; omega))), pz_ix hx (by decide), pz_ix hr (by decide)]
          simp only [Option.bind_some]
          rw [if_pos (fun z => a3 (Or.inr z))]
        · rw [if_neg a2]
      · rw [if_neg a1]
/-- a hello that x receives -/
theorem hello_x {c x q r : Nat} {mc mm : jz_M} (hI : I_ c mc mm) (hx : x < 6) (hq : q < 6) (hr : r < 6) (hxr : x ≠ r) (h1 : o_on mm x q = true) (h2 : o_on mm r q = true) :
    ∃ mc' mm' : jz_M, f_AR_noteHello (nI x) (nI q) (nI r) mc = some mc' ∧ (∀ k31 a3 n, f_Mo_hello_56 k31 1000000 (nI r) (nI q) a3 n (nI x) 1 mm = k31 (nI r) (nI q) a3 n (nI (x + 1)) mm') ∧ I_ c mc' mm' ∧ mm' 0 = mm 0 ∧ mm' 4 = mm 4 := by
  obtain ⟨c1, m1, a1, b1, i1, z1, y1⟩ := hello_l (l := 0) hI (by decide) hx hq hr hxr h1 h2
  obtain ⟨c2, m2, a2, b2, i2, z2, y2⟩ := hello_l (l := 1) i1 (by decide) hx hq hr hxr (by rw [x_on y1]; exact h1) (by rw [x_on y1]; exact h2)
  refine ⟨c2, m2, ?_, fun k31 a3 n => ?_, i2, z2.trans z1, y2.trans y1⟩
  · unfold f_AR_noteHello
    refine (a1 999).trans ((a2 998).trans ?_)
    rw [f_AR_noteHello_3, if_pos (by decide)]
  · refine (b1 k31 999999 a3 n).trans ((b2 k31 999998 a3 n).trans ?_)
    rw [f_Mo_hello_56, if_pos (by decide), pz_n, nI_1]
theorem pz_and1 (y : Int32) : y &&& 1 = 0 ∨ y &&& 1 = 1 := by
  have h : y.toBitVec &&& 1#32 = 0#32 ∨ y.toBitVec &&& 1#32 = 1#32 := by
    rw [BitVec.and_one_eq_setWidth_ofBool_getLsbD]
    cases y.toBitVec.getLsbD 0
    · exact Or.inl (by decide)
    · exact Or.inr (by decide)
  rcases h with h | h
  · exact Or.inl (Int32.toBitVec_inj.mp h)
  · exact Or.inr (Int32.toBitVec_inj.mp h)
/-- is x meant -/
abbrev o_mt (a : Int32) (x : Nat) : Bool := decide ((a >>> (nI x &&& 31)) &&& 1 = 1)
theorem q_mt (a : Int32) (x : Nat) (m : jz_M) : f_AR_isMeant (nI x) a m = some (b1 (o_mt a x)) := by
  unfold f_AR_isMeant o_mt
  rcases pz_and1 (a >>> (nI x &&& 31)) with h | h <;> rw [h] <;> rfl
theorem q_rc {x r c : Nat} (hx : x < 6) (hr : r < 6) (hc : c < 6) (a : Int32) (m : jz_M) : f_Mo_receives (nI x) (nI r) (nI c) a m = some (b1 (!decide (x = r) && o_on m x c && o_mt a x)) := by
  unfold f_Mo_receives
  by_cases h : x = r
  · subst h; rw [if_pos rfl]; simp
  · rw [if_neg (fun z => h ((nI_eq (by omega) (by omega)).mp z)), pz_b (q_on hx hc m), b1_0]
    unfold o_mt
    cases o_on m x c
    · simp
    · by_cases h2 : (a >>> (nI x &&& 31)) &&& 1 = 1 <;> simp [h, h2]
theorem hello_loop {c q r : Nat} (hq : q < 6) (hr : r < 6) (a3 : Int32) : ∀ (g i fu fu' : Nat) (n : Int32) (mc mm : jz_M), i + g = 6 → g < fu → g < fu' → I_ c mc mm → o_on mm r q = true → mm 0 0 = 0 → ∃ (v : Int32) (mc' mm' : jz_M), f_AR_hello_12 fu (nI r) (nI q) a3 n (nI i) mc = some (v, mc') ∧ f_Mo_hello_31 fu' (nI r) (nI q) a3 n (nI i) mm = some (v, mm') ∧ I_ c mc' mm' ∧ mm' 0 0 = 0 := by
  intro g
  induction g with
  | zero =>
    intro i fu fu' n mc mm h1 h2 h3 hI hon h0
    obtain ⟨fu, rfl⟩ : ∃ k, fu = k + 1 := ⟨fu - 1, by omega⟩
    obtain ⟨fu', rfl⟩ : ∃ k, fu' = k + 1 := ⟨fu' - 1, by omega⟩
    exact ⟨n, mc, mm, by rw [f_AR_hello_12, if_pos (py6 (by omega) (by omega))], by rw [f_Mo_hello_31, if_pos (py6 (by omega) (by omega))], hI, h0⟩
  | succ g ih =>
    intro i fu fu' n mc mm h1 h2 h3 hI hon h0
    obtain ⟨fu, rfl⟩ : ∃ k, fu = k + 1 := ⟨fu - 1, by omega⟩
    obtain ⟨fu', rfl⟩ : ∃ k, fu' = k + 1 := ⟨fu' - 1, by omega⟩
    have hi : i < 6 := by omega
    rw [f_AR_hello_12, if_neg (pn6 hi), f_Mo_hello_31, if_neg (pn6 hi), pz_b (q_rc hi hr hq a3 mm), b1_0, pz_b (q_mt a3 i mc), b1_0, pz_b (q_at hi hq mc), b1_0, I_on hI hi hq]
    simp only [pz_n, nI_1]
    by_cases hir : i = r
    · rw [if_pos (by rw [hir]), if_neg (by simp [hir])]
      exact ih (i + 1) fu fu' n mc mm (by omega) (by omega) (by omega) hI hon h0
    rw [if_neg (fun z => hir ((nI_eq (by omega) (by omega)).mp z))]
    by_cases hm : o_mt a3 i = true
    · rw [if_pos hm]
      by_cases ho : o_on mm i q = true
      · rw [if_pos ho, if_pos (by rw [hm, ho]; simp [hir])]
        obtain ⟨c1, m1, e1, e2, e3, e4, e5⟩ := hello_x hI hi hq hr hir ho hon
        rw [pz_b e1, e2]
        exact ih (i + 1) fu fu' (n + 1) c1 m1 (by omega) (by omega) (by omega) e3 (by rw [x_on e5]; exact hon) (by rw [e4]; exact h0)
      · rw [if_neg ho, if_neg (by simp [ho])]
        exact ih (i + 1) fu fu' n mc mm (by omega) (by omega) (by omega) hI hon h0
    · rw [if_neg hm, if_neg (by simp [hm])]
      exact ih (i + 1) fu fu' n mc mm (by omega) (by omega) (by omega) hI hon h0
theorem ok_hello : sp_hello J_ := by
  intro c mc mm hc hI a1 a2 a3
  rcases snd3 hI a1 a2 with ⟨r, q, hr, hq, rfl, rfl, hon, e1, e2⟩ | ⟨e1, e2⟩ | ⟨e1, e2⟩
  · unfold f_Mo_hello f_AR_hello
    rw [pz_b e2, pz_b e1, if_pos (by decide), pz_n]
    obtain ⟨v, c1, m1, g1, g2, g3, g4⟩ := hello_loop (c := 252 * c) hq hr a3 6 0 1000 1000000 0 mc (jz_up mm 0 0 0) (by decide) (by decide) (by decide) (I_thr 0 0 hI) (by rw [x_on (jz_up_k (by decide))]; exact hon) (pz_up_s _ _ _ _)
    exact ⟨(v, m1), g2, Or.inl ⟨(v, c1), g1, g4, rfl, I_up g3⟩⟩
  · unfold f_Mo_hello f_Mo_raise
    rw [pz_b e2, if_neg (by decide)]
    exact ⟨(0, jz_up mm 0 0 1), rfl, Or.inr (Or.inl ⟨e1, pz_up_s mm 0 0 1, I_up (I_thr 0 1 hI)⟩)⟩
  · unfold f_Mo_hello f_Mo_raise
    rw [pz_b e2, if_neg (by decide)]
    exact ⟨(0, jz_up mm 0 0 2), rfl, Or.inr (Or.inr ⟨e1, pz_up_s mm 0 0 2, I_up (I_thr 0 2 hI)⟩)⟩
