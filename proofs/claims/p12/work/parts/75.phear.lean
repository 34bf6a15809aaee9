/-! levels, bases, hearing: questions; neighbour, marks, description -/
theorem lv_rng (a : Int32) : (∃ l, l < 2 ∧ a = nI (l + 1)) ∨ (a < 1 ∨ 2 < a) := by
  by_cases h1 : a < 1
  · exact Or.inr (Or.inl h1)
  by_cases h2 : 2 < a
  · exact Or.inr (Or.inr h2)
  obtain ⟨n, hn1, hn2, rfl⟩ := pz_nI (lo := 1) (hi := 2) (by decide) (by decide) h1 h2
  exact Or.inl ⟨n - 1, by omega, by rw [show n - 1 + 1 = n by omega]⟩
theorem q_lv_in {l : Nat} (h : l < 2) (m : jz_M) : f_AR_isLevel (nI (l + 1)) m = some 1 := by
  rcases (show l = 0 ∨ l = 1 by omega) with rfl | rfl <;> rfl
theorem q_lv_out {a : Int32} (h : a < 1 ∨ 2 < a) (m : jz_M) : f_AR_isLevel a m = some 0 := by
  unfold f_AR_isLevel
  by_cases h1 : a < 1
  · rw [if_pos h1]
  · rcases h with h | h
    · exact absurd h h1
    · rw [if_neg h1, if_pos h]
abbrev o_hl (m : jz_M) (r l : Nat) : Bool := !decide (m 2 r &&& nI (l + 1) = 0)
theorem pz_eq0 {p : Prop} [Decidable p] {α : Type} {a b : α} : (if p then a else b) = if (!decide p) = true then b else a := by
  by_cases h : p
  · rw [if_pos h, if_neg (by simp [h])]
  · rw [if_neg h, if_pos (by simp [h])]
theorem q_hl {r l : Nat} (hr : r < 6) (hl : l < 2) (m : jz_M) : f_AR_hasLevel (nI r) (nI (l + 1)) m = some (b1 (o_hl m r l)) := by
  unfold f_AR_hasLevel
  rw [pz_b (q_lv_in hl m), i10, pz_ix hr (by decide)]
  show (if m 2 r &&& nI (l + 1) = 0 then some 0 else some 1) = _
  rw [pz_eq0, pz_br (f := some)]
theorem q_hl_out {x a : Int32} (h : a < 1 ∨ 2 < a) (m : jz_M) : f_AR_hasLevel x a m = some 0 := by
  unfold f_AR_hasLevel; rw [pz_b (q_lv_out h m), i00]
theorem q_has {r l : Nat} (hr : r < 6) (hl : l < 2) (m : jz_M) : f_Mo_has (nI r) (nI (l + 1)) m = some (b1 (o_hl m r l)) := by
  have h10 : f_Mo_has_10 m (nI r) (nI (l + 1)) = some (b1 (o_hl m r l)) := by
    unfold f_Mo_has_10
    rw [pz_ix hr (by decide)]
    show (if m 2 r &&& nI (l + 1) = 0 then some 0 else some 1) = _
    rw [pz_eq0, pz_br (f := some)]
  unfold f_Mo_has
  rw [h10]
  rcases (show l = 0 ∨ l = 1 by omega) with rfl | rfl
  · exact if_pos rfl
  · rw [if_neg (by decide), if_neg (by decide)]
theorem q_has_out {x a : Int32} (h : a < 1 ∨ 2 < a) (m : jz_M) : f_Mo_has x a m = some 0 := by
  have h1 : ¬ a = 1 := by rintro rfl; rcases h with h | h <;> exact absurd h (by decide)
  have h2 : ¬ a = 2 := by rintro rfl; rcases h with h | h <;> exact absurd h (by decide)
  unfold f_Mo_has
  rw [if_neg h1, if_pos h2]
theorem I_hl {c : Nat} {mc mm : jz_M} (h : I_ c mc mm) {r : Nat} (hr : r < 6) (l : Nat) : o_hl mc r l = o_hl mm r l := by unfold o_hl; rw [(h.1 r hr).2.1]
theorem q_hg {l : Nat} (hl : l < 2) (m : jz_M) : f_AR_hearingAt (nI (l + 1)) m = some (7 + 3 * l) := by
  unfold f_AR_hearingAt; rw [nI_pred, pz_ix hl (by decide)]; rfl
theorem q_bs {r l : Nat} (hr : r < 6) (hl : l < 2) (m : jz_M) : f_AR_baseOf (nI r) (nI (l + 1)) m = some (bx l r) := by
  unfold f_AR_baseOf
  rw [nI_pred, show nI l * 6 + nI r = nI (6 * l + r) by rw [show (6 : Int32) = nI 6 from rfl, nI_mul, nI_add, Nat.mul_comm], pz_ix (by omega) (by decide)]; rfl
theorem q_mat {r l n : Nat} (m : jz_M) : f_Mo_at (nI r) (nI (l + 1)) (nI n) m = some (nI (ix l r n)) := by
  unfold f_Mo_at
  rw [nI_pred, show (84 : Int32) = nI 84 from rfl, show (42 : Int32) = nI 42 from rfl, nI_mul, nI_mul, nI_add, nI_add]
theorem ix_lt {l r n : Nat} (hl : l < 2) (hr : r < 6) (hn : n < 42) : ix l r n < 504 := by unfold ix; omega
abbrev o_mu (m : jz_M) (l r c n : Nat) : Bool := decide (0 < (m (8 + 3 * l) (36 * r + 6 * c + n)).toInt) && !decide (m (9 + 3 * l) (36 * r + 6 * c + n) = 0)
abbrev o_ne (m : jz_M) (l r c n : Nat) : Bool := decide (0 < (m 6 (ex l r c n)).toInt) && !decide (m 7 (ex l r c n) = 0)
theorem pz_and {b d : Bool} {α : Type} {x y : α} : (if b = true then (if d = true then x else y) else y) = if (b && d) = true then x else y := by cases b <;> cases d <;> rfl
theorem he_ix {r c n : Nat} (hr : r < 6) (hc : c < 6) (hn : n < 6) : jz_ix 216 ((nI r * 6 + nI c) * 6 + nI n) = some (36 * r + 6 * c + n) := by
  rw [show (nI r * 6 + nI c) * 6 + nI n = nI (36 * r + 6 * c + n) by rw [show (6 : Int32) = nI 6 from rfl, nI_mul, nI_add, nI_mul, nI_add]; congr 1; omega]
  exact pz_ix (by omega) (by decide)
theorem q_mu {l r c n : Nat} (hr : r < 6) (hc : c < 6) (hn : n < 6) (m : jz_M) : f_He_isMutual (7 + 3 * l) (nI r) (nI c) (nI n) m = some (b1 (o_mu m l r c n)) := by
  unfold f_He_isMutual
  simp only [pz_n, he_ix hr hc hn, Option.bind_some]
  rw [show 7 + 3 * l + 1 = 8 + 3 * l by omega, show 7 + 3 * l + 2 = 9 + 3 * l by omega, pz_le0]
  rw [pz_eq0 (p := m (9 + 3 * l) (36 * r + 6 * c + n) = 0), pz_and, pz_br (f := some)]
theorem ex_ix {l r c n : Nat} (hl : l < 2) (hr : r < 6) (hc : c < 6) (hn : n < 6) : jz_ix 432 (nI (ex l r c n)) = some (ex l r c n) := pz_ix (by unfold ex; omega) (by decide)
theorem q_ear {l r c n : Nat} (m : jz_M) : f_Mo_ear (nI r) (nI c) (nI (l + 1)) (nI n) m = some (nI (ex l r c n)) := by
  unfold f_Mo_ear
  rw [nI_pred, show (216 : Int32) = nI 216 from rfl, show (36 : Int32) = nI 36 from rfl, show (6 : Int32) = nI 6 from rfl, nI_mul, nI_mul, nI_mul, nI_add, nI_add, nI_add, show 216 * l + 36 * r + 6 * c + n = ex l r c n by unfold ex; omega]
theorem q_ne {l r c n : Nat} (hl : l < 2) (hr : r < 6) (hc : c < 6) (hn : n < 6) (m : jz_M) : f_Mo_near (nI r) (nI c) (nI (l + 1)) (nI n) m = some (b1 (o_ne m l r c n)) := by
  unfold f_Mo_near
  simp only [q_ear, ex_ix hl hr hc hn, Option.bind_some]
  rw [pz_le0, pz_eq0 (p := m 7 (ex l r c n) = 0), pz_and, pz_br (f := some)]
theorem I_mu {c : Nat} {mc mm : jz_M} (h : I_ c mc mm) {l r q n : Nat} (hl : l < 2) (hr : r < 6) (hq : q < 6) (hn : n < 6) : o_mu mc l r q n = o_ne mm l r q n := by
  obtain ⟨h1, h2⟩ := h.2.2.2.1 l (36 * r + 6 * q + n) hl (by omega)
  unfold o_mu o_ne
  rw [h1, h2]
theorem ok_neighbour : sp_neighbour J_ := by
  intro c mc mm hc hI a1 a2 a3 a4
  unfold f_AR_neighbour f_Mo_neighbour
  simp only [pz_n]
  obtain ⟨m1, hm1⟩ : ∃ x, x = jz_up mm 0 0 0 := ⟨_, rfl⟩
  rw [← hm1]
  have hI1 : I_ (252 * c) mc m1 := by rw [hm1]; exact I_thr 0 0 hI
  rcases pz_rng (n := 6) (by decide) a1 with ⟨r, hr, rfl⟩ | ho
  · simp only [q_rt_in hr, q_one_in hr, Option.bind_some, i10]
    rcases pz_rng (n := 6) (by decide) a2 with ⟨q, hq, rfl⟩ | ho
    · simp only [q_ct_in hq, q_one_in hq, Option.bind_some, i10]
      rcases pz_rng (n := 6) (by decide) a4 with ⟨n, hn, rfl⟩ | ho
      · simp only [q_rt_in hn, q_one_in hn, Option.bind_some, i10]
        rcases lv_rng a3 with ⟨l, hl, rfl⟩ | ho
        · simp only [q_lv_in hl, q_hg hl, q_mu hr hq hn, Option.bind_some, i10]
          have e : f_Mo_neighbour_37 (nI r) (nI q) (nI (l + 1)) (nI n) m1 = some (b1 (o_ne m1 l r q n), m1) := by
            unfold f_Mo_neighbour_37
            rw [pz_b (q_ne hl hr hq hn m1), b1_0]
            cases o_ne m1 l r q n <;> rfl
          rw [e, I_mu hI1 hl hr hq hn, b1_0]
          refine ⟨b1 (o_ne m1 l r q n), (b1 (o_ne m1 l r q n), m1), by cases o_ne m1 l r q n <;> rfl, ?_, rfl, I_up hI1⟩
          rcases (show l = 0 ∨ l = 1 by omega) with rfl | rfl
          · exact if_pos rfl
          · rw [if_neg (by decide), if_neg (by decide)]
        · have h1 : ¬ a3 = 1 := by rintro rfl; rcases ho with h | h <;> exact absurd h (by decide)
          have h2 : ¬ a3 = 2 := by rintro rfl; rcases ho with h | h <;> exact absurd h (by decide)
          simp only [q_lv_out ho, Option.bind_some, i00, if_neg h1, if_pos h2]
          exact ⟨_, _, rfl, rfl, rfl, I_up hI1⟩
      · simp only [q_rt_out ho, q_one_out ho, Option.bind_some, i00]
        rcases lv_rng a3 with ⟨l, hl, rfl⟩ | ho2
        · simp only [q_lv_in hl, Option.bind_some, i10]
          exact ⟨_, _, rfl, rfl, rfl, I_up hI1⟩
        · simp only [q_lv_out ho2, Option.bind_some, i00]
          exact ⟨_, _, rfl, rfl, rfl, I_up hI1⟩
    · simp only [q_ct_out ho, q_one_out ho, Option.bind_some, i00]
      exact ⟨_, _, rfl, rfl, rfl, I_up hI1⟩
  · simp only [q_rt_out ho, q_one_out ho, Option.bind_some, i00]
    exact ⟨_, _, rfl, rfl, rfl, I_up hI1⟩
theorem q_nm_in {n : Nat} (h : n < 42) (m : jz_M) : f_AR_isName (nI n) m = some 1 := by
  unfold f_AR_isName
  rw [if_neg (nI_pos (by omega)), if_neg (show ¬ (42 : Int32) ≤ nI n from nI_ge h (by decide))]
theorem q_nm_out {a : Int32} (h : a < 0 ∨ nI 42 ≤ a) (m : jz_M) : f_AR_isName a m = some 0 := by
  unfold f_AR_isName
  by_cases h1 : a < 0
  · rw [if_pos h1]
  · rcases h with h | h
    · exact absurd h h1
    · rw [if_neg h1, if_pos (show (42 : Int32) ≤ a from h)]
theorem q_mnm (a : Int32) (m : jz_M) : f_Mo_isName a m = f_AR_isName a m := rfl
theorem ok_marks : sp_marks J_ := by
  intro c mc mm hc hI a1 a2 a3
  unfold f_AR_marks f_Mo_marks
  simp only [pz_n]
  obtain ⟨m1, hm1⟩ : ∃ x, x = jz_up mm 0 0 0 := ⟨_, rfl⟩
  rw [← hm1]
  have hI1 : I_ (252 * c) mc m1 := by rw [hm1]; exact I_thr 0 0 hI
  simp only [q_mnm]
  rcases pz_rng (n := 6) (by decide) a1 with ⟨r, hr, rfl⟩ | ho
  · simp only [q_rt_in hr, q_one_in hr, Option.bind_some, i10]
    rcases lv_rng a2 with ⟨l, hl, rfl⟩ | ho
    · simp only [q_hl hr hl, q_has hr hl, Option.bind_some, b1_0, I_hl hI1 hr l]
      by_cases hh : o_hl m1 r l = true
      · simp only [if_pos hh]
        rcases pz_rng (n := 42) (by decide) a3 with ⟨n, hn, rfl⟩ | ho
        · unfold f_Ba_marksOf
          simp only [q_nm_in hn, q_bs hr hl, q_mat, Option.bind_some, i10, n10, pz_ix hn (show 42 < 2 ^ 31 by decide), pz_ix (ix_lt hl hr hn) (show 504 < 2 ^ 31 by decide)]
          refine ⟨_, _, rfl, rfl, ?_, I_up hI1⟩
          obtain ⟨⟨_, _, _, _, _, _, _, _, e9, e10⟩, _⟩ := hI1.2.2.2.2.2 l r n hl hr hn
          rw [e9, e10]
        · simp only [q_nm_out ho, Option.bind_some, n00, i00]
          exact ⟨_, _, rfl, rfl, rfl, I_up hI1⟩
      · simp only [if_neg hh]
        exact ⟨_, _, rfl, rfl, rfl, I_up hI1⟩
    · simp only [q_hl_out ho, q_has_out ho, Option.bind_some, i00]
      exact ⟨_, _, rfl, rfl, rfl, I_up hI1⟩
  · simp only [q_rt_out ho, q_one_out ho, Option.bind_some, i00]
    exact ⟨_, _, rfl, rfl, rfl, I_up hI1⟩
