/-! links are copied; a description is renewed, or ends -/
/-- k places of row q from b on are those of row s from f on -/
def lk_ (m : jz_M) (q b s f k : Nat) : jz_M := fun a j => if a = q ∧ b ≤ j ∧ j < b + k then m s (f + (j - b)) else m a j
theorem lk_0 (m : jz_M) (q b s f : Nat) : lk_ m q b s f 0 = m := by
  funext a j; unfold lk_; rw [if_neg (by omega)]
theorem lk_k {m : jz_M} {q b s f k a : Nat} (h : a ≠ q) : lk_ m q b s f k a = m a := by
  funext j; unfold lk_; rw [if_neg (fun z => h z.1)]
theorem lk_in {m : jz_M} {q b s f k j : Nat} (h : j < k) : lk_ m q b s f k q (b + j) = m s (f + j) := by
  unfold lk_; rw [if_pos ⟨rfl, by omega, by omega⟩, Nat.add_sub_cancel_left]
theorem lk_out {m : jz_M} {q b s f k j : Nat} (h : ¬ (b ≤ j ∧ j < b + k)) : lk_ m q b s f k q j = m q j := by
  unfold lk_; rw [if_neg (fun z => h z.2)]
theorem lk_s {m : jz_M} {q b s f i : Nat} (h : ¬ (s = q ∧ b ≤ f + i ∧ f + i < b + i)) : jz_up (lk_ m q b s f i) q (b + i) (lk_ m q b s f i s (f + i)) = lk_ m q b s f (i + 1) := by
  have e : lk_ m q b s f i s (f + i) = m s (f + i) := by unfold lk_; rw [if_neg h]
  rw [e]
  funext a j
  rw [pz_up]
  unfold lk_
  by_cases h1 : a = q ∧ j = b + i
  · rw [if_pos h1, if_pos ⟨h1.1, by omega, by omega⟩, show j - b = i by omega]
  · rw [if_neg h1]
    by_cases h2 : a = q ∧ b ≤ j ∧ j < b + i
    · rw [if_pos h2, if_pos ⟨h2.1, h2.2.1, by omega⟩]
    · rw [if_neg h2, if_neg (fun z => h1 ⟨z.1, by omega⟩)]
theorem nI_m10 (n i : Nat) : nI n * 10 + nI i = nI (10 * n + i) := by rw [show (10 : Int32) = nI 10 from rfl, nI_mul, nI_add, Nat.mul_comm]
theorem nI_10m (n i : Nat) : (10 : Int32) * nI n + nI i = nI (10 * n + i) := by rw [show (10 : Int32) = nI 10 from rfl, nI_mul, nI_add]
theorem pn_k {k i : Nat} (h : i < k) (hk : k < 2 ^ 31) : ¬ nI k ≤ nI i := nI_ge h hk
/-- the class copies links -/
theorem q_tl {n2 o0 n o2 s k : Nat} {m : jz_M} (hn : n < 42) (hk : k ≤ 10) (h2 : s + k ≤ n2) (hn2 : n2 < 2 ^ 31) (hd : o2 ≠ o0 + 8) : ∀ (g i fu : Nat), i + g = k → g < fu → f_Ba_takeLinks_11 n2 fu o0 (nI n) o2 (nI s) (nI k) (nI i) (lk_ m (o0 + 8) (10 * n) o2 s i) = some (lk_ m (o0 + 8) (10 * n) o2 s k) := by
  intro g
  induction g with
  | zero =>
    intro i fu h1 h2
    obtain ⟨fu, rfl⟩ : ∃ k, fu = k + 1 := ⟨fu - 1, by omega⟩
    rw [f_Ba_takeLinks_11, if_pos (nI_le (by omega) (by omega)), show i = k by omega]
  | succ g ih =>
    intro i fu h1 h3
    obtain ⟨fu, rfl⟩ : ∃ k, fu = k + 1 := ⟨fu - 1, by omega⟩
    rw [f_Ba_takeLinks_11, if_neg (pn_k (by omega) (by omega)), nI_add, nI_m10, pz_b (pz_ix (show s + i < n2 by omega) hn2), pz_b (pz_ix (show 10 * n + i < 420 by omega) (by decide))]
    simp only [pz_n, nI_1]
    rw [lk_s (fun z => hd z.1)]
    exact ih (i + 1) fu (by omega) (by omega)
/-- the class renews -/
theorem q_rw {l r n t k : Nat} {mc : jz_M} (hl : l < 2) (hr : r < 6) (hn : n < 42) (hk : k ≤ 10) (d : Int32) (e2 : mc (bx l r + 2) n = nI t) (e0 : mc 146 0 = nI k) : ∃ mc' : jz_M, f_Ba_renew (bx l r) (nI n) d mc = some mc' ∧ mc' (bx l r + 1) n = nI (t + 1) ∧ mc' (bx l r + 2) n = nI (t + 1) ∧ mc' (bx l r + 3) n = 20 ∧ mc' (bx l r + 5) n = vp_nar .boolean (mc 146 2) ∧ mc' (bx l r + 6) n = mc 146 1 ∧ mc' (bx l r + 7) n = nI k ∧ (∀ j, j < 10 → mc' (bx l r + 8) (10 * n + j) = if j < k then mc 147 j else mc (bx l r + 8) (10 * n + j)) ∧ mc' (bx l r + 9) n = d ∧ mc' (bx l r + 10) n = 0 ∧ ∀ q j, ¬ cd_ l r n q j → mc' q j = mc q j := by
  have hb : bx l r + 10 < 146 := by unfold bx; omega
  unfold f_Ba_renew f_Ba_takeLinks
  simp only [pz_ix hn (show 42 < 2 ^ 31 by decide), Option.bind_some, pz_n]
  obtain ⟨m2, hm2⟩ : ∃ x, x = jz_up (jz_up (jz_up mc (bx l r + 2) n (mc (bx l r + 2) n + 1)) (bx l r + 1) n (jz_up mc (bx l r + 2) n (mc (bx l r + 2) n + 1) (bx l r + 2) n)) (bx l r + 3) n 20 := ⟨_, rfl⟩
  rw [← hm2]
  have k2 : ∀ q j, ¬ (q = bx l r + 1 ∨ q = bx l r + 2 ∨ q = bx l r + 3) → m2 q j = mc q j := fun q j h => by rw [hm2, jz_up_k (by omega), jz_up_k (by omega), jz_up_k (by omega)]
  obtain ⟨m3, hm3⟩ : ∃ x, x = jz_up m2 (bx l r + 5) n (vp_nar .boolean (m2 146 2)) := ⟨_, rfl⟩
  rw [← hm3]
  have k3 : ∀ q j, q ≠ bx l r + 5 → m3 q j = m2 q j := fun q j h => by rw [hm3, jz_up_k h]
  obtain ⟨m4, hm4⟩ : ∃ x, x = jz_up m3 (bx l r + 6) n (m3 146 1) := ⟨_, rfl⟩
  rw [← hm4]
  have k4 : ∀ q j, q ≠ bx l r + 6 → m4 q j = m3 q j := fun q j h => by rw [hm4, jz_up_k h]
  have e40 : m4 146 0 = nI k := by rw [k4 _ _ (by omega), k3 _ _ (by omega), k2 _ _ (by omega), e0]
  rw [e40]
  obtain ⟨m5, hm5⟩ : ∃ x, x = jz_up m4 (bx l r + 7) n (nI k) := ⟨_, rfl⟩
  rw [← hm5]
  have k5 : ∀ q j, q ≠ bx l r + 7 → m5 q j = m4 q j := fun q j h => by rw [hm5, jz_up_k h]
  have tl := q_tl (n2 := 10) (o0 := bx l r) (o2 := 147) (s := 0) (m := m5) hn hk (by omega) (by decide) (by omega) k 0 1000 (by omega) (by omega)
  rw [lk_0] at tl
  rw [show f_Ba_takeLinks_11 10 1000 (bx l r) (nI n) 147 0 (nI k) 0 m5 = _ from tl]
  simp only [Option.bind_some]
  obtain ⟨m6, hm6⟩ : ∃ x, x = lk_ m5 (bx l r + 8) (10 * n) 147 0 k := ⟨_, rfl⟩
  rw [← hm6]
  have k6 : ∀ q j, q ≠ bx l r + 8 → m6 q j = m5 q j := fun q j h => by rw [hm6, lk_k h]
  refine ⟨_, rfl, ?_, ?_, ?_, ?_, ?_, ?_, fun j hj => ?_, ?_, ?_, fun q j hz => ?_⟩
  · rw [jz_up_k (by omega), jz_up_k (by omega), k6 _ _ (by omega), k5 _ _ (by omega), k4 _ _ (by omega), k3 _ _ (by omega), hm2, jz_up_k (by omega), pz_up_s, pz_up_s, e2, nI_1]
  · rw [jz_up_k (by omega), jz_up_k (by omega), k6 _ _ (by omega), k5 _ _ (by omega), k4 _ _ (by omega), k3 _ _ (by omega), hm2, jz_up_k (by omega), jz_up_k (by omega), pz_up_s, e2, nI_1]
  · rw [jz_up_k (by omega), jz_up_k (by omega), k6 _ _ (by omega), k5 _ _ (by omega), k4 _ _ (by omega), k3 _ _ (by omega), hm2, pz_up_s]
  · rw [jz_up_k (by omega), jz_up_k (by omega), k6 _ _ (by omega), k5 _ _ (by omega), k4 _ _ (by omega), hm3, pz_up_s, k2 _ _ (by omega)]
  · rw [jz_up_k (by omega), jz_up_k (by omega), k6 _ _ (by omega), k5 _ _ (by omega), hm4, pz_up_s, k3 _ _ (by omega), k2 _ _ (by omega)]
  · rw [jz_up_k (by omega), jz_up_k (by omega), k6 _ _ (by omega), hm5, pz_up_s]
  · rw [jz_up_k (by omega), jz_up_k (by omega), hm6]
    by_cases hjk : j < k
    · rw [if_pos hjk, lk_in hjk, Nat.zero_add, k5 _ _ (by omega), k4 _ _ (by omega), k3 _ _ (by omega), k2 _ _ (by omega)]
    · rw [if_neg hjk, lk_out (by omega), k5 _ _ (by omega), k4 _ _ (by omega), k3 _ _ (by omega), k2 _ _ (by omega)]
  · rw [jz_up_k (by omega), pz_up_s]
  · rw [pz_up_s]
  · have nj : ∀ f, 1 ≤ f → f ≤ 10 → f ≠ 8 → ¬ (q = bx l r + f ∧ j = n) := fun f h1 h2 h8 z => hz ⟨by omega, by omega, fun y => by omega, fun _ => z.2⟩
    rw [pz_up, if_neg (nj 10 (by decide) (by decide) (by decide)), pz_up, if_neg (nj 9 (by decide) (by decide) (by decide)), hm6]
    unfold lk_
    rw [if_neg (fun z => hz ⟨by omega, by omega, fun _ => by omega, fun y => absurd z.1 y⟩), hm5, pz_up, if_neg (nj 7 (by decide) (by decide) (by decide)), hm4, pz_up, if_neg (nj 6 (by decide) (by decide) (by decide)), hm3, pz_up, if_neg (nj 5 (by decide) (by decide) (by decide)), hm2, pz_up, if_neg (nj 3 (by decide) (by decide) (by decide)), pz_up, if_neg (nj 1 (by decide) (by decide) (by decide)), pz_up, if_neg (nj 2 (by decide) (by decide) (by decide))]
/-- the reference renews -/
theorem q_mrl {r i k : Nat} {m : jz_M} (hr : r < 6) (hi : i < 504) (hk : k ≤ 10) (e : m 0 1 = nI k) : ∀ (g j fu : Nat), j + g = k → g < fu → f_Mo_renew_96 fu (nI r) (nI i) (nI j) (lk_ m 15 (10 * i) 18 0 j) = some (jz_up (jz_up (lk_ m 15 (10 * i) 18 0 k) 16 i (o_cs m r 6 0 0)) 17 i 0) := by
  intro g
  induction g with
  | zero =>
    intro j fu h1 h2
    obtain ⟨fu, rfl⟩ : ∃ k, fu = k + 1 := ⟨fu - 1, by omega⟩
    rw [f_Mo_renew_96, lk_k (by decide), e, if_pos (nI_le (by omega) (by omega)), show j = k by omega, pz_b (q_mcs hr _)]
    simp only [pz_ix hi (show 504 < 2 ^ 31 by decide), Option.bind_some, pz_n]
    rw [show o_cs (lk_ m 15 (10 * i) 18 0 k) r 6 0 0 = o_cs m r 6 0 0 by unfold o_cs o_on; rw [lk_k (by decide)]]
  | succ g ih =>
    intro j fu h1 h3
    obtain ⟨fu, rfl⟩ : ∃ k, fu = k + 1 := ⟨fu - 1, by omega⟩
    rw [f_Mo_renew_96, lk_k (show 0 ≠ 15 by decide), e, if_neg (pn_k (by omega) (by omega)), nI_10m, pz_b (pz_ix (show j < 10 by omega) (by decide)), pz_b (pz_ix (show 10 * i + j < 5040 by omega) (by decide))]
    simp only [pz_n, nI_1]
    have := lk_s (m := m) (q := 15) (b := 10 * i) (s := 18) (f := 0) (i := j) (fun z => absurd z.1 (by decide))
    rw [Nat.zero_add] at this
    rw [this]
    exact ih (j + 1) fu (by omega) (by omega)
theorem q_mrw {l r p t k : Nat} {mm : jz_M} (hl : l < 2) (hr : r < 6) (hp : p < 7) (hk : k ≤ 10) (e9 : mm 9 (ix l r (7 * r + p)) = nI t) (e0 : mm 0 1 = nI k) : ∃ mm' : jz_M, f_Mo_renew (nI r) (nI (l + 1)) (nI p) mm = some mm' ∧ mm' 8 (ix l r (7 * r + p)) = nI (t + 1) ∧ mm' 9 (ix l r (7 * r + p)) = nI (t + 1) ∧ mm' 10 (ix l r (7 * r + p)) = 20 ∧ mm' 12 (ix l r (7 * r + p)) = vp_nar .boolean (v_ex mm l r p) ∧ mm' 13 (ix l r (7 * r + p)) = mm 1 r ∧ mm' 14 (ix l r (7 * r + p)) = nI k ∧ (∀ j, j < 10 → mm' 15 (10 * ix l r (7 * r + p) + j) = if j < k then mm 18 j else mm 15 (10 * ix l r (7 * r + p) + j)) ∧ mm' 16 (ix l r (7 * r + p)) = o_cs mm r 6 0 0 ∧ mm' 17 (ix l r (7 * r + p)) = 0 ∧ ∀ q j, ¬ md_ l r (7 * r + p) q j → mm' q j = mm q j := by
  unfold f_Mo_renew
  rw [n7, nI_add]
  obtain ⟨i, hi⟩ : ∃ i, i = ix l r (7 * r + p) := ⟨_, rfl⟩
  have hil : i < 504 := by rw [hi]; exact ix_lt hl hr (by omega)
  simp only [q_mat, ← hi, Option.bind_some, pz_ix hil (show 504 < 2 ^ 31 by decide), pz_ix hr (show 6 < 2 ^ 31 by decide), pz_n]
  rw [← hi] at e9
  obtain ⟨m2, hm2⟩ : ∃ x, x = jz_up (jz_up (jz_up (jz_up mm 9 i (mm 9 i + 1)) 8 i (jz_up mm 9 i (mm 9 i + 1) 9 i)) 10 i 20) 11 i 0 := ⟨_, rfl⟩
  rw [← hm2]
  have k2 : ∀ q j, ¬ (8 ≤ q ∧ q ≤ 11) → m2 q j = mm q j := fun q j h => by rw [hm2, jz_up_k (by omega), jz_up_k (by omega), jz_up_k (by omega), jz_up_k (by omega)]
  have hv : v_ex m2 l r p = v_ex mm l r p := x_ex (funext fun j => k2 1 j (by omega)) (funext fun j => k2 2 j (by omega)) (funext fun j => k2 6 j (by omega)) (funext fun j => k2 7 j (by omega)) l r p
  rw [pz_b (q_exi hl hr hp m2), hv]
  obtain ⟨m3, hm3⟩ : ∃ x, x = jz_up m2 12 i (vp_nar .boolean (v_ex mm l r p)) := ⟨_, rfl⟩
  rw [← hm3]
  have k3 : ∀ q j, q ≠ 12 → m3 q j = m2 q j := fun q j h => by rw [hm3, jz_up_k h]
  obtain ⟨m4, hm4⟩ : ∃ x, x = jz_up m3 13 i (m3 1 r) := ⟨_, rfl⟩
  rw [← hm4]
  have k4 : ∀ q j, q ≠ 13 → m4 q j = m3 q j := fun q j h => by rw [hm4, jz_up_k h]
  obtain ⟨m5, hm5⟩ : ∃ x, x = jz_up m4 14 i (m4 0 1) := ⟨_, rfl⟩
  rw [← hm5]
  have k5 : ∀ q j, q ≠ 14 → m5 q j = m4 q j := fun q j h => by rw [hm5, jz_up_k h]
  have e50 : m5 0 1 = nI k := by rw [k5 _ _ (by decide), k4 _ _ (by decide), k3 _ _ (by decide), k2 _ _ (by decide), e0]
  have kk : ∀ q j, ¬ (8 ≤ q ∧ q ≤ 14) → m5 q j = mm q j := fun q j h => by rw [k5 _ _ (by omega), k4 _ _ (by omega), k3 _ _ (by omega), k2 _ _ (by omega)]
  have rl := q_mrl (m := m5) hr hil hk e50 k 0 1000000 (by omega) (by omega)
  rw [lk_0] at rl
  rw [show f_Mo_renew_96 1000000 (nI r) (nI i) 0 m5 = _ from rl]
  rw [show o_cs m5 r 6 0 0 = o_cs mm r 6 0 0 by unfold o_cs o_on; rw [show m5 4 = mm 4 from funext fun j => kk 4 j (by decide)]]
  refine ⟨_, rfl, ?_, ?_, ?_, ?_, ?_, ?_, fun j hj => ?_, ?_, ?_, fun q j hz => ?_⟩
  · rw [jz_up_k (by decide), jz_up_k (by decide), lk_k (by decide), k5 _ _ (by decide), k4 _ _ (by decide), k3 _ _ (by decide), hm2, jz_up_k (by decide), jz_up_k (by decide), pz_up_s, pz_up_s, e9, nI_1]
  · rw [jz_up_k (by decide), jz_up_k (by decide), lk_k (by decide), k5 _ _ (by decide), k4 _ _ (by decide), k3 _ _ (by decide), hm2, jz_up_k (by decide), jz_up_k (by decide), jz_up_k (by decide), pz_up_s, e9, nI_1]
  · rw [jz_up_k (by decide), jz_up_k (by decide), lk_k (by decide), k5 _ _ (by decide), k4 _ _ (by decide), k3 _ _ (by decide), hm2, jz_up_k (by decide), pz_up_s]
  · rw [jz_up_k (by decide), jz_up_k (by decide), lk_k (by decide), k5 _ _ (by decide), k4 _ _ (by decide), hm3, pz_up_s]
  · rw [jz_up_k (by decide), jz_up_k (by decide), lk_k (by decide), k5 _ _ (by decide), hm4, pz_up_s, k3 _ _ (by decide), k2 _ _ (by decide)]
  · rw [jz_up_k (by decide), jz_up_k (by decide), lk_k (by decide), hm5, pz_up_s, k4 _ _ (by decide), k3 _ _ (by decide), k2 _ _ (by decide), e0]
  · rw [jz_up_k (by decide), jz_up_k (by decide)]
    by_cases hjk : j < k
    · rw [if_pos hjk, lk_in hjk, Nat.zero_add, kk _ _ (by decide)]
    · rw [if_neg hjk, lk_out (by omega), kk _ _ (by decide)]
  · rw [jz_up_k (by decide), pz_up_s]
  · rw [pz_up_s]
  · have nj : ∀ f, 8 ≤ f → f ≠ 15 → ¬ (q = f ∧ j = i) := fun f h1 h8 z => hz ⟨by omega, fun y => by omega, fun _ => by rw [← hi]; exact z.2⟩
    rw [pz_up, if_neg (nj 17 (by decide) (by decide)), pz_up, if_neg (nj 16 (by decide) (by decide))]
    unfold lk_
    rw [if_neg (fun z => hz ⟨by omega, fun _ => by rw [← hi]; omega, fun y => absurd z.1 y⟩), hm5, pz_up, if_neg (nj 14 (by decide) (by decide)), hm4, pz_up, if_neg (nj 13 (by decide) (by decide)), hm3, pz_up, if_neg (nj 12 (by decide) (by decide)), hm2, pz_up, if_neg (nj 11 (by decide) (by decide)), pz_up, if_neg (nj 10 (by decide) (by decide)), pz_up, if_neg (nj 8 (by decide) (by decide)), pz_up, if_neg (nj 9 (by decide) (by decide))]
