/-! the draft -/
def ad_c (m : jz_M) (k : Nat) (v : Int32) : jz_M := jz_up (jz_up m 147 k v) 146 0 (nI (k + 1))
def ad_m (m : jz_M) (k : Nat) (v : Int32) : jz_M := jz_up (jz_up m 18 k v) 0 1 (nI (k + 1))
/-- class and reference have written k links of the name n -/
def DR_ (mc mm : jz_M) (n k : Nat) : Prop := mc 146 0 = nI k ∧ mm 0 1 = nI k ∧ ∀ j, j < k → mc 147 j = mm 18 j ∧ LK n (mm 18 j)
/-- what a draft leaves as it was -/
def FR_ (mc mm mc' mm' : jz_M) : Prop := (∀ q, q < 146 → mc' q = mc q) ∧ mc' 146 1 = mc 146 1 ∧ mc' 146 2 = mc 146 2 ∧ (∀ q, 1 ≤ q → q ≤ 17 → mm' q = mm q) ∧ mm' 0 0 = mm 0 0
theorem FR_r (mc mm : jz_M) : FR_ mc mm mc mm := ⟨fun _ _ => rfl, rfl, rfl, fun _ _ _ => rfl, rfl⟩
theorem FR_t {a b c d e f : jz_M} (h : FR_ a b c d) (h' : FR_ c d e f) : FR_ a b e f := ⟨fun q z => (h'.1 q z).trans (h.1 q z), h'.2.1.trans h.2.1, h'.2.2.1.trans h.2.2.1, fun q z y => (h'.2.2.2.1 q z y).trans (h.2.2.2.1 q z y), h'.2.2.2.2.trans h.2.2.2.2⟩
theorem FR_I {c : Nat} {mc mm mc' mm' : jz_M} (hI : I_ c mc mm) (h : FR_ mc mm mc' mm') : I_ c mc' mm' := I_ext h.1 h.2.2.2.1 hI
theorem FR_ad (mc mm : jz_M) (k : Nat) (v w : Int32) : FR_ mc mm (ad_c mc k v) (ad_m mm k w) := by
  unfold ad_c ad_m
  refine ⟨fun q hq => ?_, ?_, ?_, fun q h1 h2 => ?_, ?_⟩
  · rw [jz_up_k (by omega), jz_up_k (by omega)]
  · rw [pz_up, if_neg (by decide), jz_up_k (by decide)]
  · rw [pz_up, if_neg (by decide), jz_up_k (by decide)]
  · rw [jz_up_k (by omega), jz_up_k (by omega)]
  · rw [pz_up, if_neg (by decide), jz_up_k (by decide)]
theorem DR_ad {mc mm : jz_M} {n k : Nat} {v : Int32} (h : DR_ mc mm n k) (hv : LK n v) : DR_ (ad_c mc k v) (ad_m mm k v) n (k + 1) := by
  unfold ad_c ad_m
  refine ⟨pz_up_s _ _ _ _, pz_up_s _ _ _ _, fun j hj => ?_⟩
  rw [jz_up_k (show 147 ≠ 146 by decide), jz_up_k (show 18 ≠ 0 by decide), pz_up, pz_up]
  by_cases hjk : j = k
  · rw [if_pos ⟨rfl, hjk⟩, if_pos ⟨rfl, hjk⟩]; exact ⟨rfl, hv⟩
  · rw [if_neg (fun z => hjk z.2), if_neg (fun z => hjk z.2)]
    exact h.2.2 j (by omega)
theorem q_adl {mc mm : jz_M} {n k : Nat} (h : DR_ mc mm n k) (hk : k < 10) (a b : Int32) : f_Dr_addLink a b mc = some (ad_c mc k (a + 64 * b)) := by
  unfold f_Dr_addLink ad_c
  rw [h.1, if_neg (show ¬ (10 : Int32) ≤ nI k from nI_ge hk (by decide)), pz_b (pz_ix hk (by decide))]
  simp only [pz_n]
  rw [jz_up_k (show 146 ≠ 147 by decide), h.1, nI_1]
theorem q_put {mm : jz_M} {k : Nat} (h : mm 0 1 = nI k) (hk : k < 10) (a b : Int32) : f_Mo_put a b mm = some (ad_m mm k (a + 64 * b)) := by
  unfold f_Mo_put ad_m
  rw [h, pz_b (pz_ix hk (by decide))]
  simp only [pz_n]
  rw [jz_up_k (show 0 ≠ 18 by decide), h, nI_1]
theorem LK_0 {n t w : Nat} (h0 : n % 7 = 0) (ht : t < 42) (h1 : 1 ≤ w) (h2 : w ≤ 60) : LK n (nI t + 64 * nI w) := ⟨t, w, by rw [show (64 : Int32) = nI 64 from rfl, nI_mul, nI_add], ht, h2, fun _ => h1, fun z => absurd h0 z⟩
theorem LK_1 {n t : Nat} (h0 : n % 7 ≠ 0) (ht : t < 42) (h7 : t % 7 = 0) : LK n (nI t + 64 * 0) := ⟨t, 0, by rw [show (64 : Int32) = nI 64 from rfl, show (0 : Int32) = nI 0 from rfl, nI_mul, nI_add], ht, by decide, fun z => absurd z h0, fun _ => ⟨rfl, h7⟩⟩
theorem n7 (n : Nat) : (7 : Int32) * nI n = nI (7 * n) := by rw [show (7 : Int32) = nI 7 from rfl, nI_mul]
theorem n7a (n : Nat) : (7 : Int32) * nI n + 0 = nI (7 * n) := by rw [n7, Int32.add_zero]
/-- the reference's link over a circuit with one other -/
theorem q_ow0 {l r c : Nat} (hl : l < 2) (hr : r < 6) (hc : c < 6) (m : jz_M) : ∀ (g i fu : Nat), i + g = 6 → g < fu → (∀ n, i ≤ n → n < 6 → o_ne m l r c n = false) → f_Mo_ownLink_41 fu (nI r) (nI c) (nI (l + 1)) (nI i) m = some m := by
  intro g
  induction g with
  | zero =>
    intro i fu h1 h2 _
    obtain ⟨fu, rfl⟩ : ∃ k, fu = k + 1 := ⟨fu - 1, by omega⟩
    rw [f_Mo_ownLink_41, if_pos (py6 (by omega) (by omega))]
  | succ g ih =>
    intro i fu h1 h2 h3
    obtain ⟨fu, rfl⟩ : ∃ k, fu = k + 1 := ⟨fu - 1, by omega⟩
    rw [f_Mo_ownLink_41, if_neg (pn6 (by omega)), pz_b (q_ne hl hr hc (by omega) m), b1_0, h3 i (Nat.le_refl _) (by omega), if_neg (by decide)]
    simp only [pz_n, nI_1]
    exact ih (i + 1) fu (by omega) (by omega) (fun n a b => h3 n (by omega) b)
theorem x_ne {m m' : jz_M} (h6 : m' 6 = m 6) (h7 : m' 7 = m 7) (l r c n : Nat) : o_ne m' l r c n = o_ne m l r c n := by unfold o_ne; rw [h6, h7]
theorem q_ow1 {l r c n : Nat} (hl : l < 2) (hr : r < 6) (hc : c < 6) (hn : n < 6) (m : jz_M) {k : Nat} (hk : k < 10) (e : m 0 1 = nI k) (h : o_ne m l r c n = true) (ho : ∀ x, x < 6 → o_ne m l r c x = true → x = n) : ∀ (g i fu : Nat), i + g = 6 → i ≤ n → g < fu → f_Mo_ownLink_41 fu (nI r) (nI c) (nI (l + 1)) (nI i) m = some (ad_m m k (nI (7 * n) + 64 * m 4 (6 * r + c))) := by
  intro g
  induction g with
  | zero => intro i fu h1 h2 _; omega
  | succ g ih =>
    intro i fu h1 h2 h3
    obtain ⟨fu, rfl⟩ : ∃ k, fu = k + 1 := ⟨fu - 1, by omega⟩
    rw [f_Mo_ownLink_41, if_neg (pn6 (by omega)), pz_b (q_ne hl hr hc (by omega) m), b1_0]
    simp only [pz_n, nI_1]
    by_cases hin : i = n
    · subst hin
      rw [if_pos h, pz_b (pz_ix6m hr hc), n7, pz_b (q_put e hk _ _)]
      refine q_ow0 hl hr hc _ g (i + 1) fu (by omega) (by omega) (fun x a b => ?_)
      rw [x_ne (m := m) (by unfold ad_m; rw [jz_up_k (by decide), jz_up_k (by decide)]) (by unfold ad_m; rw [jz_up_k (by decide), jz_up_k (by decide)])]
      by_cases hx : o_ne m l r c x = true
      · have := ho x b hx; omega
      · simpa using hx
    · rw [if_neg (fun z => hin (ho i (by omega) z))]
      exact ih (i + 1) fu (by omega) (by omega) (by omega)
/-- part 0 -/
theorem q_di {b l r : Nat} (hl : l < 2) (hr : r < 6) : ∀ (g i fu fu' k : Nat) (mc mm : jz_M), i + g = 6 → g < fu → g < fu' → k ≤ i → I_ b mc mm → DR_ mc mm (7 * r) k → ∃ (k' : Nat) (mc' mm' : jz_M), k' ≤ 6 ∧ f_AR_draftItself_37 fu (nI r) (nI (l + 1)) (nI i) mc = some mc' ∧ f_Mo_describes_111 fu' (nI r) (nI (l + 1)) (nI i) mm = some (1, mm') ∧ DR_ mc' mm' (7 * r) k' ∧ FR_ mc mm mc' mm' := by
  intro g
  induction g with
  | zero =>
    intro i fu fu' k mc mm h1 h2 h3 hk hI hD
    obtain ⟨fu, rfl⟩ : ∃ k, fu = k + 1 := ⟨fu - 1, by omega⟩
    obtain ⟨fu', rfl⟩ : ∃ k, fu' = k + 1 := ⟨fu' - 1, by omega⟩
    exact ⟨k, mc, mm, by omega, by rw [f_AR_draftItself_37, if_pos (py6 (by omega) (by omega))], by rw [f_Mo_describes_111, if_pos (py6 (by omega) (by omega))], hD, FR_r _ _⟩
  | succ g ih =>
    intro i fu fu' k mc mm h1 h2 h3 hk hI hD
    obtain ⟨fu, rfl⟩ : ∃ k, fu = k + 1 := ⟨fu - 1, by omega⟩
    obtain ⟨fu', rfl⟩ : ∃ k, fu' = k + 1 := ⟨fu' - 1, by omega⟩
    have hi : i < 6 := by omega
    rw [f_AR_draftItself_37, if_neg (pn6 hi), f_Mo_describes_111, if_neg (pn6 hi), pz_b (q_hg hl mc), pz_b (q_on hr hi mm), b1_0]
    simp only [pz_n, nI_1]
    rcases q_near hI hl hr hi with ⟨a1, a2, a3⟩ | ⟨n, hn, a1, a2, a3⟩
    · rw [pz_b a2, pz_b a3, if_pos (by decide)]
      simp only [if_true, ite_self]
      exact ih (i + 1) fu fu' k mc mm (by omega) (by omega) (by omega) (by omega) hI hD
    · obtain ⟨o1, o2, o3⟩ := I_ne hI hl hr hi hn a1
      rw [pz_b a2, pz_b a3, if_neg (nI_pos (by omega)), if_pos o2, i10]
      rw [pz_b (q_sh hi mc), b1_0, I_sh hI hi]
      unfold f_Mo_ownLink f_AR_draftItself_93 f_Wi_metricOf f_AR_nameOf
      rw [pz_b (q_msh hi mm), b1_0]
      simp only [Option.bind_some, pz_ix6 hr hi, pz_ix6m hr hi, pz_n, nI_1, (hI.2.1 (6 * r + i) (by omega)).1]
      obtain ⟨w, hw, ew⟩ := (hI.2.1 (6 * r + i) (by omega)).2.2.1
      have hw1 : 1 ≤ w := by
        have : 0 < (mm 4 (6 * r + i)).toInt := by simpa [o_on] using o2
        rw [ew, nI_toInt (by omega)] at this
        omega
      have fin : ∀ t, t < 42 → ∃ (k' : Nat) (mc' mm' : jz_M), k' ≤ 6 ∧ f_AR_draftItself_37 fu (nI r) (nI (l + 1)) (nI (i + 1)) (ad_c mc k (nI t + 64 * nI w)) = some mc' ∧ f_Mo_describes_111 fu' (nI r) (nI (l + 1)) (nI (i + 1)) (ad_m mm k (nI t + 64 * nI w)) = some (1, mm') ∧ DR_ mc' mm' (7 * r) k' ∧ FR_ mc mm mc' mm' := fun t ht => by
        have f1 := FR_ad mc mm k (nI t + 64 * nI w) (nI t + 64 * nI w)
        obtain ⟨k', mc', mm', b1, b2, b3, b4, b5⟩ := ih (i + 1) fu fu' (k + 1) _ _ (by omega) (by omega) (by omega) (by omega) (FR_I hI f1) (DR_ad hD (LK_0 (by omega) ht hw1 hw))
        exact ⟨k', mc', mm', b1, b2, b3, b4, FR_t f1 b5⟩
      by_cases hs : o_sh mm i = true
      · obtain ⟨s1, s2⟩ := q_msp hl hr hi mm
        simp only [if_pos hs, q_sp hI hl hr hi, s1, Option.bind_some]
        rw [show (7 : Int32) * nI (o_sp mm l r i 6 0 r) + (1 + nI i) = nI (7 * o_sp mm l r i 6 0 r + 1 + i) by rw [n7, show (1 : Int32) = nI 1 from rfl, nI_add, nI_add]; congr 1; omega]
        rw [show (7 : Int32) * nI (o_sp mm l r i 6 0 r) + 1 + nI i = nI (7 * o_sp mm l r i 6 0 r + 1 + i) by rw [n7, show (1 : Int32) = nI 1 from rfl, nI_add, nI_add]]
        rw [q_adl hD (by omega), q_put hD.2.1 (by omega), ew]
        exact fin _ (by omega)
      · have hs' : o_sh mm i = false := by simpa using hs
        simp only [if_neg hs]
        rw [n7a, q_adl hD (by omega), show f_Mo_ownLink_41 1000000 (nI r) (nI i) (nI (l + 1)) 0 mm = _ from q_ow1 hl hr hi hn mm (k := k) (by omega) hD.2.1 a1 (fun x hx z => I_one hI hl hr hi hs' hx hn z a1) 6 0 1000000 (by decide) (by omega) (by decide), ew]
        exact fin _ (by omega)
/-- a circuit's part -/
theorem q_dc {b l r c N : Nat} (hl : l < 2) (hr : r < 6) (hc : c < 6) (hN : N % 7 ≠ 0) : ∀ (g i fu fu' k : Nat) (mc mm : jz_M), i + g = 6 → g < fu → g < fu' → k ≤ i + 1 → I_ b mc mm → DR_ mc mm N k → ∃ (k' : Nat) (mc' mm' : jz_M), k' ≤ 7 ∧ f_AR_draftCircuit_57 fu (nI r) (nI c) (7 + 3 * l) (nI i) mc = some (1, mc') ∧ f_Mo_describes_70 fu' (nI r) (nI (l + 1)) (nI c) (nI i) mm = some (1, mm') ∧ DR_ mc' mm' N k' ∧ FR_ mc mm mc' mm' := by
  intro g
  induction g with
  | zero =>
    intro i fu fu' k mc mm h1 h2 h3 hk hI hD
    obtain ⟨fu, rfl⟩ : ∃ k, fu = k + 1 := ⟨fu - 1, by omega⟩
    obtain ⟨fu', rfl⟩ : ∃ k, fu' = k + 1 := ⟨fu' - 1, by omega⟩
    exact ⟨k, mc, mm, by omega, by rw [f_AR_draftCircuit_57, if_pos (py6 (by omega) (by omega))], by rw [f_Mo_describes_70, if_pos (py6 (by omega) (by omega))], hD, FR_r _ _⟩
  | succ g ih =>
    intro i fu fu' k mc mm h1 h2 h3 hk hI hD
    obtain ⟨fu, rfl⟩ : ∃ k, fu = k + 1 := ⟨fu - 1, by omega⟩
    obtain ⟨fu', rfl⟩ : ∃ k, fu' = k + 1 := ⟨fu' - 1, by omega⟩
    have hi : i < 6 := by omega
    rw [f_AR_draftCircuit_57, if_neg (pn6 hi), f_Mo_describes_70, if_neg (pn6 hi), pz_b (q_mu hr hc hi mc), pz_b (q_ne hl hr hc hi mm), b1_0, b1_0, I_mu hI hl hr hc hi]
    simp only [pz_n, nI_1]
    by_cases h : o_ne mm l r c i = true
    · simp only [if_pos h]
      unfold f_AR_nameOf
      simp only [Option.bind_some]
      rw [n7a, n7, q_adl hD (by omega), q_put hD.2.1 (by omega)]
      have f1 := FR_ad mc mm k (nI (7 * i) + 64 * 0) (nI (7 * i) + 64 * 0)
      obtain ⟨k', mc', mm', b1, b2, b3, b4, b5⟩ := ih (i + 1) fu fu' (k + 1) _ _ (by omega) (by omega) (by omega) (by omega) (FR_I hI f1) (DR_ad hD (LK_1 hN (by omega) (by omega)))
      exact ⟨k', mc', mm', b1, b2, b3, b4, FR_t f1 b5⟩
    · simp only [if_neg h]
      exact ih (i + 1) fu fu' k mc mm (by omega) (by omega) (by omega) (by omega) hI hD
