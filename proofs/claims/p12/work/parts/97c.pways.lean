/-! the class's search, in its cells -/
def sm : Nat → (Nat → Nat) → Nat
  | 0, _ => 0
  | n + 1, f => sm n f + f n
theorem sm_le {f g : Nat → Nat} : ∀ n, (∀ v, v < n → f v ≤ g v) → sm n f ≤ sm n g := by
  intro n
  induction n with
  | zero => intro _; exact Nat.le_refl _
  | succ n ih =>
    intro h
    have a := ih (fun v hv => h v (by omega))
    have b := h n (by omega)
    unfold sm; omega
theorem sm_lt {f g : Nat → Nat} {t : Nat} : ∀ n, (∀ v, v < n → f v ≤ g v) → t < n → f t < g t → sm n f < sm n g := by
  intro n
  induction n with
  | zero => intro _ h; omega
  | succ n ih =>
    intro h ht hl
    have b := h n (by omega)
    by_cases hn : t = n
    · subst hn
      have a := sm_le t (fun v hv => h v (by omega))
      unfold sm; omega
    · have a := ih (fun v hv => h v (by omega)) (by omega) hl
      unfold sm; omega
theorem sm_c (B : Nat) : ∀ n, sm n (fun _ => B) = n * B := by
  intro n
  induction n with
  | zero => simp [sm]
  | succ n ih => unfold sm; rw [ih, Nat.succ_mul]
theorem sm_ext {f g : Nat → Nat} : ∀ n, (∀ v, v < n → f v = g v) → sm n f = sm n g := by
  intro n
  induction n with
  | zero => intro _; rfl
  | succ n ih => intro h; unfold sm; rw [ih (fun v hv => h v (by omega)), h n (by omega)]
theorem sm_up {f : Nat → Nat} {t x : Nat} : ∀ n, t < n → sm n (up_ f t x) + f t = sm n f + x := by
  intro n
  induction n with
  | zero => intro h; omega
  | succ n ih =>
    intro h
    unfold sm
    by_cases hn : t = n
    · subst hn
      rw [up_s, sm_ext (f := up_ f t x) (g := f) t (fun v hv => up_n f x (show v ≠ t by omega))]; omega
    · rw [up_n f x (show n ≠ t by omega)]
      have := ih (by omega)
      omega
theorem sm_all {f : Nat → Nat} : ∀ n, (∀ v, v < n → f v ≤ 1) → sm n f = n → ∀ v, v < n → f v = 1 := by
  intro n h hs v hv
  apply Classical.byContradiction
  intro hne
  have := sm_lt (f := f) (g := fun _ => 1) (t := v) n h hv (by have := h v hv; show f v < 1; omega)
  rw [sm_c] at this
  omega
/-- the graph in the class -/
def gC (m : jz_M) (o : Nat) (G : GR) : Prop := ∀ u, u < 42 → (∃ f : Nat, f ≤ 20 ∧ m (o + 3) u = nI f ∧ (al_ G u = true ↔ f ≠ 0)) ∧ (al_ G u = true → m (o + 7) u = nI (mn_ G u)) ∧ (∀ k, k < mn_ G u → m (o + 8) (10 * u + k) = nI (tg_ G u k + 64 * wt_ G u k))
/-- the search in the class -/
def rC (m : jz_M) (K H : Nat → Nat) (Z : Nat → Bool) : Prop := ∀ v, v < 42 → m 149 v = nI (K v) ∧ m 150 v = nI (H v) ∧ m 151 v = nI (Z v).toNat
theorem lw_all : ∀ w, w ≤ 60 → ∀ t, t < 42 → (nI (t + 64 * w) / 64 = nI w ∧ nI (t + 64 * w) - nI (t + 64 * w) / 64 * 64 = nI t) ∧ (nI (t + 64 * w) &&& 63 = nI t ∧ nI (t + 64 * w) >>> (6 &&& 31) = nI w) := by decide +kernel
theorem gC_fr {m m' : jz_M} {o : Nat} {G : GR} (h : gC m o G) (ho : o + 10 < 146) (hf : ∀ q, q < 146 → m' q = m q) : gC m' o G := by
  intro u hu
  rw [hf (o + 3) (by omega), hf (o + 7) (by omega), hf (o + 8) (by omega)]
  exact h u hu
theorem g_al {m : jz_M} {o : Nat} {G : GR} (h : gC m o G) {u : Nat} (hu : u < 42) : f_Ba_isAlive o (nI u) m = some (b1 (al_ G u)) := by
  obtain ⟨⟨f, h1, h2, h3⟩, _⟩ := h u hu
  unfold f_Ba_isAlive
  rw [pz_ix hu (by decide)]
  simp only [Option.bind_some, h2, n_le0 (show f < 2 ^ 31 by omega)]
  by_cases hf : f = 0
  · rw [if_pos hf]
    have : al_ G u = false := by
      cases ha : al_ G u with
      | false => rfl
      | true => exact absurd hf (h3.mp ha)
    rw [this]; rfl
  · rw [if_neg hf, h3.mpr hf]; rfl
theorem g_hl {m : jz_M} {o : Nat} {G : GR} (hG : GP_ G) (h : gC m o G) {v u : Nat} (hv : v < 42) (hu : u < 42) (ha : al_ G v = true) : ∀ (g i fu : Nat), i + g = mn_ G v → g < fu → ((∃ k, i ≤ k ∧ k < mn_ G v ∧ tg_ G v k = u) → f_Ba_hasLink_2 m fu o (nI v) (nI u) (nI i) = some 1) ∧ ((∀ k, i ≤ k → k < mn_ G v → tg_ G v k ≠ u) → f_Ba_hasLink_2 m fu o (nI v) (nI u) (nI i) = some 0) := by
  obtain ⟨_, h7, h8⟩ := h v hv
  obtain ⟨gm, gt⟩ := hG v hv
  intro g
  induction g with
  | zero =>
    intro i fu h1 h2
    obtain ⟨fu, rfl⟩ : ∃ k, fu = k + 1 := ⟨fu - 1, by omega⟩
    rw [f_Ba_hasLink_2, pz_b (pz_ix hv (by decide)), h7 ha, if_pos (nI_le (by omega) (by omega))]
    exact ⟨fun ⟨k, a, b, _⟩ => by omega, fun _ => rfl⟩
  | succ g ih =>
    intro i fu h1 h2
    obtain ⟨fu, rfl⟩ : ∃ k, fu = k + 1 := ⟨fu - 1, by omega⟩
    obtain ⟨j1, j2⟩ := ih (i + 1) fu (by omega) (by omega)
    obtain ⟨t1, t2, _⟩ := gt i (by omega)
    have e : f_Ba_hasLink_2 m (fu + 1) o (nI v) (nI u) (nI i) = if tg_ G v i = u then some 1 else f_Ba_hasLink_2 m fu o (nI v) (nI u) (nI (i + 1)) := by
      rw [f_Ba_hasLink_2, pz_b (pz_ix hv (by decide)), h7 ha, if_neg (pn_k (by omega) (by omega))]
      unfold f_Ba_linkOf
      rw [nI_m10, pz_ix (show 10 * v + i < 420 by omega) (by decide)]
      simp only [Option.bind_some, pz_n, nI_1, h8 i (by omega), (lw_all (wt_ G v i) t2 (tg_ G v i) t1).1.2, n_eq (show tg_ G v i < 2 ^ 31 by omega) (show u < 2 ^ 31 by omega)]
      by_cases hh : tg_ G v i = u
      · rw [if_neg (fun z => z hh), if_pos hh]
      · rw [if_pos hh, if_neg hh]
    rw [e]
    refine ⟨fun ⟨k, a, b, d⟩ => ?_, fun hn => ?_⟩
    · by_cases hh : tg_ G v i = u
      · rw [if_pos hh]
      · rw [if_neg hh]
        refine j1 ⟨k, ?_, b, d⟩
        rcases Nat.lt_or_ge i k with z | z
        · exact z
        · exact absurd (show tg_ G v i = u by rw [show i = k by omega]; exact d) hh
    · rw [if_neg (hn i (Nat.le_refl _) (by omega))]
      exact j2 (fun k a b => hn k (by omega) b)
theorem g_has {m : jz_M} {o : Nat} {G : GR} (hG : GP_ G) (h : gC m o G) {v u : Nat} (hv : v < 42) (hu : u < 42) (ha : al_ G v = true) : (lt_ G v u → f_Ba_hasLink o (nI v) (nI u) m = some 1) ∧ (¬ lt_ G v u → f_Ba_hasLink o (nI v) (nI u) m = some 0) := by
  have := (hG v hv).1
  obtain ⟨a, b⟩ := g_hl hG h hv hu ha (mn_ G v) 0 1000 (by omega) (by omega)
  exact ⟨fun ⟨_, k, h1, h2⟩ => a ⟨k, Nat.zero_le _, h1, h2⟩, fun z => b (fun k _ h1 h2 => z ⟨ha, k, h1, h2⟩)⟩
theorem hp_or : ∀ a, a < 128 → ∀ b, b < 128 → nI a ||| nI b = nI (a ||| b) := by decide +kernel
theorem hp_on : ∀ h, h < 128 → ∀ v, v < 42 → (if ¬ nI (v % 7) = 0 then nI h else if nI h &&& 64 = 0 then nI h else (nI h &&& (-65)) ||| ((1 : Int32) <<< (nI (v / 7) &&& 31))) = nI (on_ h v) := by decide +kernel
/-- a name is reached -/
theorem g_re {m : jz_M} {K H : Nat → Nat} {Z : Nat → Bool} (h : rC m K H Z) {v c x : Nat} (hv : v < 42) (hc : c < 2 ^ 30) (hK : K v ≤ 1000000) (hx : x < 128) (hH : H v < 128) : (c < K v → f_Wa_reach (nI v) (nI c) (nI x) m = some (jz_up (jz_up m 149 v (nI c)) 150 v (nI (on_ x v)))) ∧ (c = K v → f_Wa_reach (nI v) (nI c) (nI x) m = some (jz_up m 150 v (nI (H v ||| on_ x v)))) ∧ (K v < c → f_Wa_reach (nI v) (nI c) (nI x) m = some m) := by
  obtain ⟨e1, e2, e3⟩ := h v hv
  have e : f_Wa_reach (nI v) (nI c) (nI x) m = f_Wa_reach_32 (nI v) (nI c) (nI (on_ x v)) m := by
    rw [← hp_on x hx v hv]
    unfold f_Wa_reach f_AR_partOf f_AR_routerOf
    simp only [Option.bind_some, (n_div7 v hv).1, (n_div7 v hv).2, pz_n]
    have e7 : nI v - nI (v / 7) * 7 = nI (v % 7) := by have := (n_div7 v hv).2; rwa [(n_div7 v hv).1] at this
    simp only [e7]
    by_cases h1 : nI (v % 7) = 0
    · simp only [h1, not_true_eq_false, if_false]
      by_cases h2 : nI x &&& 64 = 0
      · simp only [h2, if_true]
      · simp only [h2, if_false]
    · simp only [h1, not_false_eq_true, if_true]
  rw [e]
  unfold f_Wa_reach_32
  simp only [pz_ix hv (show 42 < 2 ^ 31 by decide), Option.bind_some, pz_n, e1, e2, n_eq (show c < 2 ^ 31 by omega) (show K v < 2 ^ 31 by omega)]
  rw [pz_nle (show K v < 2 ^ 31 by omega) (show c < 2 ^ 31 by omega)]
  refine ⟨fun z => ?_, fun z => ?_, fun z => ?_⟩
  · rw [if_pos z]
  · rw [if_neg (by omega), if_neg (fun y => y z), hp_or _ hH _ (on_p x hx v hv).1]
  · rw [if_neg (by omega), if_pos (by omega)]
theorem rC_1 {m : jz_M} {K H : Nat → Nat} {Z : Nat → Bool} (h : rC m K H Z) (t c x : Nat) : rC (jz_up (jz_up m 149 t (nI c)) 150 t (nI x)) (up_ K t c) (up_ H t x) Z := by
  intro v hv
  obtain ⟨e1, e2, e3⟩ := h v hv
  refine ⟨?_, ?_, ?_⟩
  · rw [jz_up_k (by decide), pz_up]
    by_cases hvt : v = t
    · rw [if_pos ⟨rfl, hvt⟩, hvt, up_s]
    · rw [if_neg (fun z => hvt z.2), up_n _ _ hvt, e1]
  · rw [pz_up]
    by_cases hvt : v = t
    · rw [if_pos ⟨rfl, hvt⟩, hvt, up_s]
    · rw [if_neg (fun z => hvt z.2), up_n _ _ hvt, jz_up_k (by decide), e2]
  · rw [jz_up_k (by decide), jz_up_k (by decide), e3]
theorem rC_2 {m : jz_M} {K H : Nat → Nat} {Z : Nat → Bool} (h : rC m K H Z) (t x : Nat) : rC (jz_up m 150 t (nI x)) K (up_ H t x) Z := by
  intro v hv
  obtain ⟨e1, e2, e3⟩ := h v hv
  refine ⟨?_, ?_, ?_⟩
  · rw [jz_up_k (by decide), e1]
  · rw [pz_up]
    by_cases hvt : v = t
    · rw [if_pos ⟨rfl, hvt⟩, hvt, up_s]
    · rw [if_neg (fun z => hvt z.2), up_n _ _ hvt, e2]
  · rw [jz_up_k (by decide), e3]
/-- the links of c are followed -/
theorem g_fl {G : GR} (hG : GP_ G) {o s c n : Nat} {Z : Nat → Bool} (ho : o + 10 < 146) (hn : n ≤ 42) (ha : al_ G c = true) : ∀ (g i fu : Nat) (m : jz_M) (K H : Nat → Nat), i + g = mn_ G c → g < fu → gC m o G → rC m K H Z → D_ G s Z c i K H n → N_ Z s c K n → ∃ (m' : jz_M) (K' H' : Nat → Nat), f_Wa_followLinks_11 fu o (nI c) (nI i) m = some m' ∧ (∀ q, q < 146 → m' q = m q) ∧ rC m' K' H' Z ∧ D_ G s Z c (mn_ G c) K' H' n := by
  intro g
  induction g with
  | zero =>
    intro i fu m K H h1 h2 hg hr D N
    obtain ⟨fu, rfl⟩ : ∃ k, fu = k + 1 := ⟨fu - 1, by omega⟩
    have hc := N.1
    have := (hG c hc).1
    refine ⟨m, K, H, ?_, fun _ _ => rfl, hr, by rw [← h1]; exact D⟩
    rw [f_Wa_followLinks_11, pz_b (pz_ix hc (by decide)), (hg c hc).2.1 ha, if_pos (nI_le (by omega) (by omega))]
  | succ g ih =>
    intro i fu m K H h1 h2 hg hr D N
    obtain ⟨fu, rfl⟩ : ∃ k, fu = k + 1 := ⟨fu - 1, by omega⟩
    have hc := N.1
    have hZc := N.2.1
    have hm := (hG c hc).1
    have hi : i < mn_ G c := by omega
    obtain ⟨t1, t2, _⟩ := (hG c hc).2 i hi
    obtain ⟨lw1, lw2⟩ := (lw_all (wt_ G c i) t2 (tg_ G c i) t1).1
    rw [lw1] at lw2
    have hKc : K c < 1000000 := D.2.2.2.2.2.2.2.2 c hc hZc
    have hKb := D.2.2.1 c hc
    have hKt := D.2.2.1 (tg_ G c i) t1
    rw [f_Wa_followLinks_11, pz_b (pz_ix hc (by decide)), (hg c hc).2.1 ha, if_neg (pn_k (by omega) (by omega))]
    unfold f_Ba_linkOf
    rw [nI_m10, pz_ix (show 10 * c + i < 420 by omega) (by decide)]
    simp only [Option.bind_some, pz_n, nI_1, (hg c hc).2.2 i hi, lw2, lw1, q_nm_in t1, g_al hg t1, i10, b1_0, pz_ix hc (show 42 < 2 ^ 31 by decide), (hr c hc).1, (hr c hc).2.1, nI_add]
    have no : ¬ ed_ G c i → ∃ (m' : jz_M) (K' H' : Nat → Nat), f_Wa_followLinks_11 fu o (nI c) (nI (i + 1)) m = some m' ∧ (∀ q, q < 146 → m' q = m q) ∧ rC m' K' H' Z ∧ D_ G s Z c (mn_ G c) K' H' n := fun z => ih (i + 1) fu m K H (by omega) (by omega) hg hr (D_no hZc D z) N
    by_cases hat : al_ G (tg_ G c i) = true
    · rw [if_pos hat]
      obtain ⟨l1, l2⟩ := g_has hG hg t1 hc hat
      by_cases hlt : lt_ G (tg_ G c i) c
      · rw [l1 hlt]
        simp only [Option.bind_some, i10]
        have he : ed_ G c i := ⟨ha, hi, hlt⟩
        obtain ⟨r1, r2, r3⟩ := g_re hr t1 (c := K c + wt_ G c i) (x := H c) (by omega) (by omega) (D.2.2.2.1 c hc) (D.2.2.2.1 _ t1)
        rcases Nat.lt_trichotomy (K c + wt_ G c i) (K (tg_ G c i)) with z | z | z
        · rw [r1 z]
          simp only [Option.bind_some]
          obtain ⟨D', N'⟩ := D_lt hG D N he z
          have fr : ∀ q, q < 146 → jz_up (jz_up m 149 (tg_ G c i) (nI (K c + wt_ G c i))) 150 (tg_ G c i) (nI (on_ (H c) (tg_ G c i))) q = m q := fun q hq => by rw [jz_up_k (by omega), jz_up_k (by omega)]
          obtain ⟨m', K', H', a1, a2, a3, a4⟩ := ih (i + 1) fu _ _ _ (by omega) (by omega) (gC_fr hg ho fr) (rC_1 hr _ _ _) D' N'
          exact ⟨m', K', H', a1, fun q hq => (a2 q hq).trans (fr q hq), a3, a4⟩
        · rw [r2 z]
          simp only [Option.bind_some]
          have D' := D_eq hG hn D N he z
          have fr : ∀ q, q < 146 → jz_up m 150 (tg_ G c i) (nI (H (tg_ G c i) ||| on_ (H c) (tg_ G c i))) q = m q := fun q hq => by rw [jz_up_k (by omega)]
          obtain ⟨m', K', H', a1, a2, a3, a4⟩ := ih (i + 1) fu _ _ _ (by omega) (by omega) (gC_fr hg ho fr) (rC_2 hr _ _) D' N
          exact ⟨m', K', H', a1, fun q hq => (a2 q hq).trans (fr q hq), a3, a4⟩
        · rw [r3 z]
          simp only [Option.bind_some]
          exact ih (i + 1) fu m K H (by omega) (by omega) hg hr (D_gt hZc D z) N
      · rw [l2 hlt]
        simp only [Option.bind_some, if_true]
        exact no (fun z => hlt z.2.2)
    · rw [if_neg hat]
      exact no (fun z => hat z.2.2.1)
