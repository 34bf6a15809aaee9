/-! the class's search, as numbers -/
def up_ {α : Type} (f : Nat → α) (i : Nat) (x : α) : Nat → α := fun v => if v = i then x else f v
theorem up_s {α : Type} (f : Nat → α) (i : Nat) (x : α) : up_ f i x i = x := if_pos rfl
theorem up_n {α : Type} (f : Nat → α) {i v : Nat} (x : α) (h : v ≠ i) : up_ f i x v = f v := if_neg h
/-- followed: all links of the settled ones, of the last one the first i -/
def pr_ (Z : Nat → Bool) (c i u k : Nat) : Prop := Z u = true ∧ (u = c → k < i)
def D_ (G : GR) (s : Nat) (Z : Nat → Bool) (c i : Nat) (K H : Nat → Nat) (n : Nat) : Prop :=
  K s = 0 ∧ H s = 64 ∧ (∀ v, v < 42 → K v = 1000000 ∨ K v ≤ 60 * n) ∧ (∀ v, v < 42 → H v < 128) ∧
  (∀ u k, u < 42 → pr_ Z c i u k → ed_ G u k → K (tg_ G u k) ≤ K u + wt_ G u k) ∧
  (∀ v, v < 42 → v ≠ s → K v < 1000000 → ∃ u k, u < 42 ∧ pr_ Z c i u k ∧ ed_ G u k ∧ tg_ G u k = v ∧ K v = K u + wt_ G u k) ∧
  (∀ v, v < 42 → v ≠ s → K v < 1000000 → ∀ j, j < 7 → ((H v).testBit j = true ↔ ∃ u k, u < 42 ∧ pr_ Z c i u k ∧ ed_ G u k ∧ tg_ G u k = v ∧ K v = K u + wt_ G u k ∧ (on_ (H u) v).testBit j = true)) ∧
  (∀ u v, u < 42 → v < 42 → Z u = true → Z v = false → K v < 1000000 → ky K u ≤ ky K v) ∧
  (∀ u, u < 42 → Z u = true → K u < 1000000)
/-- while the links of c are followed -/
def N_ (Z : Nat → Bool) (s c : Nat) (K : Nat → Nat) (n : Nat) : Prop := c < 42 ∧ Z c = true ∧ Z s = true ∧ (∀ x, x < 42 → Z x = true → ky K x ≤ ky K c) ∧ K c + 60 ≤ 60 * n
theorem pr_s {Z : Nat → Bool} {c i u k : Nat} (h : Z c = true) : pr_ Z c (i + 1) u k ↔ pr_ Z c i u k ∨ (u = c ∧ k = i) := by
  unfold pr_
  constructor
  · rintro ⟨a, b⟩
    by_cases hu : u = c
    · have := b hu
      by_cases hk : k = i
      · exact Or.inr ⟨hu, hk⟩
      · exact Or.inl ⟨a, fun _ => by omega⟩
    · exact Or.inl ⟨a, fun z => absurd z hu⟩
  · rintro (⟨a, b⟩ | ⟨a, b⟩)
    · exact ⟨a, fun z => by have := b z; omega⟩
    · exact ⟨by rw [a]; exact h, fun _ => by omega⟩
/-- a link that leads nowhere -/
theorem D_no {G : GR} {s : Nat} {Z : Nat → Bool} {c i : Nat} {K H : Nat → Nat} {n : Nat} (hc : Z c = true) (D : D_ G s Z c i K H n) (h : ¬ ed_ G c i) : D_ G s Z c (i + 1) K H n := by
  obtain ⟨d1, d2, d3, d4, d5, d6, d7, d8, d9⟩ := D
  refine ⟨d1, d2, d3, d4, fun u k hu hp he => ?_, fun v hv hs hk => ?_, fun v hv hs hk j hj => ?_, d8, d9⟩
  · rcases (pr_s hc).mp hp with z | ⟨rfl, rfl⟩
    · exact d5 u k hu z he
    · exact absurd he h
  · obtain ⟨u, k, a1, a2, a3⟩ := d6 v hv hs hk
    exact ⟨u, k, a1, (pr_s hc).mpr (Or.inl a2), a3⟩
  · rw [d7 v hv hs hk j hj]
    constructor
    · rintro ⟨u, k, a1, a2, a3⟩
      exact ⟨u, k, a1, (pr_s hc).mpr (Or.inl a2), a3⟩
    · rintro ⟨u, k, a1, a2, a3⟩
      rcases (pr_s hc).mp a2 with z | ⟨rfl, rfl⟩
      · exact ⟨u, k, a1, z, a3⟩
      · exact absurd a3.1 h
/-- where a link of c leads, if it is no dearer there: not to a settled one -/
theorem N_uns {G : GR} (hG : GP_ G) {s : Nat} {Z : Nat → Bool} {c i : Nat} {K : Nat → Nat} {n : Nat} (N : N_ Z s c K n) (hi : i < mn_ G c) (h : K c + wt_ G c i ≤ K (tg_ G c i)) : Z (tg_ G c i) = false := by
  obtain ⟨n1, n2, n3, n4, n5⟩ := N
  cases hz : Z (tg_ G c i) with
  | false => rfl
  | true =>
    exfalso
    have a := n4 _ ((hG c n1).2 i hi).1 hz
    have b := ky_lt hG (K := K) n1 hi rfl
    unfold ky at a b
    omega
/-- dearer: nothing changes -/
theorem D_gt {G : GR} {s : Nat} {Z : Nat → Bool} {c i : Nat} {K H : Nat → Nat} {n : Nat} (hc : Z c = true) (D : D_ G s Z c i K H n) (h : K (tg_ G c i) < K c + wt_ G c i) : D_ G s Z c (i + 1) K H n := by
  obtain ⟨d1, d2, d3, d4, d5, d6, d7, d8, d9⟩ := D
  refine ⟨d1, d2, d3, d4, fun u k hu hp he => ?_, fun v hv hs hk => ?_, fun v hv hs hk j hj => ?_, d8, d9⟩
  · rcases (pr_s hc).mp hp with z | ⟨rfl, rfl⟩
    · exact d5 u k hu z he
    · omega
  · obtain ⟨u, k, a1, a2, a3⟩ := d6 v hv hs hk
    exact ⟨u, k, a1, (pr_s hc).mpr (Or.inl a2), a3⟩
  · rw [d7 v hv hs hk j hj]
    constructor
    · rintro ⟨u, k, a1, a2, a3⟩
      exact ⟨u, k, a1, (pr_s hc).mpr (Or.inl a2), a3⟩
    · rintro ⟨u, k, a1, a2, a3, a4, a5, a6⟩
      rcases (pr_s hc).mp a2 with z | ⟨rfl, rfl⟩
      · exact ⟨u, k, a1, z, a3, a4, a5, a6⟩
      · rw [a4] at h; omega
/-- as dear: more first hops -/
theorem D_eq {G : GR} (hG : GP_ G) {s : Nat} {Z : Nat → Bool} {c i : Nat} {K H : Nat → Nat} {n : Nat} (hn : n ≤ 42) (D : D_ G s Z c i K H n) (N : N_ Z s c K n) (he : ed_ G c i) (h : K c + wt_ G c i = K (tg_ G c i)) : D_ G s Z c (i + 1) K (up_ H (tg_ G c i) (H (tg_ G c i) ||| on_ (H c) (tg_ G c i))) n := by
  obtain ⟨d1, d2, d3, d4, d5, d6, d7, d8, d9⟩ := D
  have hz := N_uns hG N he.2.1 (by omega)
  obtain ⟨n1, n2, n3, n4, n5⟩ := N
  obtain ⟨t1, t2, _⟩ := (hG c n1).2 i he.2.1
  obtain ⟨t, ht⟩ : ∃ t, t = tg_ G c i := ⟨_, rfl⟩
  rw [← ht] at h hz t1 ⊢
  have hts : t ≠ s := fun z => by rw [z, n3] at hz; exact absurd hz (by decide)
  have hH : ∀ u, Z u = true → up_ H t (H t ||| on_ (H c) t) u = H u := fun u hu => up_n _ _ (fun z => by rw [z, hz] at hu; exact absurd hu (by decide))
  refine ⟨d1, ?_, d3, fun v hv => ?_, fun u k hu hp he' => ?_, fun v hv hs hk => ?_, fun v hv hs hk j hj => ?_, d8, d9⟩
  · rw [up_n _ _ (fun z => hts z.symm)]; exact d2
  · by_cases hv' : v = t
    · rw [hv', up_s]
      exact Nat.or_lt_two_pow (n := 7) (d4 t t1) (on_p (H c) (d4 c n1) t t1).1
    · rw [up_n _ _ hv']; exact d4 v hv
  · rcases (pr_s n2).mp hp with z | ⟨rfl, rfl⟩
    · exact d5 u k hu z he'
    · rw [← ht]; omega
  · obtain ⟨u, k, a1, a2, a3⟩ := d6 v hv hs hk
    exact ⟨u, k, a1, (pr_s n2).mpr (Or.inl a2), a3⟩
  · by_cases hv' : v = t
    · subst hv'
      rw [up_s, Nat.testBit_or, Bool.or_eq_true, d7 v hv hs hk j hj]
      constructor
      · rintro (⟨u, k, a1, a2, a3, a4, a5, a6⟩ | z)
        · exact ⟨u, k, a1, (pr_s n2).mpr (Or.inl a2), a3, a4, a5, by rw [hH u a2.1]; exact a6⟩
        · exact ⟨c, i, n1, (pr_s n2).mpr (Or.inr ⟨rfl, rfl⟩), he, ht.symm, h.symm, by rw [hH c n2]; exact z⟩
      · rintro ⟨u, k, a1, a2, a3, a4, a5, a6⟩
        rcases (pr_s n2).mp a2 with z | ⟨rfl, rfl⟩
        · exact Or.inl ⟨u, k, a1, z, a3, a4, a5, by rw [hH u z.1] at a6; exact a6⟩
        · exact Or.inr (by rw [hH _ n2] at a6; exact a6)
    · rw [up_n _ _ hv', d7 v hv hs hk j hj]
      constructor
      · rintro ⟨u, k, a1, a2, a3, a4, a5, a6⟩
        exact ⟨u, k, a1, (pr_s n2).mpr (Or.inl a2), a3, a4, a5, by rw [hH u a2.1]; exact a6⟩
      · rintro ⟨u, k, a1, a2, a3, a4, a5, a6⟩
        rcases (pr_s n2).mp a2 with z | ⟨rfl, rfl⟩
        · exact ⟨u, k, a1, z, a3, a4, a5, by rw [hH u z.1] at a6; exact a6⟩
        · exact absurd (a4.symm.trans ht.symm) hv'
/-- cheaper -/
theorem D_lt {G : GR} (hG : GP_ G) {s : Nat} {Z : Nat → Bool} {c i : Nat} {K H : Nat → Nat} {n : Nat} (D : D_ G s Z c i K H n) (N : N_ Z s c K n) (he : ed_ G c i) (h : K c + wt_ G c i < K (tg_ G c i)) : D_ G s Z c (i + 1) (up_ K (tg_ G c i) (K c + wt_ G c i)) (up_ H (tg_ G c i) (on_ (H c) (tg_ G c i))) n ∧ N_ Z s c (up_ K (tg_ G c i) (K c + wt_ G c i)) n := by
  obtain ⟨d1, d2, d3, d4, d5, d6, d7, d8, d9⟩ := D
  have hz := N_uns hG N he.2.1 (by omega)
  obtain ⟨n1, n2, n3, n4, n5⟩ := N
  obtain ⟨t1, t2, _⟩ := (hG c n1).2 i he.2.1
  have hky := ky_lt hG (K := K) n1 he.2.1 rfl
  obtain ⟨w, hw⟩ : ∃ w, w = K c + wt_ G c i := ⟨_, rfl⟩
  obtain ⟨t, ht⟩ : ∃ t, t = tg_ G c i := ⟨_, rfl⟩
  rw [← ht, ← hw] at h hky ⊢
  rw [← ht] at hz t1
  have hts : t ≠ s := fun z => by rw [z, n3] at hz; exact absurd hz (by decide)
  have hne : ∀ u, Z u = true → u ≠ t := fun u hu z => by rw [z, hz] at hu; exact absurd hu (by decide)
  have hK : ∀ u, Z u = true → up_ K t w u = K u := fun u hu => up_n _ _ (hne u hu)
  have hH : ∀ u, Z u = true → up_ H t (on_ (H c) t) u = H u := fun u hu => up_n _ _ (hne u hu)
  have hk : ∀ u, Z u = true → ky (up_ K t w) u = ky K u := fun u hu => by unfold ky; rw [hK u hu]
  have hkt : ky (up_ K t w) t = 2 * w + (if t % 7 = 0 then 1 else 0) := by unfold ky; rw [up_s]
  refine ⟨⟨?_, ?_, fun v hv => ?_, fun v hv => ?_, fun u k hu hp he' => ?_, fun v hv hs hk => ?_, fun v hv hs hk j hj => ?_, fun u v hu hv zu zv kv => ?_, fun u hu zu => ?_⟩, n1, n2, n3, fun x hx zx => ?_, ?_⟩
  · rw [up_n _ _ (fun z => hts z.symm)]; exact d1
  · rw [up_n _ _ (fun z => hts z.symm)]; exact d2
  · by_cases hv' : v = t
    · rw [hv', up_s]; exact Or.inr (by omega)
    · rw [up_n _ _ hv']; exact d3 v hv
  · by_cases hv' : v = t
    · rw [hv', up_s]; exact (on_p (H c) (d4 c n1) t t1).1
    · rw [up_n _ _ hv']; exact d4 v hv
  · rw [hK u hp.1]
    rcases (pr_s n2).mp hp with z | ⟨rfl, rfl⟩
    · have := d5 u k hu z he'
      by_cases hv' : tg_ G u k = t
      · rw [hv', up_s]; rw [hv'] at this; omega
      · rw [up_n _ _ hv']; exact this
    · rw [← ht, up_s]; omega
  · by_cases hv' : v = t
    · subst hv'
      exact ⟨c, i, n1, (pr_s n2).mpr (Or.inr ⟨rfl, rfl⟩), he, ht.symm, by rw [up_s, hK c n2]; exact hw⟩
    · rw [up_n _ _ hv'] at hk
      obtain ⟨u, k, a1, a2, a3, a4, a5⟩ := d6 v hv hs hk
      exact ⟨u, k, a1, (pr_s n2).mpr (Or.inl a2), a3, a4, by rw [up_n _ _ hv', hK u a2.1]; exact a5⟩
  · by_cases hv' : v = t
    · subst hv'
      rw [up_s, up_s]
      constructor
      · intro z
        exact ⟨c, i, n1, (pr_s n2).mpr (Or.inr ⟨rfl, rfl⟩), he, ht.symm, by rw [hK c n2]; exact hw, by rw [hH c n2]; exact z⟩
      · rintro ⟨u, k, a1, a2, a3, a4, a5, a6⟩
        rcases (pr_s n2).mp a2 with z | ⟨rfl, rfl⟩
        · have := d5 u k a1 z a3
          rw [hK u z.1] at a5
          rw [a4] at this
          omega
        · rw [hH _ n2] at a6; exact a6
    · rw [up_n _ _ hv'] at hk
      rw [up_n _ _ hv', up_n _ _ hv', d7 v hv hs hk j hj]
      constructor
      · rintro ⟨u, k, a1, a2, a3, a4, a5, a6⟩
        exact ⟨u, k, a1, (pr_s n2).mpr (Or.inl a2), a3, a4, by rw [hK u a2.1]; exact a5, by rw [hH u a2.1]; exact a6⟩
      · rintro ⟨u, k, a1, a2, a3, a4, a5, a6⟩
        rw [hK u a2.1] at a5
        rw [hH u a2.1] at a6
        rcases (pr_s n2).mp a2 with z | ⟨rfl, rfl⟩
        · exact ⟨u, k, a1, z, a3, a4, a5, a6⟩
        · exact absurd (a4.symm.trans ht.symm) hv'
  · rw [hk u zu]
    by_cases hv' : v = t
    · rw [hv', hkt]
      have := n4 u hu zu
      omega
    · rw [up_n _ _ hv'] at kv
      have : ky (up_ K t w) v = ky K v := by unfold ky; rw [up_n _ _ hv']
      rw [this]
      exact d8 u v hu hv zu zv kv
  · rw [hK u zu]; exact d9 u hu zu
  · rw [hk x zx, hk c n2]; exact n4 x hx zx
  · rw [hK c n2]; exact n5
/-- all links of c are followed -/
theorem D_end {G : GR} {s : Nat} {Z : Nat → Bool} {c i : Nat} {K H : Nat → Nat} {n : Nat} (D : D_ G s Z c i K H n) (h : ∀ k, ed_ G c k → k < i) : D_ G s Z 42 0 K H n := by
  obtain ⟨d1, d2, d3, d4, d5, d6, d7, d8, d9⟩ := D
  have hp : ∀ u k, u < 42 → ed_ G u k → (pr_ Z 42 0 u k ↔ pr_ Z c i u k) := fun u k hu he => by
    unfold pr_
    exact ⟨fun z => ⟨z.1, fun y => h k (by rw [← y]; exact he)⟩, fun z => ⟨z.1, fun y => by omega⟩⟩
  refine ⟨d1, d2, d3, d4, fun u k hu hq he => d5 u k hu ((hp u k hu he).mp hq) he, fun v hv hs hk => ?_, fun v hv hs hk j hj => ?_, d8, d9⟩
  · obtain ⟨u, k, a1, a2, a3, a4⟩ := d6 v hv hs hk
    exact ⟨u, k, a1, (hp u k a1 a3).mpr a2, a3, a4⟩
  · rw [d7 v hv hs hk j hj]
    constructor
    · rintro ⟨u, k, a1, a2, a3, a4⟩
      exact ⟨u, k, a1, (hp u k a1 a3).mpr a2, a3, a4⟩
    · rintro ⟨u, k, a1, a2, a3, a4⟩
      exact ⟨u, k, a1, (hp u k a1 a3).mp a2, a3, a4⟩
/-- the next one is settled -/
theorem D_next {G : GR} {s : Nat} {Z : Nat → Bool} {c : Nat} {K H : Nat → Nat} {n : Nat} (D : D_ G s Z 42 0 K H n) (hc : c < 42) (hz : Z c = false) (hk : K c < 1000000) (hm : ∀ v, v < 42 → Z v = false → K v < 1000000 → ky K c ≤ ky K v) (hs : Z s = true ∨ c = s) (hn : n ≤ 42) : D_ G s (up_ Z c true) c 0 K H (n + 1) ∧ N_ (up_ Z c true) s c K (n + 1) := by
  obtain ⟨d1, d2, d3, d4, d5, d6, d7, d8, d9⟩ := D
  have hp : ∀ u k, u < 42 → (pr_ (up_ Z c true) c 0 u k ↔ pr_ Z 42 0 u k) := fun u k hu => by
    unfold pr_
    constructor
    · rintro ⟨a, b⟩
      have hu' : u ≠ c := fun z => by have := b z; omega
      rw [up_n _ _ hu'] at a
      exact ⟨a, fun z => by omega⟩
    · rintro ⟨a, _⟩
      have hu' : u ≠ c := fun z => by rw [z, hz] at a; exact absurd a (by decide)
      exact ⟨by rw [up_n _ _ hu']; exact a, fun z => absurd z hu'⟩
  have hsz : up_ Z c true s = true := by
    by_cases h : s = c
    · rw [h, up_s]
    · rw [up_n _ _ h]
      rcases hs with z | z
      · exact z
      · exact absurd z.symm h
  refine ⟨⟨d1, d2, fun v hv => ?_, d4, fun u k hu hq he => d5 u k hu ((hp u k hu).mp hq) he, fun v hv hs hk => ?_, fun v hv hs hk j hj => ?_, fun u v hu hv zu zv kv => ?_, fun u hu zu => ?_⟩, hc, up_s _ _ _, hsz, fun x hx zx => ?_, ?_⟩
  · have := d3 v hv
    omega
  · obtain ⟨u, k, a1, a2, a3⟩ := d6 v hv hs hk
    exact ⟨u, k, a1, (hp u k a1).mpr a2, a3⟩
  · rw [d7 v hv hs hk j hj]
    constructor
    · rintro ⟨u, k, a1, a2, a3⟩
      exact ⟨u, k, a1, (hp u k a1).mpr a2, a3⟩
    · rintro ⟨u, k, a1, a2, a3⟩
      exact ⟨u, k, a1, (hp u k a1).mp a2, a3⟩
  · have hv' : v ≠ c := fun z => by rw [z, up_s] at zv; exact absurd zv (by decide)
    rw [up_n _ _ hv'] at zv
    by_cases hu' : u = c
    · rw [hu']; exact hm v hv zv kv
    · rw [up_n _ _ hu'] at zu; exact d8 u v hu hv zu zv kv
  · by_cases hu' : u = c
    · rw [hu']; exact hk
    · rw [up_n _ _ hu'] at zu; exact d9 u hu zu
  · by_cases hx' : x = c
    · rw [hx']; exact Nat.le_refl _
    · rw [up_n _ _ hx'] at zx; exact d8 x c hx hc zx hz hk
  · have := d3 c hc
    omega
/-- none is left -/
theorem D_W {G : GR} {s : Nat} {Z : Nat → Bool} {K H : Nat → Nat} {n : Nat} (D : D_ G s Z 42 0 K H n) (hn : n ≤ 42) (h : ∀ v, v < 42 → K v < 1000000 → Z v = true) : W_ G s K H := by
  obtain ⟨d1, d2, d3, d4, d5, d6, d7, d8, d9⟩ := D
  have hp : ∀ u k, u < 42 → Z u = true → pr_ Z 42 0 u k := fun u k hu hz => ⟨hz, fun z => by omega⟩
  refine ⟨d1, d2, fun v hv => ?_, fun u k hu hk he => d5 u k hu (hp u k hu (h u hu hk)) he, fun v hv hs hk => ?_, fun v hv hs hk => ⟨d4 v hv, fun j hj => ?_⟩⟩
  · have := d3 v hv; omega
  · obtain ⟨u, k, a1, a2, a3⟩ := d6 v hv hs hk
    exact ⟨u, k, a1, d9 u a1 a2.1, a3⟩
  · rw [d7 v hv hs hk j hj]
    constructor
    · rintro ⟨u, k, a1, a2, a3⟩
      exact ⟨u, k, a1, d9 u a1 a2.1, a3⟩
    · rintro ⟨u, k, a1, a2, a3⟩
      exact ⟨u, k, a1, hp u k a1 (h u a1 a2), a3⟩
