/-! renewed, ended: what both have in common stays -/
def KP_ (m m' : jz_M) : Prop := (∀ q, 1 ≤ q → q < 8 → m' q = m q) ∧ m' 0 0 = m 0 0
theorem KP_r (m : jz_M) : KP_ m m := ⟨fun _ _ _ => rfl, rfl⟩
theorem KP_t {a b c : jz_M} (h : KP_ a b) (h' : KP_ b c) : KP_ a c := ⟨fun q z y => (h'.1 q z y).trans (h.1 q z y), h'.2.trans h.2⟩
theorem KP_md {l r n : Nat} {m m' : jz_M} (h : ∀ q j, ¬ md_ l r n q j → m' q j = m q j) : KP_ m m' := ⟨fun q _ h2 => funext fun j => h q j (fun z => by have := z.1; omega), h 0 0 (fun z => by have := z.1; omega)⟩
theorem n_20 : (20 : Int32) = nI 20 := rfl
theorem I_renew {b l r p k : Nat} {mc mm : jz_M} (hI : I_ b mc mm) (hb : b ≤ 200000) (hl : l < 2) (hr : r < 6) (hp : p < 7) (hk : k ≤ 10) (hD : DR_ mc mm (7 * r + p) k) (ha : mc 146 1 = mm 1 r) (he : mc 146 2 = v_ex mm l r p) : ∃ mc' mm' : jz_M, f_Ba_renew (bx l r) (nI (7 * r + p)) (o_cs mm r 6 0 0) mc = some mc' ∧ f_Mo_renew (nI r) (nI (l + 1)) (nI p) mm = some mm' ∧ I_ (b + 1) mc' mm' ∧ KP_ mm mm' ∧ (∀ q j, ¬ md_ l r (7 * r + p) q j → mm' q j = mm q j) := by
  obtain ⟨⟨a1, a2, a3, a4, a5, a6, a7, a8, a9, a10⟩, ⟨⟨s, t, b1, b2, b3, b4⟩, b5, b6, b7, b8, b9, ⟨k0, k1, k2, k3⟩, b10, b11⟩⟩ := hI.2.2.2.2.2 l r (7 * r + p) hl hr (by omega)
  obtain ⟨mc', c0, c1, c2, c3, c5, c6, c7, c8, c9, c10, cf⟩ := q_rw (n := 7 * r + p) hl hr (by omega) hk (o_cs mm r 6 0 0) (a2.trans b2) hD.1
  obtain ⟨mm', m0, m1, m2, m3, m5, m6, m7, m8, m9, m10, mf⟩ := q_mrw hl hr hp hk b2 hD.2.1
  refine ⟨mc', mm', c0, m0, I_desc hI (Nat.le_succ b) hl hr (n := 7 * r + p) (by omega) (fun q j _ => cf q j) (fun q j _ _ => mf q j) ?_ ?_, KP_md mf, mf⟩
  · refine ⟨by rw [c1, m1], by rw [c2, m2], by rw [c3, m3], fun _ z => ?_, by rw [c5, m5, he], by rw [c6, m6, ha], fun _ => by rw [c7, m7], fun j hj => ?_, by rw [c9, m9], by rw [c10, m10]⟩
    · rw [m3] at z; exact absurd z (by decide)
    · rw [c8 j hj, m8 j hj]
      by_cases hjk : j < k
      · rw [if_pos hjk, if_pos hjk, (hD.2.2 j hjk).1]
      · rw [if_neg hjk, if_neg hjk, a8 j hj]
  · refine ⟨⟨t + 1, t + 1, m1, m2, Nat.le_refl _, by omega⟩, ⟨20, by decide, by rw [m3]; rfl⟩, fun z => ?_, fun _ z => ?_, ?_, ?_, ⟨k, hk, m7, fun j hj => ?_⟩, ⟨b6_s (o_on mm r), b6_s_lt _, by rw [m9, o_cs_b]⟩, ⟨0, by decide, by rw [m10]; rfl⟩⟩
    · rw [m1] at z
      exact absurd ((nI_eq (b := 0) (by omega) (by decide)).mp z) (by omega)
    · rw [m3] at z; exact absurd z (by decide)
    · rw [m5]
      rcases v_ex01 mm l r p with h | h
      · rw [h, nar_0]; exact Or.inl rfl
      · rw [h, nar_1]; exact Or.inr rfl
    · rw [m6]; exact (hI.1 r hr).2.2.1
    · rw [m8 j (by omega), if_pos hj]; exact (hD.2.2 j hj).2
theorem I_end {b l r n : Nat} {mc mm : jz_M} (hI : I_ b mc mm) (hl : l < 2) (hr : r < 6) (hn : n < 42) (hs : mm 8 (ix l r n) ≠ 0) : ∃ mc' mm' : jz_M, f_Ba_end (bx l r) (nI n) (o_cs mm r 6 0 0) mc = some mc' ∧ f_Mo_die (nI r) (nI (ix l r n)) mm = some mm' ∧ I_ b mc' mm' ∧ KP_ mm mm' ∧ (∀ q j, ¬ md_ l r n q j → mm' q j = mm q j) ∧ mm' 8 (ix l r n) = mm 8 (ix l r n) := by
  obtain ⟨⟨a1, a2, a3, a4, a5, a6, a7, a8, a9, a10⟩, ⟨b1, b5, b6, b7, b8, b9, bk, b10, b11⟩⟩ := hI.2.2.2.2.2 l r n hl hr hn
  unfold f_Ba_end f_Mo_die
  simp only [pz_ix hn (show 42 < 2 ^ 31 by decide), pz_ix (ix_lt hl hr hn) (show 504 < 2 ^ 31 by decide), Option.bind_some, pz_n, q_mcs hr]
  rw [show o_cs (jz_up (jz_up mm 10 (ix l r n) 0) 11 (ix l r n) 0) r 6 0 0 = o_cs mm r 6 0 0 by unfold o_cs o_on; rw [jz_up_k (by decide), jz_up_k (by decide)]]
  obtain ⟨i, hi⟩ : ∃ i, i = ix l r n := ⟨_, rfl⟩
  rw [← hi] at a1 a2 a3 a4 a5 a6 a7 a8 a9 a10 b1 b5 b6 b7 b8 b9 bk b10 b11 hs ⊢
  obtain ⟨d, hd⟩ : ∃ d, d = o_cs mm r 6 0 0 := ⟨_, rfl⟩
  have hd2 : d = nI (b6_s (o_on mm r)) := hd.trans (o_cs_b mm r)
  rw [← hd]
  have ck : ∀ q, q ≠ bx l r + 3 → q ≠ bx l r + 4 → q ≠ bx l r + 9 → jz_up (jz_up (jz_up mc (bx l r + 3) n 0) (bx l r + 4) n 0) (bx l r + 9) n d q = mc q := fun q h1 h2 h3 => by rw [jz_up_k h3, jz_up_k h2, jz_up_k h1]
  have mk : ∀ q, q ≠ 10 → q ≠ 11 → q ≠ 16 → jz_up (jz_up (jz_up mm 10 i 0) 11 i 0) 16 i d q = mm q := fun q h1 h2 h3 => by rw [jz_up_k h3, jz_up_k h2, jz_up_k h1]
  have mf : ∀ q j, ¬ md_ l r n q j → jz_up (jz_up (jz_up mm 10 i 0) 11 i 0) 16 i d q j = mm q j := fun q j hz => by
    have nj : ∀ f, 8 ≤ f → f ≠ 15 → ¬ (q = f ∧ j = i) := fun f h1 h8 z => hz ⟨by omega, fun y => by omega, fun _ => by rw [← hi]; exact z.2⟩
    rw [pz_up, if_neg (nj 16 (by decide) (by decide)), pz_up, if_neg (nj 11 (by decide) (by decide)), pz_up, if_neg (nj 10 (by decide) (by decide))]
  have cf : ∀ q j, ¬ cd_ l r n q j → jz_up (jz_up (jz_up mc (bx l r + 3) n 0) (bx l r + 4) n 0) (bx l r + 9) n d q j = mc q j := fun q j hz => by
    have nj : ∀ f, 1 ≤ f → f ≤ 10 → f ≠ 8 → ¬ (q = bx l r + f ∧ j = n) := fun f h1 h2 h8 z => hz ⟨by omega, by omega, fun y => by omega, fun _ => z.2⟩
    rw [pz_up, if_neg (nj 9 (by decide) (by decide) (by decide)), pz_up, if_neg (nj 4 (by decide) (by decide) (by decide)), pz_up, if_neg (nj 3 (by decide) (by decide) (by decide))]
  refine ⟨_, _, rfl, rfl, I_desc hI (Nat.le_refl b) hl hr hn (fun q j _ => cf q j) (fun q j _ _ => mf q j) ?_ ?_, KP_md mf, mf, by rw [mk 8 (by decide) (by decide) (by decide)]⟩
  · unfold rd_
    rw [← hi]
    rw [ck (bx l r + 1) (by omega) (by omega) (by omega), ck (bx l r + 2) (by omega) (by omega) (by omega), ck (bx l r + 5) (by omega) (by omega) (by omega), ck (bx l r + 6) (by omega) (by omega) (by omega), ck (bx l r + 7) (by omega) (by omega) (by omega), ck (bx l r + 8) (by omega) (by omega) (by omega), ck (bx l r + 10) (by omega) (by omega) (by omega), mk 8 (by decide) (by decide) (by decide), mk 9 (by decide) (by decide) (by decide), mk 12 (by decide) (by decide) (by decide), mk 13 (by decide) (by decide) (by decide), mk 14 (by decide) (by decide) (by decide), mk 15 (by decide) (by decide) (by decide), mk 17 (by decide) (by decide) (by decide)]
    refine ⟨a1, a2, ?_, fun _ _ => ?_, a5, a6, a7, a8, ?_, a10⟩
    · rw [jz_up_k (by omega), jz_up_k (by omega), pz_up_s, jz_up_k (by decide), jz_up_k (by decide), pz_up_s]
    · rw [jz_up_k (by omega), pz_up_s, jz_up_k (by decide), pz_up_s]
    · rw [pz_up_s, pz_up_s]
  · unfold iv_
    rw [← hi]
    rw [mk 8 (by decide) (by decide) (by decide), mk 9 (by decide) (by decide) (by decide), mk 12 (by decide) (by decide) (by decide), mk 13 (by decide) (by decide) (by decide), mk 14 (by decide) (by decide) (by decide), mk 15 (by decide) (by decide) (by decide), mk 17 (by decide) (by decide) (by decide)]
    refine ⟨b1, ⟨0, by decide, ?_⟩, fun z => absurd z hs, fun _ _ => ⟨0, by decide, ?_⟩, b8, b9, bk, ⟨b6_s (o_on mm r), b6_s_lt _, ?_⟩, b11⟩
    · rw [jz_up_k (by decide), jz_up_k (by decide), pz_up_s]; rfl
    · rw [jz_up_k (by decide), pz_up_s]; rfl
    · rw [pz_up_s, hd2]
