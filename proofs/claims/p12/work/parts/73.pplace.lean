/-! place and attach -/
/-- a set out of six answers, and a count -/
def b6_s (f : Nat → Bool) : Nat := (f 0).toNat + 2 * (f 1).toNat + 4 * (f 2).toNat + 8 * (f 3).toNat + 16 * (f 4).toNat + 32 * (f 5).toNat
def b6_n (f : Nat → Bool) : Nat := (f 0).toNat + (f 1).toNat + (f 2).toNat + (f 3).toNat + (f 4).toNat + (f 5).toNat
theorem b6_fs (f : Nat → Bool) : pz_fo (fun c a => if f c = true then a ||| ((1 : Int32) <<< (nI c &&& 31)) else a) 6 0 0 = nI (b6_s f) := by
  unfold b6_s
  simp only [pz_fo, Nat.zero_add, Nat.reduceAdd]
  generalize f 0 = b0
  generalize f 1 = b1
  generalize f 2 = b2
  generalize f 3 = b3
  generalize f 4 = b4
  generalize f 5 = b5
  cases b0 <;> cases b1 <;> cases b2 <;> cases b3 <;> cases b4 <;> cases b5 <;> decide +kernel
theorem b6_fn (f : Nat → Bool) : pz_fo (fun r a => if f r = true then a + 1 else a) 6 0 0 = b6_n f := by
  unfold b6_n
  simp only [pz_fo, Nat.zero_add, Nat.reduceAdd]
  generalize f 0 = b0
  generalize f 1 = b1
  generalize f 2 = b2
  generalize f 3 = b3
  generalize f 4 = b4
  generalize f 5 = b5
  cases b0 <;> cases b1 <;> cases b2 <;> cases b3 <;> cases b4 <;> cases b5 <;> rfl
theorem b6_s_lt (f : Nat → Bool) : b6_s f < 64 := by
  have h : ∀ b : Bool, b.toNat ≤ 1 := fun b => by cases b <;> decide
  have h0 := h (f 0); have h1 := h (f 1); have h2 := h (f 2); have h3 := h (f 3); have h4 := h (f 4); have h5 := h (f 5)
  unfold b6_s; omega
theorem b6_s_0 (f : Nat → Bool) : b6_s f = 0 ↔ ∀ c, c < 6 → f c = false := by
  constructor
  · intro h c hc
    unfold b6_s at h
    have hb : ∀ b : Bool, b.toNat = 0 → b = false := fun b q => by cases b; rfl; cases q
    rcases (show c = 0 ∨ c = 1 ∨ c = 2 ∨ c = 3 ∨ c = 4 ∨ c = 5 by omega) with rfl | rfl | rfl | rfl | rfl | rfl <;> exact hb _ (by omega)
  · intro h
    unfold b6_s
    rw [h 0 (by decide), h 1 (by decide), h 2 (by decide), h 3 (by decide), h 4 (by decide), h 5 (by decide)]
    rfl
theorem o_cs_b (m : jz_M) (r : Nat) : o_cs m r 6 0 0 = nI (b6_s (o_on m r)) := b6_fs (o_on m r)
theorem o_ct_b (m : jz_M) (c : Nat) : o_ct m c 6 0 0 = b6_n (fun r => o_on m r c) := b6_fn (fun r => o_on m r c)
theorem o_cs_0 (m : jz_M) (r : Nat) : o_cs m r 6 0 0 = 0 ↔ ∀ c, c < 6 → o_on m r c = false := by
  rw [o_cs_b, ← b6_s_0, ← nI_0]
  have := b6_s_lt (o_on m r)
  exact nI_eq (by omega) (by decide)
theorem I_on {c : Nat} {mc mm : jz_M} (h : I_ c mc mm) {r q : Nat} (hr : r < 6) (hq : q < 6) : o_on mc r q = o_on mm r q := by
  unfold o_on; rw [(h.2.1 (6 * r + q) (by omega)).1]
theorem b6_s_c {f g : Nat → Bool} (h : ∀ c, c < 6 → f c = g c) : b6_s f = b6_s g := by
  unfold b6_s; rw [h 0 (by decide), h 1 (by decide), h 2 (by decide), h 3 (by decide), h 4 (by decide), h 5 (by decide)]
theorem b6_n_c {f g : Nat → Bool} (h : ∀ c, c < 6 → f c = g c) : b6_n f = b6_n g := by
  unfold b6_n; rw [h 0 (by decide), h 1 (by decide), h 2 (by decide), h 3 (by decide), h 4 (by decide), h 5 (by decide)]
theorem I_cs {c : Nat} {mc mm : jz_M} (h : I_ c mc mm) {r : Nat} (hr : r < 6) : o_cs mc r 6 0 0 = o_cs mm r 6 0 0 := by
  rw [o_cs_b, o_cs_b, b6_s_c (fun q hq => I_on h hr hq)]
theorem I_ct {c : Nat} {mc mm : jz_M} (h : I_ c mc mm) {q : Nat} (hq : q < 6) : o_ct mc q 6 0 0 = o_ct mm q 6 0 0 := by
  rw [o_ct_b, o_ct_b, b6_n_c (fun r hr => I_on h hr hq)]
theorem I_sh {c : Nat} {mc mm : jz_M} (h : I_ c mc mm) {q : Nat} (hq : q < 6) : o_sh mc q = o_sh mm q := by
  unfold o_sh; rw [I_ct h hq]
theorem I_place {c : Nat} {mc mm : jz_M} (h : I_ c mc mm) {r a l : Nat} (ha : a ≤ 2) (h1 : 1 ≤ l) (h3 : l ≤ 3) : I_ c (jz_up (jz_up mc 1 r (nI a)) 2 r (nI l)) (jz_up (jz_up mm 1 r (nI a)) 2 r (nI l)) := by
  have on : ∀ x q, o_on (jz_up (jz_up mm 1 r (nI a)) 2 r (nI l)) x q = o_on mm x q := fun x q => by unfold o_on; rw [jz_up_k (by decide), jz_up_k (by decide)]
  have ct : ∀ q, o_ct (jz_up (jz_up mm 1 r (nI a)) 2 r (nI l)) q 6 0 0 = o_ct mm q 6 0 0 := fun q => by unfold o_ct; simp only [on]
  have hk : ∀ (m : jz_M) k, 3 ≤ k → jz_up (jz_up m 1 r (nI a)) 2 r (nI l) k = m k := fun m k hk => by rw [jz_up_k (by omega), jz_up_k (by omega)]
  refine ⟨fun x hx => ?_, fun j hj => ?_, fun j hj => ?_, fun l e hl he => ?_, fun l r c n h1 h2 h3 h4 => ?_, fun l r n h1 h2 h3 => ⟨?_, ?_⟩⟩
  · obtain ⟨e1, e2, e3, e4, e5⟩ := h.1 x hx
    unfold I_pl
    simp only [on]
    rw [hk mm 3 (by decide)]
    by_cases hxr : x = r
    · subst hxr
      exact ⟨by simp [pz_up], by simp [pz_up], ⟨a, ha, by simp [pz_up]⟩, ⟨l, h1, h3, by simp [pz_up]⟩, e5⟩
    · simp only [pz_up, hxr, and_false, if_false]
      exact ⟨e1, e2, e3, e4, e5⟩
  · have := h.2.1 j hj
    unfold I_wi at this ⊢
    rw [hk mc 4 (by decide), hk mc 5 (by decide), hk mm 4 (by decide), hk mm 5 (by decide)]
    exact this
  · rw [ct]; exact h.2.2.1 j hj
  · have := h.2.2.2.1 l e hl he
    unfold I_he at this ⊢
    rw [hk mc (8 + 3 * l) (by omega), hk mc (9 + 3 * l) (by omega), hk mm 6 (by decide), hk mm 7 (by decide)]
    exact this
  · have := h.2.2.2.2.1 l r c n h1 h2 h3 h4
    unfold ih_ at this ⊢
    simp only [on]
    rw [hk mm 6 (by decide), hk mm 7 (by decide)]
    exact this
  · have := (h.2.2.2.2.2 l r n h1 h2 h3).1
    unfold rd_ at this ⊢
    simp only [hk mc (bx l r + 1) (by unfold bx; omega), hk mc (bx l r + 2) (by unfold bx; omega), hk mc (bx l r + 3) (by unfold bx; omega), hk mc (bx l r + 4) (by unfold bx; omega), hk mc (bx l r + 5) (by unfold bx; omega), hk mc (bx l r + 6) (by unfold bx; omega), hk mc (bx l r + 7) (by unfold bx; omega), hk mc (bx l r + 8) (by unfold bx; omega), hk mc (bx l r + 9) (by unfold bx; omega), hk mc (bx l r + 10) (by unfold bx; omega), hk mm 8 (by decide), hk mm 9 (by decide), hk mm 10 (by decide), hk mm 11 (by decide), hk mm 12 (by decide), hk mm 13 (by decide), hk mm 14 (by decide), hk mm 15 (by decide), hk mm 16 (by decide), hk mm 17 (by decide)]
    exact this
  · have := (h.2.2.2.2.2 l r n h1 h2 h3).2
    unfold iv_ at this ⊢
    simp only [hk mm 8 (by decide), hk mm 9 (by decide), hk mm 10 (by decide), hk mm 11 (by decide), hk mm 12 (by decide), hk mm 13 (by decide), hk mm 14 (by decide), hk mm 15 (by decide), hk mm 16 (by decide), hk mm 17 (by decide)]
    exact this
theorem pz_nI {a : Int32} {lo hi : Nat} (hl : lo ≤ hi) (hhi : hi < 2 ^ 31) (h1 : ¬ a < nI lo) (h2 : ¬ nI hi < a) : ∃ n : Nat, lo ≤ n ∧ n ≤ hi ∧ a = nI n := by
  have h0 : ¬ a < 0 := by
    intro q
    apply h1
    rw [i32_lt] at q ⊢
    rw [nI_toInt (by omega)]
    have : (0 : Int32).toInt = 0 := rfl
    omega
  obtain ⟨j, hj, rfl⟩ := nI_of h0
  refine ⟨j, ?_, ?_, rfl⟩
  · apply Nat.le_of_not_lt
    intro q
    exact h1 (nI_lt q (by omega))
  · apply Nat.le_of_not_lt
    intro q
    exact h2 (nI_lt q hj)
theorem pz_33 (a : Int32) : (a ≤ 3) = ¬ (3 < a) := propext (by rw [i32_lt, i32_le]; omega)
theorem i10 {α : Type} {a b : α} : (if (1 : Int32) = 0 then a else b) = b := rfl
theorem i00 {α : Type} {a b : α} : (if (0 : Int32) = 0 then a else b) = a := rfl
theorem n10 {α : Type} {a b : α} : (if ¬ (1 : Int32) = 0 then a else b) = a := rfl
theorem n00 {α : Type} {a b : α} : (if ¬ (0 : Int32) = 0 then a else b) = b := rfl
theorem ok_place : sp_place J_ := by
  intro c mc mm hc hI a1 a2 a3
  unfold f_AR_place f_Mo_place
  simp only [pz_n, pz_23, pz_33]
  obtain ⟨m1, hm1⟩ : ∃ x, x = jz_up mm 0 0 0 := ⟨_, rfl⟩
  rw [← hm1]
  have hI1 : I_ (252 * c) mc m1 := by rw [hm1]; exact I_thr 0 0 hI
  rw [q_one a1 m1 mc]
  rcases pz_rng (n := 6) (by decide) a1 with ⟨r, hr, rfl⟩ | ho
  · simp only [q_rt_in hr mc, Option.bind_some, i10]
    by_cases h1 : a2 < 0
    · simp only [if_pos h1]; exact ⟨_, _, rfl, rfl, rfl, I_up hI1⟩
    simp only [if_neg h1]
    by_cases h2 : 3 ≤ a2
    · simp only [if_pos h2]; exact ⟨_, _, rfl, rfl, rfl, I_up hI1⟩
    simp only [if_neg h2]
    by_cases h3 : a3 < 1
    · simp only [if_pos h3]; exact ⟨_, _, rfl, rfl, rfl, I_up hI1⟩
    simp only [if_neg h3]
    by_cases h4 : 3 < a3
    · simp only [if_neg (fun q => q h4 : ¬ ¬ 3 < a3), if_pos h4]; exact ⟨_, _, rfl, rfl, rfl, I_up hI1⟩
    simp only [if_pos h4, if_neg h4, q_cs hr mc, pz_ix hr (show 6 < 2 ^ 31 by decide), Option.bind_some]
    have hz : o_cs mc r 6 0 0 = 0 ↔ m1 3 r = 0 := by rw [I_cs hI1 hr, o_cs_0, (hI1.1 r hr).2.2.2.2]
    by_cases h5 : m1 3 r = 0
    · simp only [if_pos (hz.mpr h5), if_pos h5]
      obtain ⟨a, _, ha, rfl⟩ := pz_nI (lo := 0) (hi := 2) (by decide) (by decide) h1 (fun q => h2 (by rw [← pz_23]; exact q))
      obtain ⟨l, hl1, hl3, rfl⟩ := pz_nI (lo := 1) (hi := 3) (by decide) (by decide) h3 h4
      exact ⟨_, _, rfl, rfl, rfl, I_up (I_place hI1 ha hl1 hl3)⟩
    · simp only [if_neg (fun q => h5 (hz.mp q) : ¬ o_cs mc r 6 0 0 = 0), if_neg h5]; exact ⟨_, _, rfl, rfl, rfl, I_up hI1⟩
  · simp only [q_rt_out ho mc, Option.bind_some, i00]
    exact ⟨_, _, rfl, rfl, rfl, I_up hI1⟩
