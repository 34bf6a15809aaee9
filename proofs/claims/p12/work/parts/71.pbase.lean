/-! THE PURE LAYER: words for functions over memories -/
theorem pz_ix {n k : Nat} (h : k < n) (hn : n < 2 ^ 31) : jz_ix n (nI k) = some k := by
  unfold jz_ix
  rw [nI_clamp (by omega), if_neg]
  rintro (q | q)
  · exact nI_pos (by omega) q
  · omega
theorem pz_n {α β : Type} (e : α) (k : α → β) : jz_n e k = k e := rfl
theorem pz_b {α β : Type} {o : Option α} {v : α} (h : o = some v) (k : α → Option β) : o.bind k = k v := by rw [h]; rfl
theorem pz_up_s (m : jz_M) (k i : Nat) (v : Int32) : jz_up m k i v k i = v := by simp [jz_up, va_up, upd]
theorem pz_up_i (m : jz_M) (k i j : Nat) (v : Int32) (h : j ≠ i) : jz_up m k i v k j = m k j := by simp [jz_up, va_up, upd, h]
theorem pz_up_k (m : jz_M) (k i q j : Nat) (v : Int32) (h : q ≠ k) : jz_up m k i v q j = m q j := by simp [jz_up, va_up, h]
theorem pz_up (m : jz_M) (k i q j : Nat) (v : Int32) : jz_up m k i v q j = if q = k ∧ j = i then v else m q j := by
  by_cases h1 : q = k
  · subst h1
    by_cases h2 : j = i
    · subst h2; rw [pz_up_s, if_pos ⟨rfl, rfl⟩]
    · rw [pz_up_i _ _ _ _ _ h2, if_neg (fun h => h2 h.2)]
  · rw [pz_up_k _ _ _ _ _ _ h1, if_neg (fun h => h1 h.1)]
theorem nI_mul (a b : Nat) : nI a * nI b = nI (a * b) := (Int32.ofNat_mul a b).symm
def bI (p : Prop) [Decidable p] : Int32 := if p then 1 else 0
theorem bI_t {p : Prop} [Decidable p] (h : p) : bI p = 1 := if_pos h
theorem bI_f {p : Prop} [Decidable p] (h : ¬ p) : bI p = 0 := if_neg h
theorem bI_0 {p : Prop} [Decidable p] : (bI p = 0) = ¬ p := by
  by_cases h : p
  · rw [bI_t h]; simp [h]
  · rw [bI_f h]; simp [h]
theorem bI_n {p : Prop} [Decidable p] : (¬ bI p = 0) = p := by rw [bI_0]; simp
theorem pz_ite {α : Type} {p : Prop} [Decidable p] {a b : α} : (if bI p = 0 then a else b) = if p then b else a := by
  by_cases h : p
  · rw [bI_t h, if_pos h]; rfl
  · rw [bI_f h, if_neg h]; rfl
theorem pz_iten {α : Type} {p : Prop} [Decidable p] {a b : α} : (if ¬ bI p = 0 then a else b) = if p then a else b := by
  by_cases h : p
  · rw [bI_t h, if_pos h]; rfl
  · rw [bI_f h, if_neg h]; rfl
/-- an int is a small number, or out of its range -/
theorem pz_rng {n : Nat} (hn : n < 2 ^ 31) (a : Int32) : (∃ r, r < n ∧ a = nI r) ∨ (a < 0 ∨ nI n ≤ a) := by
  by_cases h : a < 0
  · exact Or.inr (Or.inl h)
  · obtain ⟨j, hj, rfl⟩ := nI_of h
    by_cases h2 : j < n
    · exact Or.inl ⟨j, h2, rfl⟩
    · exact Or.inr (Or.inr (nI_le (by omega) hj))
theorem i32_lt {a b : Int32} : a < b ↔ a.toInt < b.toInt := Int32.lt_iff_toInt_lt
theorem i32_le {a b : Int32} : a ≤ b ↔ a.toInt ≤ b.toInt := Int32.le_iff_toInt_le
theorem pz_nl {a b : Int32} : (¬ a ≤ b) = (b < a) := propext (by rw [i32_le, i32_lt]; omega)
theorem pz_56 (a : Int32) : (5 < a) = (6 ≤ a) := propext (by rw [i32_lt, i32_le]; show (5 : Int) < _ ↔ (6 : Int) ≤ _; omega)
theorem pz_23 (a : Int32) : (2 < a) = (3 ≤ a) := propext (by rw [i32_lt, i32_le]; show (2 : Int) < _ ↔ (3 : Int) ≤ _; omega)
-- a count of steps, from i, g of them
def pz_fo {σ : Type} (f : Nat → σ → σ) : Nat → Nat → σ → σ
  | 0, _, s => s
  | g + 1, i, s => pz_fo f g (i + 1) (f i s)
theorem pz_fo_cong {σ : Type} {f f' : Nat → σ → σ} : ∀ (g i : Nat) (s : σ), (∀ j, i ≤ j → j < i + g → f j = f' j) → pz_fo f g i s = pz_fo f' g i s := by
  intro g
  induction g with
  | zero => intros; rfl
  | succ g ih =>
    intro i s h
    show pz_fo f g (i + 1) (f i s) = pz_fo f' g (i + 1) (f' i s)
    rw [h i (Nat.le_refl _) (by omega)]
    exact ih (i + 1) _ (fun j h1 h2 => h j (by omega) (by omega))
theorem pz_fo_rel {σ τ : Type} {f : Nat → σ → σ} {f' : Nat → τ → τ} (P : Nat → σ → τ → Prop) : ∀ (g i : Nat) (s : σ) (t : τ), P i s t → (∀ j s t, i ≤ j → j < i + g → P j s t → P (j + 1) (f j s) (f' j t)) → P (i + g) (pz_fo f g i s) (pz_fo f' g i t) := by
  intro g
  induction g with
  | zero => intro i s t h _; exact h
  | succ g ih =>
    intro i s t h hs
    have h2 := ih (i + 1) (f i s) (f' i t) (hs i s t (Nat.le_refl _) (by omega) h) (fun j s t h1 h2 => hs j s t (by omega) (by omega))
    rw [show i + (g + 1) = i + 1 + g by omega]
    exact h2
theorem pz_fo_inv {σ : Type} {f : Nat → σ → σ} (P : Nat → σ → Prop) (g i : Nat) (s : σ) (h : P i s) (hs : ∀ j s, i ≤ j → j < i + g → P j s → P (j + 1) (f j s)) : P (i + g) (pz_fo f g i s) :=
  pz_fo_rel (f := f) (f' := f) (fun j s _ => P j s) g i s s h (fun j s _ h1 h2 h3 => hs j s h1 h2 h3)
theorem pn6 {i : Nat} (h : i < 6) : ¬ (6 : Int32) ≤ nI i := nI_ge h (by decide)
theorem py6 {i : Nat} (h : 6 ≤ i) (h2 : i < 2 ^ 31) : (6 : Int32) ≤ nI i := nI_le h h2
/-! the class's and the reference's questions -/
theorem q_rt_in {r : Nat} (h : r < 6) (m : jz_M) : f_AR_isRouter (nI r) m = some 1 := by
  unfold f_AR_isRouter
  rw [if_neg (nI_pos (by omega)), if_neg (pn6 h)]
theorem q_rt_out {a : Int32} (h : a < 0 ∨ nI 6 ≤ a) (m : jz_M) : f_AR_isRouter a m = some 0 := by
  unfold f_AR_isRouter
  by_cases h1 : a < 0
  · rw [if_pos h1]
  · rcases h with h | h
    · exact absurd h h1
    · rw [if_neg h1, if_pos (show (6 : Int32) ≤ a from h)]
theorem q_ct (a : Int32) (m m' : jz_M) : f_AR_isCircuit a m = f_AR_isRouter a m' := rfl
theorem q_one (a : Int32) (m m' : jz_M) : f_Mo_isOne a m = f_AR_isRouter a m' := by
  unfold f_Mo_isOne f_AR_isRouter
  simp only [pz_56]
theorem q_rt_m (a : Int32) (m m' : jz_M) : f_AR_isRouter a m = f_AR_isRouter a m' := rfl
-- attached
def k_on (m : jz_M) (r c : Nat) : Prop := 0 < (m 4 (6 * r + c)).toInt
abbrev o_on (m : jz_M) (r c : Nat) : Bool := decide (0 < (m 4 (6 * r + c)).toInt)
theorem pz_le0 {x : Int32} {α : Type} {a b : α} : (if x ≤ 0 then a else b) = if decide (0 < x.toInt) = true then b else a := by
  have h : (x ≤ 0) ↔ ¬ (0 < x.toInt) := by rw [i32_le]; show x.toInt ≤ 0 ↔ _; omega
  by_cases hx : 0 < x.toInt
  · rw [if_neg (fun q => (h.mp q) hx), if_pos (by simpa using hx)]
  · rw [if_pos (h.mpr hx), if_neg (by simpa using hx)]
theorem pz_br {b : Bool} {α : Type} (f : Int32 → α) : (if b = true then f 1 else f 0) = f (if b = true then 1 else 0) := by cases b <;> rfl
abbrev b1 (b : Bool) : Int32 := if b = true then 1 else 0
theorem b1_0 {α : Type} {b : Bool} {x y : α} : (if b1 b = 0 then x else y) = if b = true then y else x := by cases b <;> rfl
theorem b1_n {α : Type} {b : Bool} {x y : α} : (if ¬ b1 b = 0 then x else y) = if b = true then x else y := by cases b <;> rfl
theorem q_at {r c : Nat} (hr : r < 6) (hc : c < 6) (m : jz_M) : f_Wi_isAttached (nI r) (nI c) m = some (b1 (o_on m r c)) := by
  unfold f_Wi_isAttached
  rw [show nI r * 6 + nI c = nI (6 * r + c) by rw [show (6 : Int32) = nI 6 from rfl, nI_mul, nI_add, Nat.mul_comm], pz_ix (by omega) (by decide)]
  show (if m 4 (6 * r + c) ≤ 0 then some 0 else some 1) = _
  rw [pz_le0, pz_br (f := some)]
theorem q_on {r c : Nat} (hr : r < 6) (hc : c < 6) (m : jz_M) : f_Mo_isOn (nI r) (nI c) m = some (b1 (o_on m r c)) := by
  unfold f_Mo_isOn
  rw [show (6 : Int32) * nI r + nI c = nI (6 * r + c) by rw [show (6 : Int32) = nI 6 from rfl, nI_mul, nI_add], pz_ix (by omega) (by decide)]
  show (if m 4 (6 * r + c) ≤ 0 then some 0 else some 1) = _
  rw [pz_le0, pz_br (f := some)]
/-- the circuits of a router, as a set -/
def o_cs (m : jz_M) (r g i : Nat) (a : Int32) : Int32 := pz_fo (fun c a => if o_on m r c = true then a ||| ((1 : Int32) <<< (nI c &&& 31)) else a) g i a
theorem q_cs4 {r : Nat} (hr : r < 6) (m : jz_M) : ∀ (g i fu : Nat) (a : Int32), i + g = 6 → g < fu → f_Wi_circuitsOf_4 m fu (nI r) a (nI i) = some (o_cs m r g i a) := by
  intro g
  induction g with
  | zero =>
    intro i fu a h1 h2
    obtain ⟨fu, rfl⟩ : ∃ k, fu = k + 1 := ⟨fu - 1, by omega⟩
    rw [f_Wi_circuitsOf_4, if_pos (py6 (by omega) (by omega))]; rfl
  | succ g ih =>
    intro i fu a h1 h2
    obtain ⟨fu, rfl⟩ : ∃ k, fu = k + 1 := ⟨fu - 1, by omega⟩
    rw [f_Wi_circuitsOf_4, if_neg (pn6 (by omega)), pz_b (q_at hr (by omega) m), b1_0]
    simp only [pz_n, nI_1]
    by_cases h : o_on m r i = true
    · rw [if_pos h, ih (i + 1) fu _ (by omega) (by omega)]; unfold o_cs; rw [pz_fo, if_pos h]
    · rw [if_neg h, ih (i + 1) fu _ (by omega) (by omega)]; unfold o_cs; rw [pz_fo, if_neg h]
theorem q_cs {r : Nat} (hr : r < 6) (m : jz_M) : f_Wi_circuitsOf (nI r) m = some (o_cs m r 6 0 0) := q_cs4 hr m 6 0 1000 0 (by decide) (by decide)
theorem q_mcs4 {r : Nat} (hr : r < 6) (m : jz_M) : ∀ (g i fu : Nat) (a : Int32), i + g = 6 → g < fu → f_Mo_circuits_4 m fu (nI r) a (nI i) = some (o_cs m r g i a) := by
  intro g
  induction g with
  | zero =>
    intro i fu a h1 h2
    obtain ⟨fu, rfl⟩ : ∃ k, fu = k + 1 := ⟨fu - 1, by omega⟩
    rw [f_Mo_circuits_4, if_pos (py6 (by omega) (by omega))]; rfl
  | succ g ih =>
    intro i fu a h1 h2
    obtain ⟨fu, rfl⟩ : ∃ k, fu = k + 1 := ⟨fu - 1, by omega⟩
    rw [f_Mo_circuits_4, if_neg (pn6 (by omega)), pz_b (q_on hr (by omega) m), b1_0]
    simp only [pz_n, nI_1, Int32.or_zero]
    by_cases h : o_on m r i = true
    · rw [if_pos h, ih (i + 1) fu _ (by omega) (by omega)]; unfold o_cs; rw [pz_fo, if_pos h]
    · rw [if_neg h, ih (i + 1) fu _ (by omega) (by omega)]; unfold o_cs; rw [pz_fo, if_neg h]
theorem q_mcs {r : Nat} (hr : r < 6) (m : jz_M) : f_Mo_circuits (nI r) m = some (o_cs m r 6 0 0) := q_mcs4 hr m 6 0 1000000 0 (by decide) (by decide)
/-- how many are attached to a circuit -/
def o_ct (m : jz_M) (c g i : Nat) (a : Nat) : Nat := pz_fo (fun r a => if o_on m r c = true then a + 1 else a) g i a
theorem q_ct4 {c : Nat} (hc : c < 6) (m : jz_M) : ∀ (g i fu : Nat) (a : Nat), i + g = 6 → g < fu → f_Wi_countOn_4 m fu (nI c) (nI a) (nI i) = some (nI (o_ct m c g i a)) := by
  intro g
  induction g with
  | zero =>
    intro i fu a h1 h2
    obtain ⟨fu, rfl⟩ : ∃ k, fu = k + 1 := ⟨fu - 1, by omega⟩
    rw [f_Wi_countOn_4, if_pos (py6 (by omega) (by omega))]; rfl
  | succ g ih =>
    intro i fu a h1 h2
    obtain ⟨fu, rfl⟩ : ∃ k, fu = k + 1 := ⟨fu - 1, by omega⟩
    rw [f_Wi_countOn_4, if_neg (pn6 (by omega)), pz_b (q_at (by omega) hc m), b1_0]
    simp only [pz_n, nI_1]
    by_cases h : o_on m i c = true
    · rw [if_pos h, ih (i + 1) fu _ (by omega) (by omega)]; unfold o_ct; rw [pz_fo, if_pos h]
    · rw [if_neg h, ih (i + 1) fu _ (by omega) (by omega)]; unfold o_ct; rw [pz_fo, if_neg h]
theorem q_cnt {c : Nat} (hc : c < 6) (m : jz_M) : f_Wi_countOn (nI c) m = some (nI (o_ct m c 6 0 0)) := q_ct4 hc m 6 0 1000 0 (by decide) (by decide)
theorem q_mct4 {c : Nat} (hc : c < 6) (m : jz_M) : ∀ (g i fu : Nat) (a : Nat), i + g = 6 → g < fu → f_Mo_attached_4 m fu (nI c) (nI a) (nI i) = some (nI (o_ct m c g i a)) := by
  intro g
  induction g with
  | zero =>
    intro i fu a h1 h2
    obtain ⟨fu, rfl⟩ : ∃ k, fu = k + 1 := ⟨fu - 1, by omega⟩
    rw [f_Mo_attached_4, if_pos (py6 (by omega) (by omega))]; rfl
  | succ g ih =>
    intro i fu a h1 h2
    obtain ⟨fu, rfl⟩ : ∃ k, fu = k + 1 := ⟨fu - 1, by omega⟩
    rw [f_Mo_attached_4, if_neg (pn6 (by omega)), pz_b (q_on (by omega) hc m), b1_0]
    simp only [pz_n, nI_1, Int32.add_zero]
    by_cases h : o_on m i c = true
    · rw [if_pos h, ih (i + 1) fu _ (by omega) (by omega)]; unfold o_ct; rw [pz_fo, if_pos h]
    · rw [if_neg h, ih (i + 1) fu _ (by omega) (by omega)]; unfold o_ct; rw [pz_fo, if_neg h]
theorem q_mcnt {c : Nat} (hc : c < 6) (m : jz_M) : f_Mo_attached (nI c) m = some (nI (o_ct m c 6 0 0)) := q_mct4 hc m 6 0 1000000 0 (by decide) (by decide)
theorem o_ct_le (m : jz_M) (c : Nat) : o_ct m c 6 0 0 ≤ 6 := pz_fo_inv (f := fun r a => if o_on m r c = true then a + 1 else a) (fun j s => s ≤ j) 6 0 0 (Nat.le_refl _) (fun j s _ _ h => by
  show (if _ then _ else _) ≤ _
  by_cases h2 : o_on m j c = true
  · rw [if_pos h2]; omega
  · rw [if_neg h2]; omega)
abbrev o_sh (m : jz_M) (c : Nat) : Bool := decide (2 < o_ct m c 6 0 0)
theorem pz_le2 {n : Nat} (hn : n < 2 ^ 31) {α : Type} {a b : α} : (if nI n ≤ 2 then a else b) = if decide (2 < n) = true then b else a := by
  have h : (nI n ≤ 2) ↔ ¬ (2 < n) := (nI_leI (b := 2) hn (by decide)).trans (by omega)
  by_cases hx : 2 < n
  · rw [if_neg (fun q => (h.mp q) hx), if_pos (by simpa using hx)]
  · rw [if_pos (h.mpr hx), if_neg (by simpa using hx)]
theorem q_sh {c : Nat} (hc : c < 6) (m : jz_M) : f_Wi_isShared (nI c) m = some (b1 (o_sh m c)) := by
  unfold f_Wi_isShared
  rw [pz_b (q_cnt hc m), pz_le2 (by have := o_ct_le m c; omega), pz_br (f := some)]
theorem q_msh {c : Nat} (hc : c < 6) (m : jz_M) : f_Mo_isShared (nI c) m = some (b1 (o_sh m c)) := by
  unfold f_Mo_isShared
  rw [pz_b (q_mcnt hc m), pz_le2 (by have := o_ct_le m c; omega), pz_br (f := some)]
