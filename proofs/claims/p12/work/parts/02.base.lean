/-! MY OWN LAYER: memories as functions, one judgement for a walk, its rows. -/
abbrev jz_M : Type := Nat → Nat → Int32
abbrev jz_X : Type := Program × Launch × Env × Room × State × MethodId × Array Value × List Frame × Method × Code
abbrev jz_G : Type := va_G × List vw_C × List (ClassId × FieldType) × Nat × (Nat → Nat) × (Nat → (Nat → Int32) → va_E)
abbrev xz_p (X : jz_X) : Program := X.1
abbrev xz_l (X : jz_X) : Launch := X.2.1
abbrev xz_e (X : jz_X) : Env := X.2.2.1
abbrev xz_R (X : jz_X) : Room := X.2.2.2.1
abbrev xz_s (X : jz_X) : State := X.2.2.2.2.1
abbrev xz_m (X : jz_X) : MethodId := X.2.2.2.2.2.1
abbrev xz_a (X : jz_X) : Array Value := X.2.2.2.2.2.2.1
abbrev xz_b (X : jz_X) : List Frame := X.2.2.2.2.2.2.2.1
abbrev xz_t (X : jz_X) : Method := X.2.2.2.2.2.2.2.2.1
abbrev xz_c (X : jz_X) : Code := X.2.2.2.2.2.2.2.2.2
abbrev gz_D (G : jz_G) : va_G := G.1
abbrev gz_cl (G : jz_G) : List vw_C := G.2.1
abbrev gz_ty (G : jz_G) : List (ClassId × FieldType) := G.2.2.1
abbrev gz_N (G : jz_G) : Nat := G.2.2.2.1
abbrev gz_ad (G : jz_G) : Nat → Nat := G.2.2.2.2.1
abbrev gz_E (G : jz_G) : Nat → (Nat → Int32) → va_E := G.2.2.2.2.2
/-- the world of a memory -/
def jz_w (G : jz_G) (m : jz_M) : va_W := (List.range (gz_N G)).map (fun k => (gz_ad G k, gz_E G k (m k)))
def jz_F (G : jz_G) : Nat → Prop := fun q => ∃ k, k < gz_N G ∧ q = gz_ad G k
def jz_I (G : jz_G) : Prop := ∀ i j, i < gz_N G → j < gz_N G → gz_ad G i = gz_ad G j → i = j
theorem jz_w_at {G : jz_G} {m : jz_M} {k : Nat} (h : k < gz_N G) : (jz_w G m)[k]? = some (gz_ad G k, gz_E G k (m k)) := by
  simp [jz_w, List.getElem?_range h]
theorem jz_w_of {G : jz_G} {m : jz_M} {k : Nat} {q : Nat × va_E} (h : (jz_w G m)[k]? = some q) : k < gz_N G ∧ q = (gz_ad G k, gz_E G k (m k)) := by
  have hl : k < gz_N G := by
    have := (List.getElem?_eq_some_iff.mp h).1
    simpa [jz_w] using this
  exact ⟨hl, (Option.some.inj ((jz_w_at hl).symm.trans h)).symm⟩
theorem jz_w_D {G : jz_G} {m : jz_M} (hI : jz_I G) : va_D (jz_F G) (jz_w G m) := by
  refine ⟨fun i j x y hx hy hxy => ?_, fun k q hk => ?_⟩
  · obtain ⟨h1, rfl⟩ := jz_w_of hx
    obtain ⟨h2, rfl⟩ := jz_w_of hy
    exact hI i j h1 h2 hxy
  · obtain ⟨h1, rfl⟩ := jz_w_of hk
    exact ⟨k, h1, rfl⟩
/-- a write: one int of one cell -/
def jz_up (m : jz_M) (k i : Nat) (v : Int32) : jz_M := va_up m k (upd (m k) i v)
theorem jz_w_set {G : jz_G} {m : jz_M} {k : Nat} (f : Nat → Int32) : (jz_w G m).set k (gz_ad G k, gz_E G k f) = jz_w G (va_up m k f) := by
  apply List.ext_getElem?
  intro j
  by_cases hl : j < gz_N G
  · rw [jz_w_at hl]
    by_cases hj : j = k
    · subst hj
      rw [List.getElem?_set_self (by simpa [jz_w] using hl), va_up_self]
    · rw [List.getElem?_set_ne (Ne.symm hj), jz_w_at hl, va_up_ne _ _ hj]
  · rw [List.getElem?_eq_none (by simp [jz_w]; omega), List.getElem?_eq_none (by simp [jz_w]; omega)]
-- the tables' words: those that a callee may be given as words, and those of nest mates, which a world carries
def gw_ok (w : Cond) : Bool := (w.onTables && w.keeps) || (match w with | .arrayClass _ => true | _ => false)
def gw_ne (w : Cond) : Bool := match w with | .fieldLinkNest .. => true | .methodLinkNest .. => true | _ => false
def gw_tbl : List Cond := lw_tbl.filter gw_ok
def nw_tbl : List Cond := lw_tbl.filter gw_ne
theorem gw_in {w : Cond} (h : w ∈ lw_tbl) (hk : gw_ok w = true) : w ∈ gw_tbl := List.mem_filter.mpr ⟨h, hk⟩
theorem nw_in {w : Cond} (h : w ∈ lw_tbl) (hk : gw_ne w = true) : w ∈ nw_tbl := List.mem_filter.mpr ⟨h, hk⟩
def nw_ok (U : State) : Prop := ∀ w ∈ nw_tbl, va_Nw w U
theorem nw_ok.warm {s U : State} (hW : s.WarmedH U.vm) (h : nw_ok s) : nw_ok U := by
  intro w hw
  have h1 := h w hw
  have h2 := (List.mem_filter.mp hw).2
  cases w <;> first | exact va_Nw.warmF hW h1 | exact va_Nw.warmM hW h1 | (exfalso; simp [gw_ne] at h2)
theorem nw_ok.same {s U : State} (hv : s.vm = U.vm) (h : nw_ok s) : nw_ok U := by
  intro w hw
  have h1 := h w hw
  have h2 := (List.mem_filter.mp hw).2
  cases w <;> first | exact va_Nw.same rfl hv h1 | (exfalso; simp [gw_ne] at h2)
theorem gw_good {cd : Cond} (hc : cd ∈ gw_tbl) : GoodIn gw_tbl (cd :: gw_tbl) := by
  have key : ∀ w ∈ gw_tbl, (w.onTables && w.keeps) = true ∨ ∃ ty, w = .arrayClass ty := by
    intro w hw
    have h2 := (List.mem_filter.mp hw).2
    unfold gw_ok at h2
    cases hb : (w.onTables && w.keeps) with
    | true => exact Or.inl rfl
    | false =>
      rw [hb, Bool.false_or] at h2
      cases w <;> first | exact Or.inr ⟨_, rfl⟩ | (exfalso; simp at h2)
  intro w hw
  rcases List.mem_cons.mp hw with rfl | hw
  · exact ⟨hc, key _ hc⟩
  · exact ⟨hw, key _ hw⟩
/-- the world of a memory holds at a state -/
def jz_W (G : jz_G) (m : jz_M) (U : State) : Prop := va_P (gz_D G) (gz_cl G) (jz_w G m) U.heap ∧ va_K (gz_D G) (gz_cl G) (gz_ty G) U ∧ nw_ok U
/-- what a walk knows of its method -/
def jz_C (X : jz_X) (nL : Nat) (cc : ByteArray) (own : String) (ret : Option FieldType) (rm0 : Room) (G : jz_G) : Prop :=
  (xz_p X).tables.exec = Jvm.exec ∧ (xz_c X).code = cc ∧ (xz_c X).maxLocals = nL ∧ (xz_s X).vm.findClass own = some (xz_m X).cls ∧ (∀ w ∈ gw_tbl, w.before (xz_a X) (xz_s X) = true) ∧ va_K (gz_D G) (gz_cl G) (gz_ty G) (xz_s X) ∧ jz_I G ∧ (xz_t X).locks = false ∧ (xz_t X).sig.returnType = ret ∧ xz_R X = rm0 ∧ nw_ok (xz_s X)
/-- THE JUDGEMENT: at pc, with these locals and this stack, over any heap that holds the memory, the walk comes to Q -/
def jz_J (X : jz_X) (nL : Nat) (G : jz_G) (Q : State → Prop) (m : jz_M) (lv : List (Nat × Value)) (pc : Nat) (st : List Value) : Prop :=
  ∀ (H : Heap) (locs : List Loc) (ls : Array Slot), va_P (gz_D G) (gz_cl G) (jz_w G m) H → va_S (jz_F G) (xz_s X).heap H locs → lv_has ls nL lv → W (xz_p X) (xz_l X) (xz_e X) (xz_R X) (xz_s X) (xz_m X) (xz_a X) (xz_b X) (xz_t X) (xz_c X) H locs 0 0 Q (F0 (xz_m X) pc ls st)
def jz_q (X : jz_X) (G : jz_G) (ov : Option Value) (m : jz_M) : State → Prop := MQ (xz_b X) (fun _ st o t => o = .returned ov ∧ jz_W G m t ∧ va_F (jz_F G) st t) (xz_a X) (xz_s X) 0 0 (jz_F G)
/-- A CONTRACT: from a world with m, with these arguments, y returns ov, in a world with m'; nothing else changes, nothing is made -/
def jz_m (l : Launch) (y : MethodName) (cd : Cond) (rm : Room) (G : jz_G) (as : List Value) (m : jz_M) (ov : Option Value) (m' : jz_M) : Prop :=
  Met l y (cd :: gw_tbl) rm (va_Pc as (jz_W G m)) (fun _ st o t => o = .returned ov ∧ jz_W G m' t ∧ va_F (jz_F G) st t) 0 0 (jz_F G)
-- small words for the decompiled functions
def jz_n {α β : Type} (e : α) (k : α → β) : β := k e
theorem jz_ne {α β : Type} {e : α} {k : α → β} {r : β} (h : jz_n e k = r) : ∃ x, x = e ∧ k x = r := ⟨e, rfl, h⟩
theorem jz_b {α β : Type} {o : Option α} {k : α → Option β} {r : β} (h : o.bind k = some r) : ∃ v, o = some v ∧ k v = some r := by
  cases o with
  | none => cases h
  | some v => exact ⟨v, rfl, h⟩
def jz_ix (n : Nat) (i : Int32) : Option Nat := if i < 0 ∨ n ≤ i.toNatClampNeg then none else some i.toNatClampNeg
theorem jz_ix_in {n j : Nat} {i : Int32} (h : jz_ix n i = some j) : vp_in i n ∧ i.toNatClampNeg = j ∧ j < n := by
  unfold jz_ix at h
  by_cases hc : i < 0 ∨ n ≤ i.toNatClampNeg
  · rw [if_pos hc] at h; cases h
  · rw [if_neg hc] at h
    have h2 := Option.some.inj h
    refine ⟨hc, h2, ?_⟩
    have h3 : ¬ n ≤ i.toNatClampNeg := fun q => hc (Or.inr q)
    omega
theorem jz_t {c : Prop} [Decidable c] {α : Type} {a b r : α} (hc : c) (h : (if c then a else b) = r) : a = r := by rw [if_pos hc] at h; exact h
theorem jz_f {c : Prop} [Decidable c] {α : Type} {a b r : α} (hc : ¬ c) (h : (if c then a else b) = r) : b = r := by rw [if_neg hc] at h; exact h
-- locals
def lz_q : List (Nat × Value) → Nat → Option Value
  | [], _ => none
  | (j, v) :: t, i => if j = i then some v else lz_q t i
theorem lz_q_mem {v : Value} {i : Nat} : ∀ {lv : List (Nat × Value)}, lz_q lv i = some v → (i, v) ∈ lv
  | [], h => by simp [lz_q] at h
  | (j, w) :: t, h => by
    unfold lz_q at h
    by_cases hj : j = i
    · rw [if_pos hj] at h; cases h; subst hj; exact List.mem_cons_self
    · rw [if_neg hj] at h; exact List.mem_cons_of_mem _ (lz_q_mem h)
theorem lz_at {ls : Array Slot} {nL : Nat} {lv : List (Nat × Value)} {i : Nat} {v : Value} (hl : lv_has ls nL lv) (h : lz_q lv i = some v) : ls[i]? = some (.val v) := hl.2.2 (i, v) (lz_q_mem h)
def lz_s : List (Nat × Value) → Nat → Value → List (Nat × Value)
  | [], i, v => [(i, v)]
  | (j, w) :: t, i, v => if j = i then (i, v) :: t.filter (fun q => !(q.1 == i)) else (j, w) :: lz_s t i v
theorem lz_s_mem {v : Value} {i : Nat} {q : Nat × Value} : ∀ {lv : List (Nat × Value)}, q ∈ lz_s lv i v → q = (i, v) ∨ (q ∈ lv ∧ q.1 ≠ i)
  | [], h => by simp [lz_s] at h; exact Or.inl h
  | (j, w) :: t, h => by
    unfold lz_s at h
    by_cases hj : j = i
    · rw [if_pos hj] at h
      rcases List.mem_cons.mp h with h | h
      · exact Or.inl h
      · obtain ⟨h1, h2⟩ := List.mem_filter.mp h
        exact Or.inr ⟨List.mem_cons_of_mem _ h1, by simpa using h2⟩
    · rw [if_neg hj] at h
      rcases List.mem_cons.mp h with h | h
      · subst h; exact Or.inr ⟨List.mem_cons_self, hj⟩
      · rcases lz_s_mem h with h | ⟨h1, h2⟩
        · exact Or.inl h
        · exact Or.inr ⟨List.mem_cons_of_mem _ h1, h2⟩
/-- all locals are of one word -/
def lz_1 (lv : List (Nat × Value)) : Bool := lv.all (fun q => q.2.category == 1)
theorem lz_store {ls : Array Slot} {nL : Nat} {lv lv' : List (Nat × Value)} {i : Nat} {v : Value} (h1 : lz_1 lv = true) (hl : lz_s lv i v = lv')
    (h : lv_has ls nL ((i, v) :: lv.filter (fun q => !(q.1 == i) && !(q.1 + 1 == i && q.2.category == 2)))) : lv_has ls nL lv' := by
  subst hl
  refine ⟨h.1, h.2.1, fun q hq => ?_⟩
  rcases lz_s_mem hq with rfl | ⟨h2, h3⟩
  · exact h.2.2 _ List.mem_cons_self
  · refine h.2.2 _ (List.mem_cons_of_mem _ (List.mem_filter.mpr ⟨h2, ?_⟩))
    have h4 := List.all_eq_true.mp h1 q h2
    simp at h4
    simp [h3, h4]

