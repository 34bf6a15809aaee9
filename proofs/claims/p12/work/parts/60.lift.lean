/-! the law's world: the class's cells, the reference's, the one long; contracts of a part of a world are contracts of the whole -/
def lz_E (Z : cz_Z) (k : Nat) (f : Nat → Int32) : va_E := if k < 152 then ez_C Z k f else if k < 173 then ez_M (Z.1, fun j => Z.2.1 (152 + j), Z.2.2) (k - 152) f else .inl (Z.2.2 4, 1, .inr (.inl (fun j => (f j).toInt64)))
def lz_t (Z : cz_Z) : List (ClassId × FieldType) := tz_C Z ++ [(Z.2.2 4, .long)]
def lz_G (Z : cz_Z) : jz_G := (Z.1, kz_cl, lz_t Z, 174, Z.2.1, lz_E Z)
def lz_M (Z : cz_Z) : cz_Z := (Z.1, fun j => Z.2.1 (152 + j), Z.2.2)
/-- a part of a world -/
def jz_sub (G1 G2 : jz_G) (off : Nat) : Prop := gz_D G1 = gz_D G2 ∧ gz_cl G1 = gz_cl G2 ∧ (∀ U, va_K (gz_D G2) (gz_cl G2) (gz_ty G2) U → va_K (gz_D G1) (gz_cl G1) (gz_ty G1) U) ∧ off + gz_N G1 ≤ gz_N G2 ∧ (∀ k, k < gz_N G1 → gz_ad G1 k = gz_ad G2 (off + k)) ∧ ∀ k f, k < gz_N G1 → gz_E G1 k f = gz_E G2 (off + k) f
def jz_part (off : Nat) (m : jz_M) : jz_M := fun k => m (off + k)
def jz_put (off n : Nat) (m m1 : jz_M) : jz_M := fun k => if off ≤ k ∧ k < off + n then m1 (k - off) else m k
theorem jz_sub_P {G1 G2 : jz_G} {off : Nat} (h : jz_sub G1 G2 off) {m : jz_M} {H : Heap} (hP : va_P (gz_D G2) (gz_cl G2) (jz_w G2 m) H) : va_P (gz_D G1) (gz_cl G1) (jz_w G1 (jz_part off m)) H := by
  obtain ⟨h1, h2, h3, h4, h5, h6⟩ := h
  intro k q hk
  obtain ⟨hl, rfl⟩ := jz_w_of hk
  rw [h1, h2, h5 k hl, h6 k _ hl]
  exact hP (off + k) _ (jz_w_at (by omega))
theorem jz_sub_F {G1 G2 : jz_G} {off : Nat} (h : jz_sub G1 G2 off) {q : Nat} (hq : jz_F G1 q) : jz_F G2 q := by
  obtain ⟨k, hk, rfl⟩ := hq
  exact ⟨off + k, by have := h.2.2.2.1; omega, h.2.2.2.2.1 k hk⟩
theorem jz_sub_W {G1 G2 : jz_G} {off : Nat} (h : jz_sub G1 G2 off) {m : jz_M} {U : State} (hW : jz_W G2 m U) : jz_W G1 (jz_part off m) U := ⟨jz_sub_P h hW.1, h.2.2.1 U hW.2.1, hW.2.2⟩
theorem jz_back_P {G1 G2 : jz_G} {off : Nat} (h : jz_sub G1 G2 off) (hI : jz_I G2) {m m1 : jz_M} {H H1 : Heap} (hP : va_P (gz_D G2) (gz_cl G2) (jz_w G2 m) H) (hP1 : va_P (gz_D G1) (gz_cl G1) (jz_w G1 m1) H1) (hk : ∀ q, q < H.size → ¬ jz_F G1 q → H1[q]? = H[q]?) : va_P (gz_D G2) (gz_cl G2) (jz_w G2 (jz_put off (gz_N G1) m m1)) H1 := by
  obtain ⟨h1, h2, h3, h4, h5, h6⟩ := h
  intro k q hq
  obtain ⟨hl, rfl⟩ := jz_w_of hq
  by_cases hin : off ≤ k ∧ k < off + gz_N G1
  · have hj : k - off < gz_N G1 := by omega
    have e : off + (k - off) = k := by omega
    have := hP1 (k - off) _ (jz_w_at hj)
    rw [h1, h2, h5 _ hj, h6 _ _ hj, e] at this
    have e2 : jz_put off (gz_N G1) m m1 k = m1 (k - off) := by unfold jz_put; rw [if_pos hin]
    rw [e2]
    exact this
  · have e2 : jz_put off (gz_N G1) m m1 k = m k := by unfold jz_put; rw [if_neg hin]
    rw [e2]
    have h0 := hP k _ (jz_w_at hl)
    refine h0.kept (hk _ h0.lt ?_)
    rintro ⟨j, hj, hjk⟩
    have hz : gz_ad G2 k = gz_ad G2 (off + j) := by rw [← h5 j hj]; exact hjk
    have := hI k (off + j) hl (by omega) hz
    omega
theorem jz_lift {G1 G2 : jz_G} {off : Nat} (h : jz_sub G1 G2 off) (hI : jz_I G2) {l : Launch} {y : MethodName} {cd : Cond} {rm : Room} {as : List Value} {m m1 : jz_M} {ov : Option Value} (hM : jz_m l y cd rm G1 as (jz_part off m) ov m1) : jz_m l y cd rm G2 as m ov (jz_put off (gz_N G1) m m1) := by
  intro p e ha hc hk s mi args below hf happ hP hK
  obtain ⟨n, o, a1, a2, a3, ⟨ho, hW, hF⟩, L, hL1, hL2⟩ := hM p e ha hc hk s mi args below hf happ ⟨hP.1, jz_sub_W h hP.2⟩ hK
  refine ⟨n, o, a1, a2, a3, ⟨ho, ⟨jz_back_P h hI hP.2.1 hW.1 hF.2, va_K.moved hL1.2.1.alike hP.2.2.1, nw_ok.warm hL1.2.1 hP.2.2.2⟩, hF.1, fun q h1 h2 => hF.2 q h1 (fun z => h2 (jz_sub_F h z))⟩, L, hL1, fun q hq => jz_sub_F h (hL2 q hq)⟩
theorem xt_lift {G1 G2 : jz_G} {off : Nat} (h : jz_sub G1 G2 off) {l : Launch} {y : MethodName} {cd : Cond} {rm : Room} {as : List Value} {m : jz_M} {cls : String} (hM : xt_m l y cd rm G1 as (jz_part off m) cls) : xt_m l y cd rm G2 as m cls := by
  intro p e ha hc hk s mi args below hf happ hP hK
  exact hM p e ha hc hk s mi args below hf happ ⟨hP.1, jz_sub_W h hP.2.1, hP.2.2⟩ hK
theorem lz_subC {Z : cz_Z} : jz_sub (cz_G Z) (lz_G Z) 0 := by
  refine ⟨rfl, rfl, fun U hU => hU.sub [0, 1, 2, 3] rfl, by show 0 + 152 ≤ 174; decide, fun k hk => by rw [Nat.zero_add]; rfl, fun k f hk => ?_⟩
  rw [Nat.zero_add]
  show ez_C Z k f = lz_E Z k f
  unfold lz_E
  have hk' : k < 152 := hk
  rw [if_pos hk']
theorem lz_subM {Z : cz_Z} : jz_sub (mz_G (lz_M Z)) (lz_G Z) 152 := by
  refine ⟨rfl, rfl, fun U hU => hU.sub [0, 1] rfl, by show 152 + 21 ≤ 174; decide, fun k hk => rfl, fun k f hk => ?_⟩
  show ez_M (lz_M Z) k f = lz_E Z (152 + k) f
  unfold lz_E
  have hk' : k < 21 := hk
  rw [if_neg (by omega), if_pos (by omega), show 152 + k - 152 = k by omega]
  rfl
theorem jz_I_sub {G1 G2 : jz_G} {off : Nat} (h : jz_sub G1 G2 off) (hI : jz_I G2) : jz_I G1 := by
  intro i j hi hj e
  have h4 := h.2.2.2.1
  rw [h.2.2.2.2.1 i hi, h.2.2.2.2.1 j hj] at e
  have := hI (off + i) (off + j) (by omega) (by omega) e
  omega
/-! the law's memory out of the class's, the reference's and the one number -/
def lm_ (mc mm : jz_M) (v : Int32) : jz_M := fun k => if k < 152 then mc k else if k < 173 then mm (k - 152) else if k = 173 then (fun j => if j = 0 then v else 0) else fun _ => 0
theorem jz_W_congr {G : jz_G} {m m' : jz_M} (h : ∀ k, k < gz_N G → m k = m' k) : jz_W G m = jz_W G m' := by
  have hw : jz_w G m = jz_w G m' := by
    unfold jz_w
    apply List.map_congr_left
    intro k hk
    rw [h k (List.mem_range.mp hk)]
  funext U
  unfold jz_W
  rw [hw]
theorem jz_m_congr {l : Launch} {y : MethodName} {cd : Cond} {rm : Room} {G : jz_G} {as : List Value} {m1 m2 m1' m2' : jz_M} {ov : Option Value} (h1 : ∀ k, k < gz_N G → m1 k = m1' k) (h2 : ∀ k, k < gz_N G → m2 k = m2' k) (hM : jz_m l y cd rm G as m1 ov m2) : jz_m l y cd rm G as m1' ov m2' := by
  unfold jz_m at hM ⊢
  rw [← jz_W_congr h1, ← jz_W_congr h2]
  exact hM
theorem xt_m_congr {l : Launch} {y : MethodName} {cd : Cond} {rm : Room} {G : jz_G} {as : List Value} {m1 m1' : jz_M} {cls : String} (h1 : ∀ k, k < gz_N G → m1 k = m1' k) (hM : xt_m l y cd rm G as m1 cls) : xt_m l y cd rm G as m1' cls := by
  unfold xt_m at hM ⊢
  rw [← jz_W_congr h1]
  exact hM
theorem lm_C {mc mm : jz_M} {v : Int32} {k : Nat} (h : k < 152) : lm_ mc mm v k = mc k := by unfold lm_; rw [if_pos h]
theorem lm_M {mc mm : jz_M} {v : Int32} {k : Nat} (h : k < 21) : lm_ mc mm v (152 + k) = mm k := by
  unfold lm_
  rw [if_neg (by omega), if_pos (by omega), show 152 + k - 152 = k by omega]
theorem lf_C {Z : cz_Z} (hI : jz_I (lz_G Z)) {l : Launch} {y : MethodName} {cd : Cond} {rm : Room} {as : List Value} {mc mc' : jz_M} (mm : jz_M) (v : Int32) {ov : Option Value} (hM : jz_m l y cd rm (cz_G Z) as mc ov mc') : jz_m l y cd rm (lz_G Z) as (lm_ mc mm v) ov (lm_ mc' mm v) := by
  have h1 : jz_m l y cd rm (cz_G Z) as (jz_part 0 (lm_ mc mm v)) ov mc' := jz_m_congr (fun k hk => by unfold jz_part; rw [Nat.zero_add, lm_C hk]) (fun _ _ => rfl) hM
  refine jz_m_congr (fun _ _ => rfl) (fun k hk => ?_) (jz_lift lz_subC hI h1)
  show jz_put 0 152 (lm_ mc mm v) mc' k = _
  unfold jz_put
  by_cases hc : k < 152
  · rw [if_pos ⟨Nat.zero_le _, by omega⟩, Nat.sub_zero, lm_C hc]
  · rw [if_neg (by omega)]
    unfold lm_
    rw [if_neg hc, if_neg hc]
theorem lf_M {Z : cz_Z} (hI : jz_I (lz_G Z)) {l : Launch} {y : MethodName} {cd : Cond} {rm : Room} {as : List Value} (mc : jz_M) {mm mm' : jz_M} (v : Int32) {ov : Option Value} (hM : jz_m l y cd rm (mz_G (lz_M Z)) as mm ov mm') : jz_m l y cd rm (lz_G Z) as (lm_ mc mm v) ov (lm_ mc mm' v) := by
  have h1 : jz_m l y cd rm (mz_G (lz_M Z)) as (jz_part 152 (lm_ mc mm v)) ov mm' := jz_m_congr (fun k hk => by unfold jz_part; exact (lm_M hk).symm) (fun _ _ => rfl) hM
  refine jz_m_congr (fun _ _ => rfl) (fun k hk => ?_) (jz_lift lz_subM hI h1)
  show jz_put 152 21 (lm_ mc mm v) mm' k = _
  unfold jz_put
  by_cases hc : 152 ≤ k ∧ k < 152 + 21
  · rw [if_pos hc]
    unfold lm_
    rw [if_neg (by omega), if_pos (by omega)]
  · rw [if_neg hc]
    unfold lm_
    by_cases h2 : k < 152
    · rw [if_pos h2, if_pos h2]
    · have h3 : ¬ k < 173 := by omega
      rw [if_neg h2, if_neg h2, if_neg h3, if_neg h3]
theorem lf_X {Z : cz_Z} {l : Launch} {y : MethodName} {cd : Cond} {rm : Room} {as : List Value} {mc : jz_M} (mm : jz_M) (v : Int32) {cls : String} (hM : xt_m l y cd rm (cz_G Z) as mc cls) : xt_m l y cd rm (lz_G Z) as (lm_ mc mm v) cls :=
  xt_lift lz_subC (xt_m_congr (fun k hk => by unfold jz_part; rw [Nat.zero_add, lm_C hk]) hM)
theorem lm_up (mc mm : jz_M) (v x : Int32) : jz_up (lm_ mc mm v) 173 0 x = lm_ mc mm x := by
  funext k j
  unfold jz_up va_up
  by_cases hk : k = 173
  · subst hk
    rw [if_pos rfl]
    have e9 : ∀ w, lm_ mc mm w 173 = fun j => if j = 0 then w else 0 := fun w => rfl
    rw [e9, e9]
    unfold upd
    dsimp only
    by_cases hj : j = 0
    · simp [hj]
    · simp [hj]
  · rw [if_neg hk]
    unfold lm_
    by_cases h1 : k < 152
    · rw [if_pos h1, if_pos h1]
    · rw [if_neg h1, if_neg h1]
      by_cases h2 : k < 173
      · rw [if_pos h2, if_pos h2]
      · rw [if_neg h2, if_neg h2, if_neg hk, if_neg hk]

