/-! the law's start: the two objects and the one long -/
def kl_C (X : jz_X) (nL : Nat) (cc : ByteArray) (own : String) (rm0 : Room) (D : va_G) (cA : Nat → ClassId) (b n0 : Nat) : Prop := (xz_p X).tables.exec = Jvm.exec ∧ (xz_c X).code = cc ∧ (xz_c X).maxLocals = nL ∧ (xz_s X).vm.findClass own = some (xz_m X).cls ∧ (∀ w ∈ gw_tbl, w.before (xz_a X) (xz_s X) = true) ∧ va_K D kz_cl (kz_t cA) (xz_s X) ∧ (xz_s X).heap.size = b + n0 ∧ True ∧ True ∧ xz_R X = rm0 ∧ nw_ok (xz_s X) ∧ True ∧ ka_ok (xz_s X)
theorem kl_newo {X : jz_X} {nL : Nat} {cc : ByteArray} {own : String} {rm0 : Room} {D : va_G} {cA : Nat → ClassId} {b n0 : Nat} {Q : State → Prop} {n : Nat} {E : Nat → va_E} {kc ks : Nat} {lv : List (Nat × Value)} {st : List Value} (pc : Nat) {ix ci Nf : Nat} {Cn : String} {T : u_T} {ty : Nat → FieldType} (fs : List Value) (C : kl_C X nL cc own rm0 D cA b n0) (d : decode cc pc = .ok (.new ix, 3)) (hcl : Cond.classLink own ix Cn ∈ lw_tbl) (hin : Cond.instantiable Cn Nf ∈ lw_tbl) (hini : Cond.initialized Cn ∈ lw_tbl) (hc : kz_cl[ci]? = some (Cn, T, Nf)) (hw : ∀ w ∈ u_ws Cn T Nf, w ∈ gw_tbl) (hty : ∀ k, k < Nf → parseFieldDescriptor (T k).2.2.1 = some (ty k)) (hfs : ∀ j, j < Nf → defaultValue (ty j) = vp_V fs j) (hkc : kc + 1 ≤ rm0.cells) (hks : ks + Nf ≤ rm0.slots) (hkn : n = n0 + kc) (k : kz_J X nL D b Q (n + 1) (va_up E n (.inr (ci, fs))) (kc + 1) (ks + Nf) lv (pc + 3) (.ref (b + n) :: st)) : kz_J X nL D b Q n E kc ks lv pc st := fun H locs ls hP hS hl => by
  have hR := C.2.2.2.2.2.2.2.2.2.1
  refine kz_sz (fun hup => ?_)
  have hz := kz_size hP hS C.2.2.2.2.2.2.1 hkn hup
  have hKn := C.2.2.2.2.2.1.1 ci _ hc
  refine W.newcK C.1 C.2.1 C.2.2.2.1 (C.2.2.2.2.1 _ (gw_in hcl (by first | rfl | simp [gw_ok, Cond.onTables, Cond.keeps, Cond.steady]))) (C.2.2.2.2.1 _ (gw_in hin (by first | rfl | simp [gw_ok, Cond.onTables, Cond.keeps, Cond.steady]))) (C.2.2.2.2.1 _ (gw_in hini (by first | rfl | simp [gw_ok, Cond.onTables, Cond.keeps, Cond.steady]))) (g := F0 (xz_m X) pc ls st) rfl d (by rw [hR]; exact hkc) (by rw [hR]; exact hks) hKn.2.1 hz (fun H1 kC hkC e1 z1 o1 => ?_)
  have he : va_at D kz_cl (b + n, .inr (ci, fs)) H1 := ⟨_, hc, (u_born ty C.2.2.2.2.1 hw hKn hkC e1 hty).to hfs⟩
  refine W.eq (g2 := F0 (xz_m X) (pc + 3) ls (.ref (b + n) :: st)) rfl (k H1 locs ls (kz_grow hP hz he (by rw [hz]; exact o1)) (kz_Sn hS (by omega) (by rw [hz]; exact o1)) hl)
theorem kl_dup {X : jz_X} {nL : Nat} {cc : ByteArray} {own : String} {rm0 : Room} {D : va_G} {cA : Nat → ClassId} {b n0 : Nat} {Q : State → Prop} {n : Nat} {E : Nat → va_E} {kc ks : Nat} {lv : List (Nat × Value)} {st : List Value} (pc : Nat) {v : Value} (C : kl_C X nL cc own rm0 D cA b n0) (d : decode cc pc = .ok (.dup, 1)) (h1 : v.category = 1) (k : kz_J X nL D b Q n E kc ks lv (pc + 1) (v :: v :: st)) : kz_J X nL D b Q n E kc ks lv pc (v :: st) := fun H locs ls hP hS hl => lv_dup C.1 C.2.1 d h1 (k H locs ls hP hS hl)
theorem kl_iconst {X : jz_X} {nL : Nat} {cc : ByteArray} {own : String} {rm0 : Room} {D : va_G} {cA : Nat → ClassId} {b n0 : Nat} {Q : State → Prop} {n : Nat} {E : Nat → va_E} {kc ks : Nat} {lv : List (Nat × Value)} {st : List Value} (pc : Nat) {i : Int} (v : Int32) (C : kl_C X nL cc own rm0 D cA b n0) (d : decode cc pc = .ok (.iconst i, 1)) (hv : Int32.ofInt i = v) (k : kz_J X nL D b Q n E kc ks lv (pc + 1) (.int v :: st)) : kz_J X nL D b Q n E kc ks lv pc st := fun H locs ls hP hS hl => lv_iconst C.1 C.2.1 d hv (k H locs ls hP hS hl)
theorem kl_newl {X : jz_X} {nL : Nat} {cc : ByteArray} {own : String} {rm0 : Room} {D : va_G} {cA : Nat → ClassId} {b n0 : Nat} {Q : State → Prop} {n : Nat} {E : Nat → va_E} {kc ks : Nat} {lv : List (Nat × Value)} {st : List Value} (pc : Nat) {x : Int32} (len : Nat) (C : kl_C X nL cc own rm0 D cA b n0) (d : decode cc pc = .ok (.newarray .long, 2)) (hJ : (xz_s X).vm.findClass ("[" ++ FieldType.long.toString) = some (cA 4)) (hA : Cond.arrayClass .long ∈ lw_tbl) (hx : ¬ x < 0) (hN : x.toNatClampNeg = len) (hb : len * 8 ≤ 536870912) (hc : kc + 1 ≤ rm0.cells) (hs : ks + len ≤ rm0.slots) (hkn : n = n0 + kc) (k : kz_J X nL D b Q (n + 1) (va_up E n (.inl (cA 4, len, .inr (.inl (fun _ => 0))))) (kc + 1) (ks + len) lv (pc + 2) (.ref (b + n) :: st)) : kz_J X nL D b Q n E kc ks lv pc (.int x :: st) := fun H locs ls hP hS hl => by
  have hR := C.2.2.2.2.2.2.2.2.2.1
  refine kz_sz (fun hup => ?_)
  have hz := kz_size hP hS C.2.2.2.2.2.2.1 hkn hup
  refine va_newaK (atype := .long) (N := len) C.1 C.2.1 (C.2.2.2.2.1 _ (gw_in hA (by first | rfl | simp [gw_ok, Cond.onTables, Cond.keeps, Cond.steady]))) (g := F0 (xz_m X) pc ls (.int x :: st)) rfl d rfl hx hN (by first | exact hb | exact Nat.le_trans (Nat.mul_le_mul_left _ (by decide)) hb) (by rw [hR]; exact hc) (by rw [hR]; exact hs) hz (fun H1 cB e1 z1 o1 hAr hNm => ?_)
  have hcB : cB = cA 4 := Option.some.inj (hNm.symm.trans hJ)
  subst hcB
  refine W.eq (g2 := F0 (xz_m X) (pc + 2) ls (.ref (b + n) :: st)) rfl (k H1 locs ls (kz_grow hP hz e1 (by rw [hz]; exact o1)) (kz_Sn hS (by omega) (by rw [hz]; exact o1)) hl)
theorem kl_init {X : jz_X} {nL : Nat} {cc : ByteArray} {own : String} {rm0 : Room} {D : va_G} {cA : Nat → ClassId} {b n0 : Nat} {Q : State → Prop} {n : Nat} {E : Nat → va_E} {kc ks : Nat} {lv : List (Nat × Value)} {st : List Value} (pc : Nat) {ix a mc ms n' maxL : Nat} {E' : Nat → va_E} {y : MethodName} {cd : Cond} {bytes : ByteArray} {rm : Room} (C : kl_C X nL cc own rm0 D cA b n0) (d : decode cc pc = .ok (.invokespecial ix, 3)) (hM : kz_m (xz_l X) y cd rm D cA b [.ref a] n E n' E' mc ms) (hs : cz_S cd y bytes maxL none 0) (hi : Cond.instanceMethod y ∈ lw_tbl) (hy1 : y.name = "<init>") (hlink : Cond.methodLink own ix y ∈ lw_tbl) (hrm : rm.cells = mc ∧ rm.slots = ms) (hR : kr_ok rm maxL rm0 = true) (hcs : kc + mc ≤ rm0.cells ∧ ks + ms ≤ rm0.slots) (hkn : n = n0 + kc) (hwt : (st.map fun v => v.category).sum ≤ 8) (k : kz_J X nL D b Q n' E' (kc + mc) (ks + ms) lv (pc + 3) st) : kz_J X nL D b Q n E kc ks lv pc (.ref a :: st) := fun H locs ls hP hS hl => by
  have hRe := C.2.2.2.2.2.2.2.2.2.1
  have hR2 := kr_use hR
  rw [← hRe] at hR2 hcs
  obtain ⟨rfl, hcm, him, hy, hnn⟩ := hs
  have hc2 : Cond.code y bytes maxL none ∈ gw_tbl := gw_in hcm (by first | rfl | simp [gw_ok, Cond.onTables, Cond.keeps, Cond.steady])
  refine kz_sz (fun hup => ?_)
  have hz := kz_size hP hS C.2.2.2.2.2.2.1 hkn hup
  have hrun := va_runI (As := []) (rest := st) (g := F0 (xz_m X) pc ls (.ref a :: st)) (b := a) (H := H) (locs := locs) (cells := kc) (slots := ks) (R := xz_R X) (below := xz_b X) (e := xz_e X) (meth := xz_t X) ⟨C.1, C.2.1, C.2.2.1, C.2.2.2.1, C.2.2.2.2.1⟩ hM
    ⟨callB_of 0 C.2.2.2.2.1 (gw_good hc2) rfl hrm.1 hrm.2 (C.2.2.2.2.1 _ (gw_in him (by first | rfl | simp [gw_ok, Cond.onTables, Cond.keeps, Cond.steady]))) (C.2.2.2.2.1 _ (gw_in hlink (by first | rfl | simp [gw_ok, Cond.onTables, Cond.keeps, Cond.steady]))) ⟨hy.1, hy.2, hnn⟩ hR2, hy1, C.2.2.2.2.1 _ (gw_in hi (by first | rfl | simp [gw_ok, Cond.onTables, Cond.keeps, Cond.steady]))⟩
    ⟨kz_blind, fun U hU hW => ⟨rfl, by rw [hU]; exact hP, va_K.moved hW.alike C.2.2.2.2.2.1, nw_ok.warm hW C.2.2.2.2.2.2.2.2.2.2.1, ka_ok.moved hW.alike C.2.2.2.2.2.2.2.2.2.2.2.2, by rw [hU]; exact hz⟩⟩ rfl rfl hl.1 rfl (lv_room hwt) d hcs
  intro T hT X0
  obtain ⟨v, st₀, t, T', L, h0, X', hL, e1, e2, ⟨hv, hw, hz1, hk⟩, go⟩ := hrun T hT X0
  cases hv
  rw [h0] at hz1 hk
  obtain ⟨t2, a1, b1⟩ := k T'.heap (locs ++ L) ls (by rw [e1]; exact hw.1)
    ⟨Nat.le_trans hS.1 (by rw [e1]; exact hz1), fun q h1 h2 => by rw [e1, hk q (Nat.lt_of_lt_of_le h1 hS.1) h2]; exact hS.2.1 q h1 h2, fun q hq => by
      rcases List.mem_append.mp hq with h | h
      · exact hS.2.2 q h
      · exact hL q h⟩ hl T' rfl X'
  exact ⟨t2, go t2 a1, b1⟩
theorem kl_astore_n {X : jz_X} {nL : Nat} {cc : ByteArray} {own : String} {rm0 : Room} {D : va_G} {cA : Nat → ClassId} {b n0 : Nat} {Q : State → Prop} {n : Nat} {E : Nat → va_E} {kc ks : Nat} {lv : List (Nat × Value)} {st : List Value} (pc : Nat) {i : Fin 4} {x : Nat} (lv' : List (Nat × Value)) (C : kl_C X nL cc own rm0 D cA b n0) (d : decode cc pc = .ok (.astore_n i, 1)) (h1 : lz_1 lv = true) (hn : (i : Nat) < nL) (hq : lz_s lv i (.ref x) = lv') (k : kz_J X nL D b Q n E kc ks lv' (pc + 1) st) : kz_J X nL D b Q n E kc ks lv pc (.ref x :: st) := fun H locs ls hP hS hl => lv_astore_n C.1 C.2.1 d rfl hl hn rfl (fun ls2 hl2 => k H locs ls2 hP hS (lz_store h1 hq hl2))
theorem kl_istore {X : jz_X} {nL : Nat} {cc : ByteArray} {own : String} {rm0 : Room} {D : va_G} {cA : Nat → ClassId} {b n0 : Nat} {Q : State → Prop} {n : Nat} {E : Nat → va_E} {kc ks : Nat} {lv : List (Nat × Value)} {st : List Value} (pc : Nat) {i : Nat} {x : Int32} (lv' : List (Nat × Value)) (C : kl_C X nL cc own rm0 D cA b n0) (d : decode cc pc = .ok (.istore i, 2)) (h1 : lz_1 lv = true) (hn : i < nL) (hq : lz_s lv i (.int x) = lv') (k : kz_J X nL D b Q n E kc ks lv' (pc + 2) st) : kz_J X nL D b Q n E kc ks lv pc (.int x :: st) := fun H locs ls hP hS hl => lv_istore C.1 C.2.1 d hl hn rfl (fun ls2 hl2 => k H locs ls2 hP hS (lz_store h1 hq hl2))
def m0_M : jz_M := fun k => if k = 2 then (upd (upd (upd (upd (upd (upd (fun _ => 0) 0 1) 1 1) 2 1) 3 1) 4 1) 5 1) else fun _ => 0
def fe_ (D : va_G) (cA : Nat → ClassId) (b : Nat) : Nat → va_E := va_up (eb_Mo cA b 153 152 (va_up (tc_C D cA b) 152 (.inr (6, [.int 0, .null, .null, .null, .null, .null, .null, .null, .null, .null, .null, .null, .null, .null, .null, .null, .null, .null, .int 0, .null, .null, .null])))) 173 (.inl (cA 4, 1, .inr (.inl (fun _ => 0))))
theorem fe_at {D : va_G} {cA : Nat → ClassId} {b : Nat} {k : Nat} (hk : k < 174) : fe_ D cA b k = lz_E (D, fun k => b + k, cA) k (lm_ m0_C m0_M 0 k) := by
  unfold fe_
  by_cases h3 : k = 173
  · subst h3; rw [va_up_self]; show _ = Sum.inl (cA 4, 1, Sum.inr (Sum.inl (fun j => (if j = 0 then (0 : Int32) else 0).toInt64)))
    have : (fun j : Nat => (if j = 0 then (0 : Int32) else 0).toInt64) = fun _ => 0 := by funext j; by_cases h : j = 0 <;> simp [h]
    rw [this]
  rw [va_up_ne _ _ h3]
  by_cases h1 : k < 152
  · rw [eb_Mo_lo (by decide) (by omega) (by omega), va_up_ne _ _ (by omega), lm_C h1]; unfold lz_E; rw [if_pos h1]; rfl
  rcases (show k = 152 ∨ k = 153 ∨ k = 154 ∨ k = 155 ∨ k = 156 ∨ k = 157 ∨ k = 158 ∨ k = 159 ∨ k = 160 ∨ k = 161 ∨ k = 162 ∨ k = 163 ∨ k = 164 ∨ k = 165 ∨ k = 166 ∨ k = 167 ∨ k = 168 ∨ k = 169 ∨ k = 170 ∨ k = 171 ∨ k = 172 by omega) with rfl | rfl | rfl | rfl | rfl | rfl | rfl | rfl | rfl | rfl | rfl | rfl | rfl | rfl | rfl | rfl | rfl | rfl | rfl | rfl | rfl
  · exact (eb_Mo_ob (by decide)).trans rfl
  · exact (eb_Mo_0 (by decide)).trans rfl
  · exact (eb_Mo_1 (by decide)).trans rfl
  · exact (eb_Mo_2 (by decide)).trans rfl
  · exact (eb_Mo_3 (by decide)).trans rfl
  · exact (eb_Mo_4 (by decide)).trans rfl
  · exact (eb_Mo_5 (by decide)).trans rfl
  · exact (eb_Mo_6 (by decide)).trans rfl
  · exact (eb_Mo_7 (by decide)).trans rfl
  · exact (eb_Mo_8 (by decide)).trans rfl
  · exact (eb_Mo_9 (by decide)).trans rfl
  · exact (eb_Mo_10 (by decide)).trans rfl
  · exact (eb_Mo_11 (by decide)).trans rfl
  · exact (eb_Mo_12 (by decide)).trans rfl
  · exact (eb_Mo_13 (by decide)).trans rfl
  · exact (eb_Mo_14 (by decide)).trans rfl
  · exact (eb_Mo_15 (by decide)).trans rfl
  · exact (eb_Mo_16 (by decide)).trans rfl
  · exact (eb_Mo_17 (by decide)).trans rfl
  · exact (eb_Mo_18 (by decide)).trans rfl
  · exact (eb_Mo_19 (by decide)).trans rfl
