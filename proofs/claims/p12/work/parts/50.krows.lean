/-! worlds that grow: n cells at b, b + 1 .. -/
def kz_w (b n : Nat) (E : Nat → va_E) : va_W := (List.range n).map (fun k => (b + k, E k))
def kz_t (cA : Nat → ClassId) : List (ClassId × FieldType) := [(cA 0, .int), (cA 1, .boolean), (cA 2, .object "AreaRouters$Hearing"), (cA 3, .object "AreaRouters$Base")]
def ka_ok (U : State) : Prop := va_AO "AreaRouters$Hearing" U ∧ va_AO "AreaRouters$Base" U
theorem ka_ok.moved {u U : State} (hvm : u.vm.Alike U.vm) (h : ka_ok u) : ka_ok U := ⟨h.1.moved hvm, h.2.moved hvm⟩
def kz_A (b : Nat) : Nat → Prop := fun q => b ≤ q
def kz_W (D : va_G) (cA : Nat → ClassId) (b n : Nat) (E : Nat → va_E) (U : State) : Prop := va_P D kz_cl (kz_w b n E) U.heap ∧ va_K D kz_cl (kz_t cA) U ∧ nw_ok U ∧ ka_ok U ∧ U.heap.size = b + n
def kz_C (X : jz_X) (nL : Nat) (cc : ByteArray) (own : String) (rm0 : Room) (D : va_G) (cA : Nat → ClassId) (b n0 : Nat) : Prop := (xz_p X).tables.exec = Jvm.exec ∧ (xz_c X).code = cc ∧ (xz_c X).maxLocals = nL ∧ (xz_s X).vm.findClass own = some (xz_m X).cls ∧ (∀ w ∈ gw_tbl, w.before (xz_a X) (xz_s X) = true) ∧ va_K D kz_cl (kz_t cA) (xz_s X) ∧ (xz_s X).heap.size = b + n0 ∧ (xz_t X).locks = false ∧ (xz_t X).sig.returnType = none ∧ xz_R X = rm0 ∧ nw_ok (xz_s X) ∧ (xz_t X).name = "<init>" ∧ ka_ok (xz_s X)
def kz_J (X : jz_X) (nL : Nat) (D : va_G) (b : Nat) (Q : State → Prop) (n : Nat) (E : Nat → va_E) (kc ks : Nat) (lv : List (Nat × Value)) (pc : Nat) (st : List Value) : Prop := ∀ (H : Heap) (locs : List Loc) (ls : Array Slot), va_P D kz_cl (kz_w b n E) H → va_S (kz_A b) (xz_s X).heap H locs → lv_has ls nL lv → W (xz_p X) (xz_l X) (xz_e X) (xz_R X) (xz_s X) (xz_m X) (xz_a X) (xz_b X) (xz_t X) (xz_c X) H locs kc ks Q (F0 (xz_m X) pc ls st)
def kz_q (X : jz_X) (D : va_G) (cA : Nat → ClassId) (b n : Nat) (E : Nat → va_E) (mc ms : Nat) : State → Prop := MQ (xz_b X) (fun _ st o t => o = .returned none ∧ kz_W D cA b n E t ∧ va_F (kz_A b) st t) (xz_a X) (xz_s X) mc ms (kz_A b)
def kz_m (l : Launch) (y : MethodName) (cd : Cond) (rm : Room) (D : va_G) (cA : Nat → ClassId) (b : Nat) (as : List Value) (n : Nat) (E : Nat → va_E) (n' : Nat) (E' : Nat → va_E) (mc ms : Nat) : Prop := Met l y (cd :: gw_tbl) rm (va_Pc as (kz_W D cA b n E)) (fun _ st o t => o = .returned none ∧ kz_W D cA b n' E' t ∧ va_F (kz_A b) st t) mc ms (kz_A b)
theorem kz_at {b n : Nat} {E : Nat → va_E} {k : Nat} (h : k < n) : (kz_w b n E)[k]? = some (b + k, E k) := by simp [kz_w, List.getElem?_range h]
theorem kz_of {b n : Nat} {E : Nat → va_E} {k : Nat} {q : Nat × va_E} (h : (kz_w b n E)[k]? = some q) : k < n ∧ q = (b + k, E k) := by
  have hl : k < n := by
    have := (List.getElem?_eq_some_iff.mp h).1
    simpa [kz_w] using this
  exact ⟨hl, (Option.some.inj ((kz_at hl).symm.trans h)).symm⟩
theorem kz_D {b n : Nat} {E : Nat → va_E} : va_D (kz_A b) (kz_w b n E) := by
  refine ⟨fun i j x y hx hy hxy => ?_, fun k q hk => ?_⟩
  · obtain ⟨h1, rfl⟩ := kz_of hx
    obtain ⟨h2, rfl⟩ := kz_of hy
    have : b + i = b + j := hxy
    omega
  · obtain ⟨h1, rfl⟩ := kz_of hk
    exact Nat.le_add_right b k
theorem kz_set {b n : Nat} {E : Nat → va_E} {k : Nat} {e : va_E} : (kz_w b n E).set k (b + k, e) = kz_w b n (va_up E k e) := by
  apply List.ext_getElem?
  intro j
  by_cases hl : j < n
  · rw [kz_at hl]
    by_cases hj : j = k
    · subst hj
      rw [List.getElem?_set_self (by simpa [kz_w] using hl), va_up_self]
    · rw [List.getElem?_set_ne (Ne.symm hj), kz_at hl, va_up_ne _ _ hj]
  · rw [List.getElem?_eq_none (by simp [kz_w]; omega), List.getElem?_eq_none (by simp [kz_w]; omega)]
theorem kz_push {b n : Nat} {E : Nat → va_E} {e : va_E} : kz_w b n E ++ [(b + n, e)] = kz_w b (n + 1) (va_up E n e) := by
  simp only [kz_w, List.range_succ, List.map_append, List.map_cons, List.map_nil, va_up_self]
  congr 1
  apply List.map_congr_left
  intro k hk
  have : k < n := List.mem_range.mp hk
  rw [va_up_ne _ _ (by omega)]
theorem kz_congr {b n : Nat} {E E' : Nat → va_E} (h : ∀ k, k < n → E k = E' k) : kz_w b n E = kz_w b n E' := by
  apply List.map_congr_left
  intro k hk
  rw [h k (List.mem_range.mp hk)]
/-- a cell more -/
theorem kz_grow {D : va_G} {b n : Nat} {E : Nat → va_E} {e : va_E} {H H1 : Heap} (hP : va_P D kz_cl (kz_w b n E) H) (hz : H.size = b + n) (he : va_at D kz_cl (b + n, e) H1) (ho : ∀ q, q < H.size → H1[q]? = H[q]?) : va_P D kz_cl (kz_w b (n + 1) (va_up E n e)) H1 := by
  rw [← kz_push]
  refine va_P.app (hP.kept (fun k q hk => ho q.1 (hP k q hk).lt)) (fun k q hk => ?_)
  have h0 : k < 1 := (List.getElem?_eq_some_iff.mp hk).1
  rw [show k = 0 by omega] at hk
  cases hk
  exact he
theorem kz_sz {p : Program} {l : Launch} {e : Env} {R : Room} {s : State} {m : MethodId} {args : Array Value} {below : List Frame} {meth : Method} {c : Code} {H : Heap} {locs : List Loc} {cells slots : Nat} {Q : State → Prop} {g : JFrame} (h : H.size ≤ s.heap.size + cells → W p l e R s m args below meth c H locs cells slots Q g) : W p l e R s m args below meth c H locs cells slots Q g := fun T hT X => h (by rw [← hT]; exact X.same.2.2.1) T hT X
theorem kz_size {D : va_G} {b n n0 kc : Nat} {E : Nat → va_E} {H H0 : Heap} {locs : List Loc} (hP : va_P D kz_cl (kz_w b n E) H) (hS : va_S (kz_A b) H0 H locs) (h0 : H0.size = b + n0) (hkn : n = n0 + kc) (hup : H.size ≤ H0.size + kc) : H.size = b + n := by
  have h1 := hS.1
  by_cases hn : n = 0
  · omega
  · have := (hP (n - 1) _ (kz_at (by omega))).lt
    have h2 : b + (n - 1) < H.size := this
    omega
theorem kz_Sn {b : Nat} {H0 H H1 : Heap} {locs : List Loc} (hS : va_S (kz_A b) H0 H locs) (hz : H.size ≤ H1.size) (ho : ∀ q, q < H.size → H1[q]? = H[q]?) : va_S (kz_A b) H0 H1 locs := ⟨Nat.le_trans hS.1 hz, fun q h1 h2 => (ho q (Nat.lt_of_lt_of_le h1 hS.1)).trans (hS.2.1 q h1 h2), hS.2.2⟩
theorem kr_iconst {X : jz_X} {nL : Nat} {cc : ByteArray} {own : String} {rm0 : Room} {D : va_G} {cA : Nat → ClassId} {b n0 : Nat} {Q : State → Prop} {n : Nat} {E : Nat → va_E} {kc ks : Nat} {lv : List (Nat × Value)} {st : List Value} (pc : Nat) {i : Int} (v : Int32) (C : kz_C X nL cc own rm0 D cA b n0) (d : decode cc pc = .ok (.iconst i, 1)) (hv : Int32.ofInt i = v) (k : kz_J X nL D b Q n E kc ks lv (pc + 1) (.int v :: st)) : kz_J X nL D b Q n E kc ks lv pc st := fun H locs ls hP hS hl => lv_iconst C.1 C.2.1 d hv (k H locs ls hP hS hl)
theorem kr_bipush {X : jz_X} {nL : Nat} {cc : ByteArray} {own : String} {rm0 : Room} {D : va_G} {cA : Nat → ClassId} {b n0 : Nat} {Q : State → Prop} {n : Nat} {E : Nat → va_E} {kc ks : Nat} {lv : List (Nat × Value)} {st : List Value} (pc : Nat) {i : Int} (v : Int32) (C : kz_C X nL cc own rm0 D cA b n0) (d : decode cc pc = .ok (.bipush i, 2)) (hv : (Int8.ofInt i).toInt32 = v) (k : kz_J X nL D b Q n E kc ks lv (pc + 2) (.int v :: st)) : kz_J X nL D b Q n E kc ks lv pc st := fun H locs ls hP hS hl => lv_bipush C.1 C.2.1 d hv (k H locs ls hP hS hl)
theorem kr_sipush {X : jz_X} {nL : Nat} {cc : ByteArray} {own : String} {rm0 : Room} {D : va_G} {cA : Nat → ClassId} {b n0 : Nat} {Q : State → Prop} {n : Nat} {E : Nat → va_E} {kc ks : Nat} {lv : List (Nat × Value)} {st : List Value} (pc : Nat) {i : Int} (v : Int32) (C : kz_C X nL cc own rm0 D cA b n0) (d : decode cc pc = .ok (.sipush i, 3)) (hv : (Int16.ofInt i).toInt32 = v) (k : kz_J X nL D b Q n E kc ks lv (pc + 3) (.int v :: st)) : kz_J X nL D b Q n E kc ks lv pc st := fun H locs ls hP hS hl => lv_sipush C.1 C.2.1 d hv (k H locs ls hP hS hl)
theorem kr_iload_n {X : jz_X} {nL : Nat} {cc : ByteArray} {own : String} {rm0 : Room} {D : va_G} {cA : Nat → ClassId} {b n0 : Nat} {Q : State → Prop} {n : Nat} {E : Nat → va_E} {kc ks : Nat} {lv : List (Nat × Value)} {st : List Value} (pc : Nat) {i : Fin 4} {x : Int32} (C : kz_C X nL cc own rm0 D cA b n0) (d : decode cc pc = .ok (.iload_n i, 1)) (hq : lz_q lv i = some (.int x)) (k : kz_J X nL D b Q n E kc ks lv (pc + 1) (.int x :: st)) : kz_J X nL D b Q n E kc ks lv pc st := fun H locs ls hP hS hl => lv_iload_n C.1 C.2.1 d rfl (lz_at hl hq) (k H locs ls hP hS hl)
theorem kr_aload_n {X : jz_X} {nL : Nat} {cc : ByteArray} {own : String} {rm0 : Room} {D : va_G} {cA : Nat → ClassId} {b n0 : Nat} {Q : State → Prop} {n : Nat} {E : Nat → va_E} {kc ks : Nat} {lv : List (Nat × Value)} {st : List Value} (pc : Nat) {i : Fin 4} {x : Nat} (C : kz_C X nL cc own rm0 D cA b n0) (d : decode cc pc = .ok (.aload_n i, 1)) (hq : lz_q lv i = some (.ref x)) (k : kz_J X nL D b Q n E kc ks lv (pc + 1) (.ref x :: st)) : kz_J X nL D b Q n E kc ks lv pc st := fun H locs ls hP hS hl => lv_aload_n C.1 C.2.1 d rfl (lz_at hl hq) (k H locs ls hP hS hl)
theorem kr_istore_n {X : jz_X} {nL : Nat} {cc : ByteArray} {own : String} {rm0 : Room} {D : va_G} {cA : Nat → ClassId} {b n0 : Nat} {Q : State → Prop} {n : Nat} {E : Nat → va_E} {kc ks : Nat} {lv : List (Nat × Value)} {st : List Value} (pc : Nat) {i : Fin 4} {x : Int32} (lv' : List (Nat × Value)) (C : kz_C X nL cc own rm0 D cA b n0) (d : decode cc pc = .ok (.istore_n i, 1)) (h1 : lz_1 lv = true) (hn : (i : Nat) < nL) (hq : lz_s lv i (.int x) = lv') (k : kz_J X nL D b Q n E kc ks lv' (pc + 1) st) : kz_J X nL D b Q n E kc ks lv pc (.int x :: st) := fun H locs ls hP hS hl => lv_istore_n C.1 C.2.1 d rfl hl hn rfl (fun ls2 hl2 => k H locs ls2 hP hS (lz_store h1 hq hl2))
theorem kr_iinc {X : jz_X} {nL : Nat} {cc : ByteArray} {own : String} {rm0 : Room} {D : va_G} {cA : Nat → ClassId} {b n0 : Nat} {Q : State → Prop} {n : Nat} {E : Nat → va_E} {kc ks : Nat} {lv : List (Nat × Value)} {st : List Value} (pc : Nat) {i : Nat} {z : Int} {x : Int32} {v : Int32} (lv' : List (Nat × Value)) (C : kz_C X nL cc own rm0 D cA b n0) (d : decode cc pc = .ok (.iinc i z, 3)) (h1 : lz_1 lv = true) (hn : i < nL) (hx : lz_q lv i = some (.int x)) (hv : v = x + Int32.ofInt z) (hq : lz_s lv i (.int v) = lv') (k : kz_J X nL D b Q n E kc ks lv' (pc + 3) st) : kz_J X nL D b Q n E kc ks lv pc st := fun H locs ls hP hS hl => by
  obtain ⟨q, hk⟩ := lz_mem_at hx
  exact lv_iinc C.1 C.2.1 d hl hk hv.symm hn rfl (fun ls2 hl2 => k H locs ls2 hP hS (lz_store h1 hq hl2))
theorem kr_dup {X : jz_X} {nL : Nat} {cc : ByteArray} {own : String} {rm0 : Room} {D : va_G} {cA : Nat → ClassId} {b n0 : Nat} {Q : State → Prop} {n : Nat} {E : Nat → va_E} {kc ks : Nat} {lv : List (Nat × Value)} {st : List Value} (pc : Nat) {v : Value} (C : kz_C X nL cc own rm0 D cA b n0) (d : decode cc pc = .ok (.dup, 1)) (h1 : v.category = 1) (k : kz_J X nL D b Q n E kc ks lv (pc + 1) (v :: v :: st)) : kz_J X nL D b Q n E kc ks lv pc (v :: st) := fun H locs ls hP hS hl => lv_dup C.1 C.2.1 d h1 (k H locs ls hP hS hl)
theorem kr_goto {X : jz_X} {nL : Nat} {cc : ByteArray} {own : String} {rm0 : Room} {D : va_G} {cA : Nat → ClassId} {b n0 : Nat} {Q : State → Prop} {n : Nat} {E : Nat → va_E} {kc ks : Nat} {lv : List (Nat × Value)} {st : List Value} (pc : Nat) {off : Int} (tgt : Nat) (C : kz_C X nL cc own rm0 D cA b n0) (d : decode cc pc = .ok (.goto off, 3)) (ht : (pc : Int) + off = (tgt : Int)) (k : kz_J X nL D b Q n E kc ks lv tgt st) : kz_J X nL D b Q n E kc ks lv pc st := fun H locs ls hP hS hl => lv_goto C.1 C.2.1 d ht (k H locs ls hP hS hl)
theorem kr_icmp_ge {X : jz_X} {nL : Nat} {cc : ByteArray} {own : String} {rm0 : Room} {D : va_G} {cA : Nat → ClassId} {b n0 : Nat} {Q : State → Prop} {n : Nat} {E : Nat → va_E} {kc ks : Nat} {lv : List (Nat × Value)} {st : List Value} (pc : Nat) {x y : Int32} {off : Int} (tgt : Nat) (C : kz_C X nL cc own rm0 D cA b n0) (d : decode cc pc = .ok (.if_icmp .ge off, 3)) (ht : (pc : Int) + off = (tgt : Int)) (kt : y ≤ x → kz_J X nL D b Q n E kc ks lv tgt st) (kf : ¬ y ≤ x → kz_J X nL D b Q n E kc ks lv (pc + 3) st) : kz_J X nL D b Q n E kc ks lv pc (.int y :: .int x :: st) := fun H locs ls hP hS hl => lv_icmp_ge C.1 C.2.1 d ht (fun q => kt q H locs ls hP hS hl) (fun q => kf q H locs ls hP hS hl)
theorem kr_newi {X : jz_X} {nL : Nat} {cc : ByteArray} {own : String} {rm0 : Room} {D : va_G} {cA : Nat → ClassId} {b n0 : Nat} {Q : State → Prop} {n : Nat} {E : Nat → va_E} {kc ks : Nat} {lv : List (Nat × Value)} {st : List Value} (pc : Nat) {x : Int32} (len : Nat) (C : kz_C X nL cc own rm0 D cA b n0) (d : decode cc pc = .ok (.newarray .int, 2)) (hA : Cond.arrayClass .int ∈ lw_tbl) (hx : ¬ x < 0) (hN : x.toNatClampNeg = len) (hb : len * 4 ≤ 536870912) (hc : kc + 1 ≤ rm0.cells) (hs : ks + len ≤ rm0.slots) (hkn : n = n0 + kc) (k : kz_J X nL D b Q (n + 1) (va_up E n (.inl (cA 0, len, .inl (fun _ => 0)))) (kc + 1) (ks + len) lv (pc + 2) (.ref (b + n) :: st)) : kz_J X nL D b Q n E kc ks lv pc (.int x :: st) := fun H locs ls hP hS hl => by
  have hR := C.2.2.2.2.2.2.2.2.2.1
  refine kz_sz (fun hup => ?_)
  have hz := kz_size hP hS C.2.2.2.2.2.2.1 hkn hup
  refine va_newaK (atype := .int) (N := len) C.1 C.2.1 (C.2.2.2.2.1 _ (gw_in hA (by first | rfl | simp [gw_ok, Cond.onTables, Cond.keeps, Cond.steady]))) (g := F0 (xz_m X) pc ls (.int x :: st)) rfl d rfl hx hN (by first | exact hb | exact Nat.le_trans (Nat.mul_le_mul_left _ (by decide)) hb) (by rw [hR]; exact hc) (by rw [hR]; exact hs) hz (fun H1 cB e1 z1 o1 hAr hNm => ?_)
  have hcB : cB = cA 0 := Option.some.inj (hNm.symm.trans (C.2.2.2.2.2.1.2 0 (cA 0, .int) rfl).2)
  subst hcB
  refine W.eq (g2 := F0 (xz_m X) (pc + 2) ls (.ref (b + n) :: st)) rfl (k H1 locs ls (kz_grow hP hz e1 (by rw [hz]; exact o1)) (kz_Sn hS (by omega) (by rw [hz]; exact o1)) hl)
theorem kr_newz {X : jz_X} {nL : Nat} {cc : ByteArray} {own : String} {rm0 : Room} {D : va_G} {cA : Nat → ClassId} {b n0 : Nat} {Q : State → Prop} {n : Nat} {E : Nat → va_E} {kc ks : Nat} {lv : List (Nat × Value)} {st : List Value} (pc : Nat) {x : Int32} (len : Nat) (C : kz_C X nL cc own rm0 D cA b n0) (d : decode cc pc = .ok (.newarray .boolean, 2)) (hA : Cond.arrayClass .boolean ∈ lw_tbl) (hx : ¬ x < 0) (hN : x.toNatClampNeg = len) (hb : len * 4 ≤ 536870912) (hc : kc + 1 ≤ rm0.cells) (hs : ks + len ≤ rm0.slots) (hkn : n = n0 + kc) (k : kz_J X nL D b Q (n + 1) (va_up E n (.inl (cA 1, len, .inl (fun _ => 0)))) (kc + 1) (ks + len) lv (pc + 2) (.ref (b + n) :: st)) : kz_J X nL D b Q n E kc ks lv pc (.int x :: st) := fun H locs ls hP hS hl => by
  have hR := C.2.2.2.2.2.2.2.2.2.1
  refine kz_sz (fun hup => ?_)
  have hz := kz_size hP hS C.2.2.2.2.2.2.1 hkn hup
  refine va_newaK (atype := .boolean) (N := len) C.1 C.2.1 (C.2.2.2.2.1 _ (gw_in hA (by first | rfl | simp [gw_ok, Cond.onTables, Cond.keeps, Cond.steady]))) (g := F0 (xz_m X) pc ls (.int x :: st)) rfl d rfl hx hN (by first | exact hb | exact Nat.le_trans (Nat.mul_le_mul_left _ (by decide)) hb) (by rw [hR]; exact hc) (by rw [hR]; exact hs) hz (fun H1 cB e1 z1 o1 hAr hNm => ?_)
  have hcB : cB = cA 1 := Option.some.inj (hNm.symm.trans (C.2.2.2.2.2.1.2 1 (cA 1, .boolean) rfl).2)
  subst hcB
  refine W.eq (g2 := F0 (xz_m X) (pc + 2) ls (.ref (b + n) :: st)) rfl (k H1 locs ls (kz_grow hP hz e1 (by rw [hz]; exact o1)) (kz_Sn hS (by omega) (by rw [hz]; exact o1)) hl)
theorem kr_newo {X : jz_X} {nL : Nat} {cc : ByteArray} {own : String} {rm0 : Room} {D : va_G} {cA : Nat → ClassId} {b n0 : Nat} {Q : State → Prop} {n : Nat} {E : Nat → va_E} {kc ks : Nat} {lv : List (Nat × Value)} {st : List Value} (pc : Nat) {ix ci Nf : Nat} {Cn : String} {T : u_T} {ty : Nat → FieldType} (fs : List Value) (C : kz_C X nL cc own rm0 D cA b n0) (d : decode cc pc = .ok (.new ix, 3)) (hcl : Cond.classLink own ix Cn ∈ lw_tbl) (hin : Cond.instantiable Cn Nf ∈ lw_tbl) (hini : Cond.initialized Cn ∈ lw_tbl) (hc : kz_cl[ci]? = some (Cn, T, Nf)) (hw : ∀ w ∈ u_ws Cn T Nf, w ∈ gw_tbl) (hty : ∀ k, k < Nf → parseFieldDescriptor (T k).2.2.1 = some (ty k)) (hfs : ∀ j, j < Nf → defaultValue (ty j) = vp_V fs j) (hkc : kc + 1 ≤ rm0.cells) (hks : ks + Nf ≤ rm0.slots) (hkn : n = n0 + kc) (k : kz_J X nL D b Q (n + 1) (va_up E n (.inr (ci, fs))) (kc + 1) (ks + Nf) lv (pc + 3) (.ref (b + n) :: st)) : kz_J X nL D b Q n E kc ks lv pc st := fun H locs ls hP hS hl => by
  have hR := C.2.2.2.2.2.2.2.2.2.1
  refine kz_sz (fun hup => ?_)
  have hz := kz_size hP hS C.2.2.2.2.2.2.1 hkn hup
  have hKn := C.2.2.2.2.2.1.1 ci _ hc
  refine W.newcK C.1 C.2.1 C.2.2.2.1 (C.2.2.2.2.1 _ (gw_in hcl (by first | rfl | simp [gw_ok, Cond.onTables, Cond.keeps, Cond.steady]))) (C.2.2.2.2.1 _ (gw_in hin (by first | rfl | simp [gw_ok, Cond.onTables, Cond.keeps, Cond.steady]))) (C.2.2.2.2.1 _ (gw_in hini (by first | rfl | simp [gw_ok, Cond.onTables, Cond.keeps, Cond.steady]))) (g := F0 (xz_m X) pc ls st) rfl d (by rw [hR]; exact hkc) (by rw [hR]; exact hks) hKn.2.1 hz (fun H1 kC hkC e1 z1 o1 => ?_)
  have he : va_at D kz_cl (b + n, .inr (ci, fs)) H1 := ⟨_, hc, (u_born ty C.2.2.2.2.1 hw hKn hkC e1 hty).to hfs⟩
  refine W.eq (g2 := F0 (xz_m X) (pc + 3) ls (.ref (b + n) :: st)) rfl (k H1 locs ls (kz_grow hP hz he (by rw [hz]; exact o1)) (kz_Sn hS (by omega) (by rw [hz]; exact o1)) hl)
theorem kr_newq {X : jz_X} {nL : Nat} {cc : ByteArray} {own : String} {rm0 : Room} {D : va_G} {cA : Nat → ClassId} {b n0 : Nat} {Q : State → Prop} {n : Nat} {E : Nat → va_E} {kc ks : Nat} {lv : List (Nat × Value)} {st : List Value} (pc : Nat) {x : Int32} {ix : Nat} (len q : Nat) (Cn : String) (C : kz_C X nL cc own rm0 D cA b n0) (d : decode cc pc = .ok (.anewarray ix, 3)) (hcl : Cond.classLink own ix Cn ∈ lw_tbl) (hov : va_AO Cn (xz_s X)) (ht : (kz_t cA)[q]? = some (cA q, .object Cn)) (hx : ¬ x < 0) (hN : x.toNatClampNeg = len) (hb : len * 4 ≤ 536870912) (hc : kc + 1 ≤ rm0.cells) (hs : ks + len ≤ rm0.slots) (hkn : n = n0 + kc) (k : kz_J X nL D b Q (n + 1) (va_up E n (.inl (cA q, len, .inr (.inr (.inr (.inr (fun _ => none))))))) (kc + 1) (ks + len) lv (pc + 3) (.ref (b + n) :: st)) : kz_J X nL D b Q n E kc ks lv pc (.int x :: st) := fun H locs ls hP hS hl => by
  have hR := C.2.2.2.2.2.2.2.2.2.1
  refine kz_sz (fun hup => ?_)
  have hz := kz_size hP hS C.2.2.2.2.2.2.1 hkn hup
  subst hN
  refine W.anew C.1 C.2.1 C.2.2.2.1 (C.2.2.2.2.1 _ (gw_in hcl (by first | rfl | simp [gw_ok, Cond.onTables, Cond.keeps, Cond.steady]))) hov.use (g := F0 (xz_m X) pc ls (.int x :: st)) rfl d rfl hx hb (by rw [hR]; exact hc) (by rw [hR]; exact hs) (fun c9 kA comp f1 f2 f3 f4 => ?_)
  obtain ⟨kA', comp', -, -, -, f5⟩ := (C.2.2.2.2.2.1.2 q (cA q, .object Cn) ht).2
  have hc9 : c9 = cA q := Option.some.inj (f1.symm.trans f5)
  subst hc9
  generalize hH1 : H.push ({ cls := cA q, slots := Array.replicate x.toNatClampNeg .null, vm := .none } : Cell) = H1
  have z1 : H1.size = H.size + 1 := by rw [← hH1, Array.size_push]
  have e1 : H1[H.size]? = some (arrV (cA q) x.toNatClampNeg (fun _ => .null)) := by rw [← hH1, Array.getElem?_push_size, ← arrV_new]
  have o1 : ∀ q : Nat, q < H.size → H1[q]? = H[q]? := fun q hq => by rw [← hH1, Array.getElem?_push, if_neg (Nat.ne_of_lt hq)]
  have he : va_at D kz_cl (b + n, .inl (cA q, x.toNatClampNeg, .inr (.inr (.inr (.inr (fun _ => none)))))) H1 := by
    show H1[b + n]? = some (vp_cell _ _)
    rw [vp_cell_q, ← hz]
    exact e1
  refine W.eq (g2 := F0 (xz_m X) (pc + 3) ls (.ref (b + n) :: st)) (by rw [← hz]) (k H1 locs ls (kz_grow hP hz he o1) (kz_Sn hS (by omega) o1) hl)
theorem kr_putF {X : jz_X} {nL : Nat} {cc : ByteArray} {own : String} {rm0 : Room} {D : va_G} {cA : Nat → ClassId} {b n0 : Nat} {Q : State → Prop} {n : Nat} {E : Nat → va_E} {kc ks : Nat} {lv : List (Nat × Value)} {st : List Value} (pc : Nat) {k ci ix j Nf v : Nat} {ref Cn : String} {T : u_T} {ty0 : Nat → FieldType} {ty : FieldType} {fs : List Value} (C : kz_C X nL cc own rm0 D cA b n0) (d : decode cc pc = .ok (.putfield ix, 3)) (hk : k < n) (hE : E k = .inr (ci, fs)) (hc : kz_cl[ci]? = some (Cn, T, Nf)) (hin : ∀ w ∈ u_ws Cn T Nf, w ∈ gw_tbl) (hty : ∀ k, k < Nf → parseFieldDescriptor (T k).2.2.1 = some (ty0 k)) (hnm : ∀ a, a < Nf → ∀ b, b < Nf → a ≠ b → (T a).2.1 ≠ (T b).2.1) (hj : j < Nf) (hlink : Cond.fieldLink own ix ref (T j).2.1 (T j).2.2.1 ∈ lw_tbl) (hrf : (T j).1 = ref) (how : ref = own) (hfin : (T j).2.2.2 = true) (hd : parseFieldDescriptor (T j).2.2.1 = some ty) (hn : narrow ty (.ref v) = .ref v) (hfit : fits ty (.ref v) = true) (hlen : j < fs.length) (kk : kz_J X nL D b Q n (va_up E k (.inr (ci, fs.set j (.ref v)))) kc ks lv (pc + 3) st) : kz_J X nL D b Q n E kc ks lv pc (.ref v :: .ref (b + k) :: st) := fun H locs ls hP hS hl => by
  subst hrf
  refine va_putF C.1 C.2.1 C.2.2.2.2.1 hin ty0 hty hnm C.2.2.2.1 C.2.2.2.2.2.1 hP kz_D hS k (by rw [kz_at hk, hE]) hc j hj (C.2.2.2.2.1 _ (gw_in hlink (by first | rfl | simp [gw_ok, Cond.onTables, Cond.keeps, Cond.steady]))) (fun _ h9 => h9) hfin C.2.2.2.2.2.2.2.2.2.2.2.1 how hd hn hfit hlen d (fun H1 locs1 hP1 _ hS1 => ?_)
  rw [kz_set] at hP1
  exact kk H1 locs1 ls hP1 hS1 hl
theorem kr_get {X : jz_X} {nL : Nat} {cc : ByteArray} {own : String} {rm0 : Room} {D : va_G} {cA : Nat → ClassId} {b n0 : Nat} {Q : State → Prop} {n : Nat} {E : Nat → va_E} {kc ks : Nat} {lv : List (Nat × Value)} {st : List Value} (pc : Nat) {k ci ix j Nf : Nat} {ref Cn : String} {T : u_T} {fs : List Value} {v : Value} (C : kz_C X nL cc own rm0 D cA b n0) (d : decode cc pc = .ok (.getfield ix, 3)) (hk : k < n) (hE : E k = .inr (ci, fs)) (hc : kz_cl[ci]? = some (Cn, T, Nf)) (hin : ∀ w ∈ u_ws Cn T Nf, w ∈ gw_tbl) (hj : j < Nf) (hlink : Cond.fieldLink own ix ref (T j).2.1 (T j).2.2.1 ∈ lw_tbl) (hrf : (T j).1 = ref) (hv : fs[j]? = some v) (kk : kz_J X nL D b Q n E kc ks lv (pc + 3) (v :: st)) : kz_J X nL D b Q n E kc ks lv pc (.ref (b + k) :: st) := fun H locs ls hP hS hl => by
  subst hrf
  exact va_get C.1 C.2.1 C.2.2.2.2.1 hin C.2.2.2.1 C.2.2.2.2.2.1 hP k (by rw [kz_at hk, hE]) hc j hj (C.2.2.2.2.1 _ (gw_in hlink (by first | rfl | simp [gw_ok, Cond.onTables, Cond.keeps, Cond.steady]))) (fun _ h9 => h9) hv d (kk H locs ls hP hS hl)
theorem kr_iast {X : jz_X} {nL : Nat} {cc : ByteArray} {own : String} {rm0 : Room} {D : va_G} {cA : Nat → ClassId} {b n0 : Nat} {Q : State → Prop} {n : Nat} {E : Nat → va_E} {kc ks : Nat} {lv : List (Nat × Value)} {st : List Value} (pc : Nat) {k len j : Nat} {i x : Int32} {f : Nat → Int32} (C : kz_C X nL cc own rm0 D cA b n0) (d : decode cc pc = .ok (.iastore, 1)) (hk : k < n) (hE : E k = .inl (cA 0, len, .inl f)) (e : jz_ix len i = some j) (kk : kz_J X nL D b Q n (va_up E k (.inl (cA 0, len, .inl (upd f j x)))) kc ks lv (pc + 1) st) : kz_J X nL D b Q n E kc ks lv pc (.int x :: .int i :: .ref (b + k) :: st) := fun H locs ls hP hS hl => by
  obtain ⟨h1, h2, -⟩ := jz_ix_in e
  refine va_iast C.1 C.2.1 C.2.2.2.2.2.1 hP kz_D hS k 0 (by rw [kz_at hk, hE]) rfl h1 d (fun H1 locs1 hP1 _ hS1 => kk H1 locs1 ls ?_ hS1 hl)
  rw [h2, kz_set] at hP1
  exact hP1
theorem kr_aast {X : jz_X} {nL : Nat} {cc : ByteArray} {own : String} {rm0 : Room} {D : va_G} {cA : Nat → ClassId} {b n0 : Nat} {Q : State → Prop} {n : Nat} {E : Nat → va_E} {kc ks : Nat} {lv : List (Nat × Value)} {st : List Value} (pc : Nat) {k len j v q ci Nf : Nat} {i : Int32} {Cn : String} {T : u_T} {vs : List Value} {f : Nat → Option Nat} (C : kz_C X nL cc own rm0 D cA b n0) (d : decode cc pc = .ok (.aastore, 1)) (hk : k < n) (hE : E k = .inl (cA q, len, .inr (.inr (.inr (.inr f))))) (ht : (kz_t cA)[q]? = some (cA q, .object Cn)) (hv : v < n) (hEv : E v = .inr (ci, vs)) (hc : kz_cl[ci]? = some (Cn, T, Nf)) (e : jz_ix len i = some j) (kk : kz_J X nL D b Q n (va_up E k (.inl (cA q, len, .inr (.inr (.inr (.inr (va_up f j (some (b + v))))))))) kc ks lv (pc + 1) st) : kz_J X nL D b Q n E kc ks lv pc (.ref (b + v) :: .int i :: .ref (b + k) :: st) := fun H locs ls hP hS hl => by
  obtain ⟨h1, h2, -⟩ := jz_ix_in e
  refine va_astq (r := (Cn, T, Nf)) C.1 C.2.1 C.2.2.2.2.2.1 hP kz_D hS k q v ci (by rw [kz_at hk, hE]) ht (by rw [kz_at hv, hEv]) hc h1 d (fun H1 locs1 hP1 _ hS1 => kk H1 locs1 ls ?_ hS1 hl)
  rw [h2, kz_set] at hP1
  exact hP1
theorem kr_obj {X : jz_X} {nL : Nat} {cc : ByteArray} {own : String} {rm0 : Room} {D : va_G} {cA : Nat → ClassId} {b n0 : Nat} {Q : State → Prop} {n : Nat} {E : Nat → va_E} {kc ks : Nat} {lv : List (Nat × Value)} {st : List Value} (pc : Nat) {ix a : Nat} (C : kz_C X nL cc own rm0 D cA b n0) (d : decode cc pc = .ok (.invokespecial ix, 3)) (h1 : Cond.methodLink own ix Lib.objectInit ∈ lw_tbl) (h2 : Cond.instanceMethod Lib.objectInit ∈ lw_tbl) (h3 : Cond.code Lib.objectInit ⟨#[0xb1]⟩ 1 none ∈ lw_tbl) (hf : 1 ≤ rm0.frames) (hw : (st.map fun v => v.category).sum + 12 ≤ rm0.locals) (k : kz_J X nL D b Q n E kc ks lv (pc + 3) st) : kz_J X nL D b Q n E kc ks lv pc (.ref a :: st) := fun H locs ls hP hS hl => by
  have hR := C.2.2.2.2.2.2.2.2.2.1
  refine W.objInit C.1 C.2.1 C.2.2.2.1 (C.2.2.2.2.1 _ (gw_in h1 (by first | rfl | simp [gw_ok, Cond.onTables, Cond.keeps, Cond.steady]))) (C.2.2.2.2.1 _ (gw_in h2 (by first | rfl | simp [gw_ok, Cond.onTables, Cond.keeps, Cond.steady]))) (C.2.2.2.2.1 _ (gw_in h3 (by first | rfl | simp [gw_ok, Cond.onTables, Cond.keeps, Cond.steady]))) (g := F0 (xz_m X) pc ls (.ref a :: st)) rfl (hl.1.trans C.2.2.1.symm) rfl d (by rw [hR]; exact hf) (by rw [hR]; simpa [JFrame.monitorRoom] using hw) ?_
  exact W.eq (g2 := F0 (xz_m X) (pc + 3) ls st) rfl (k H locs ls hP hS hl)
theorem kr_vret {X : jz_X} {nL : Nat} {cc : ByteArray} {own : String} {rm0 : Room} {D : va_G} {cA : Nat → ClassId} {b n0 n : Nat} {E : Nat → va_E} {kc ks : Nat} {lv : List (Nat × Value)} (pc : Nat) (C : kz_C X nL cc own rm0 D cA b n0) (d : decode cc pc = .ok (.return_, 1)) (hkn : n = n0 + kc) : kz_J X nL D b (kz_q X D cA b n E kc ks) n E kc ks lv pc [] := fun H locs ls hP hS hl => by
  refine kz_sz (fun hup => ?_)
  have hz := kz_size hP hS C.2.2.2.2.2.2.1 hkn hup
  exact W.vret C.1 C.2.1 C.2.2.2.2.2.2.2.2.1 (fun t ht hW => ⟨rfl, ⟨by rw [ht]; exact hP, va_K.moved hW.alike C.2.2.2.2.2.1, nw_ok.warm hW C.2.2.2.2.2.2.2.2.2.2.1, ka_ok.moved hW.alike C.2.2.2.2.2.2.2.2.2.2.2.2, by rw [ht]; exact hz⟩, hS.F ht⟩) hS.2.2 d C.2.2.2.2.2.2.2.1
