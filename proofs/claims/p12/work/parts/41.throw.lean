/-! the exceptions' own words, kept over what a run changes -/
def xz_io : String := "java/lang/IndexOutOfBoundsException"
def xz_is : String := "java/lang/IllegalStateException"
def xz_ia : String := "java/lang/IllegalArgumentException"
def xz_up : List String := ["java/lang/RuntimeException", "java/lang/Exception"]
def xz_atoms : List Cond := Bundle.ownAtoms R_AR 131 xz_io xz_up ++ (Bundle.ownAtoms R_AR 180 xz_is xz_up ++ Bundle.ownAtoms R_AR 185 xz_ia xz_up)
def xz_st : List (Nat × String) := [(129, "no such router"), (174, "no such router or circuit"), (178, "the router is not attached to the circuit"), (183, "the router has no such level")]
def xz_ok (U : State) : Prop := (∀ w ∈ xz_atoms, ∀ A : Array Value, w.before A U = true) ∧ ∀ q ∈ xz_st, ∃ a : Nat, vk_R R_AR q.1 q.2 a U
def xk_ok (w : Cond) : Bool := (w.onTables && w.keeps) || (match w with | .isRef (.static _ _ _) => true | .laysStatic _ _ _ => true | .declares _ => true | .castable _ _ => true | _ => false)
theorem xk_all : xz_atoms.all xk_ok = true := by decide +kernel
theorem xz_ff {u U : State} (hv : u.vm = U.vm) (o n d : String) : U.fieldFound? o n d = u.fieldFound? o n d := by
  simp [State.fieldFound?, hv]
theorem xz_fn {u U : State} (hv : u.vm = U.vm) (o n d : String) (b : Bool) : U.fieldNamed? o n d b = u.fieldNamed? o n d b := by
  simp [State.fieldNamed?, xz_ff hv]
theorem xz_ls {o n d : String} {A A' : Array Value} {u U : State} (hv : u.vm = U.vm) (hh : ∀ q, q < u.heap.size → U.heap[q]? = u.heap[q]?) (h : (Cond.laysStatic o n d).before A u = true) : (Cond.laysStatic o n d).before A' U = true := by
  unfold Cond.before Cond.holds at h ⊢
  simp only [Cond.value] at h ⊢
  rw [xz_ff hv, ← hv]
  cases hc : u.vm.findClass o with
  | none => rw [hc] at h; simp at h
  | some c =>
    rw [hc] at h
    cases hf : u.fieldFound? o n d with
    | none => rw [hf] at h; simp at h
    | some y =>
      obtain ⟨c', k, i, f⟩ := y
      rw [hf] at h
      simp only at h ⊢
      cases hk : k.statics with
      | none => rw [hk] at h; simp at h
      | some a =>
        rw [hk] at h
        simp only [Option.bind_some] at h ⊢
        cases hcell : u.heap[a]? with
        | none => rw [hcell] at h; simp at h
        | some cell =>
          have hlt : a < u.heap.size := (Array.getElem?_eq_some_iff.mp hcell).1
          rw [hh a hlt]
          exact h
theorem xz_ir {o n d : String} {A A' : Array Value} {u U : State} (hv : u.vm = U.vm) (hh : ∀ q, q < u.heap.size → U.heap[q]? = u.heap[q]?) (h : (Cond.isRef (.static o n d)).before A u = true) : (Cond.isRef (.static o n d)).before A' U = true := by
  unfold Cond.before Cond.holds at h ⊢
  simp only [Cond.value, Term.eval] at h ⊢
  rw [xz_fn hv]
  cases hf : u.fieldNamed? o n d true with
  | none => rw [hf] at h; simp at h
  | some y =>
    obtain ⟨c, k, sl⟩ := y
    rw [hf] at h
    simp only [Option.bind_eq_bind, Option.bind_some] at h ⊢
    cases hk : k.statics with
    | none => rw [hk] at h; simp at h
    | some a =>
      rw [hk] at h
      simp only [Option.bind_some] at h ⊢
      cases hcell : u.heap[a]? with
      | none => rw [hcell] at h; simp at h
      | some cell =>
        have hlt : a < u.heap.size := (Array.getElem?_eq_some_iff.mp hcell).1
        rw [hh a hlt, hcell]
        rw [hcell] at h
        exact h
theorem xz_mv {w : Cond} (hk : xk_ok w = true) {s U : State} (hW : s.WarmedH U.vm) (hh : ∀ q, q < s.heap.size → U.heap[q]? = s.heap[q]?) (h : ∀ A : Array Value, w.before A s = true) (A : Array Value) : w.before A U = true := by
  by_cases hb : (w.onTables && w.keeps) = true
  · exact word_at hW (Or.inl hb) (h A)
  · have hb2 : (w.onTables && w.keeps) = false := by simpa using hb
    unfold xk_ok at hk
    rw [hb2, Bool.false_or] at hk
    have hst : ∀ c : Cond, c.steady = true → (∀ A, c.before A s = true) → ∀ A, c.before A (s.setVm U.vm) = true := by
      intro c hc h0 A
      have := Cond.value_setVm₂ (args := A) (s := s) (o := none) hW.alike hW.alike c [] hc
      have h1 := h0 A
      unfold Cond.before Cond.holds at h1 ⊢
      rw [this]; exact h1
    cases w with
    | isRef t =>
      cases t with
      | static o n d => exact xz_ir (A := #[]) (u := s.setVm U.vm) rfl hh (hst _ rfl h #[])
      | _ => simp at hk
    | laysStatic o n d => exact xz_ls (A := #[]) (u := s.setVm U.vm) rfl hh (hst _ rfl h #[])
    | declares x => exact va_Nw.use rfl (va_Nw.warmD hW (va_Nw.of rfl (h #[])))
    | castable a b => exact va_Nw.use rfl (va_Nw.warmC hW (va_Nw.of rfl (h #[])))
    | _ => simp at hk
theorem xz_ok.move {s U : State} (hW : s.WarmedH U.vm) (hh : ∀ q, q < s.heap.size → U.heap[q]? = s.heap[q]?) (h : xz_ok s) : xz_ok U := by
  refine ⟨fun w hw A => xz_mv (List.all_eq_true.mp xk_all w hw) hW hh (h.1 w hw) A, fun q hq => ?_⟩
  obtain ⟨a, ha⟩ := h.2 q hq
  exact ⟨a, ha.warm hW⟩
theorem xz_ok.same {s U : State} (hv : U.vm = s.vm) (hh : U.heap = s.heap) (h : xz_ok s) : xz_ok U := by
  refine ⟨fun w hw A => ?_, fun q hq => ?_⟩
  · have h0 := h.1 w hw A
    have hk := List.all_eq_true.mp xk_all w hw
    by_cases hb : w.onTables = true
    · exact va_tabs hb hv.symm h0
    · unfold xk_ok at hk
      have hb2 : w.onTables = false := by simpa using hb
      rw [hb2, Bool.false_and, Bool.false_or] at hk
      cases w with
      | isRef t =>
        cases t with
        | static o n d => exact xz_ir hv.symm (fun q _ => by rw [hh]) h0
        | _ => simp at hk
      | laysStatic o n d => exact xz_ls hv.symm (fun q _ => by rw [hh]) h0
      | declares x => exact absurd rfl hb
      | castable a b => exact absurd rfl hb
      | _ => simp at hk
  · obtain ⟨a, ha⟩ := h.2 q hq
    exact ⟨a, ha.same hv⟩
/-- the end by a throw: a new object of that class, nothing else has changed -/
def xz_Q (cls : String) : Array Value → State → Outcome → State → Prop := fun _ st o t => ∃ (a : Addr) (ce : Cell), o = .threw a ∧ t.heap[a]? = some ce ∧ st.vm.findClass cls = some ce.cls ∧ ce.vm = .none
def xz_q (X : jz_X) (cls : String) : State → Prop := fun t => ∃ o, t.status = .running ∧ Ended t (xz_b X) o ∧ xz_Q cls (xz_a X) (xz_s X) o t ∧ (xz_s X).WarmedH t.vm ∧ (xz_s X).sameButNew ({ t with vm := (xz_s X).vm } : State) [] 1 6
/-- A CONTRACT OF A THROW -/
def xt_m (l : Launch) (y : MethodName) (cd : Cond) (rm : Room) (G : jz_G) (as : List Value) (m : jz_M) (cls : String) : Prop :=
  MetFree l y (headSpec (cd :: gw_tbl) rm) (va_Pc as (fun U => jz_W G m U ∧ xz_ok U)) (fun _ _ _ _ _ => True) (fun a st o t => xz_Q cls a st o t ∧ st.WarmedH t.vm ∧ st.sameButNew ({ t with vm := st.vm } : State) [] 1 6)
theorem xz_met {l : Launch} {y : MethodName} {cc : ByteArray} {nL : Nat} {ret : Option FieldType} {rm : Room} {G : jz_G} {as : List Value} {m : jz_M} {cls own : String} (hy : plainName y.cls = true) (ho : y.cls = own) (hI : jz_I G) (hlen : (lg_sl as).length ≤ nL)
    (body : ∀ X : jz_X, xz_l X = l → jp_C X nL cc own ret rm G m → xz_ok (xz_s X) → (xz_c X).exceptionTable.isEmpty = true → (xz_l X).admits (xz_e X) → jp_J X nL (xz_q X cls) (lv_args 0 as) 0 []) : xt_m l y (.code y cc nL ret) rm G as m cls := by
  refine MetFree.of_bodyS (code := cc) (maxLocals := nL) (ret := ret) hy ?_ ?_
  · intro args s m h hn
    obtain ⟨meth, c, h1, h2, h3, h4, h5, h6, -, -⟩ := Cond.code_spec hn (atoms_spec (ws := Cond.code y cc nL ret :: gw_tbl) h _ List.mem_cons_self)
    exact ⟨meth, c, h1, h2, h3, h4, h5, h6⟩
  · intro p e s mi args below meth c s₁ B hml hv _
    obtain ⟨rfl, ⟨hP, hK, hN⟩, hx⟩ := hv
    have hts := atoms_spec (ws := Cond.code y cc nL ret :: gw_tbl) B.pre
    subst ho
    have C : jp_C (p, l, e, (headSpec (Cond.code y cc nL ret :: gw_tbl) rm).room, s, mi, as.toArray, below, meth, c) nL cc y.cls ret rm G m := ⟨⟨B.exec, B.bytes, hml, findClass_of_methodNamed B.named, fun w h => hts w (List.mem_cons_of_mem _ h), hK, hI, B.notSynchronized, B.returns, rfl, hN⟩, hP⟩
    have X₀ := Stand.of_body B
    have hz := body _ rfl C hx (B.noHandlers (hts _ List.mem_cons_self)) X₀.admits _ (lv_entry as hlen)
    rw [← lg_entry_eq] at hz
    have hh0 : s₁.heap = s.heap := by rw [B.state]; rfl
    obtain ⟨t, a1, o, b1, b2, b3⟩ := hz s₁ hh0 X₀
    exact ⟨t, o, a1, b1, b2, b3⟩
/-- THE THROW ITSELF: new, dup, ldc, the constructor, athrow -/
theorem jp_throw {X : jz_X} {nL : Nat} {cc : ByteArray} {ret : Option FieldType} {rm0 : Room} {G : jz_G} {m : jz_M} {lv : List (Nat × Value)} (pc : Nat) {ia ib ic : Nat} (cls text : String) (C : jp_C X nL cc R_AR ret rm0 G m) (hx : xz_ok (xz_s X)) (htr : (xz_e X).platform.stackTraces = false) (noh : (xz_c X).exceptionTable.isEmpty = true)
    (d0 : decode cc pc = .ok (.new ia, 3)) (d3 : decode cc (pc + 3) = .ok (.dup, 1)) (d4 : decode cc (pc + 3 + 1) = .ok (.ldc ib, 2)) (d6 : decode cc (pc + 3 + 1 + 2) = .ok (.invokespecial ic, 3)) (d9 : decode cc (pc + 3 + 1 + 2 + 3) = .ok (.athrow, 1))
    (hcl : Cond.classLink R_AR ia cls ∈ lw_tbl) (hin : Cond.instantiable cls 6 ∈ lw_tbl) (hini : Cond.initialized cls ∈ lw_tbl) (hat : ∀ w ∈ Bundle.ownAtoms R_AR ic cls xz_up, w ∈ xz_atoms) (hst : (ib, text) ∈ xz_st) (hfit : Bundle.fit cls = true)
    (hR : 6 ≤ rm0.frames ∧ 1 ≤ rm0.cells ∧ 6 ≤ rm0.slots ∧ 100 ≤ rm0.locals) : jp_J X nL (xz_q X cls) lv pc [] := fun ls hl => by
  have hRe := C.1.2.2.2.2.2.2.2.2.2.1
  have w1 := C.1.2.2.2.2.1 _ (gw_in hcl (by first | rfl | simp [gw_ok, Cond.onTables, Cond.keeps, Cond.steady]))
  have w2 := C.1.2.2.2.2.1 _ (gw_in hin (by first | rfl | simp [gw_ok, Cond.onTables, Cond.keeps, Cond.steady]))
  have w3 := C.1.2.2.2.2.1 _ (gw_in hini (by first | rfl | simp [gw_ok, Cond.onTables, Cond.keeps, Cond.steady]))
  obtain ⟨cX, kX0, hfX, -⟩ := Cond.instantiable_spec w2
  obtain ⟨sa, hsa⟩ := hx.2 _ hst
  refine W.newcK (n := 6) C.1.1 C.1.2.1 C.1.2.2.2.1 w1 w2 w3 (g := F0 (xz_m X) pc ls []) rfl d0 (by rw [hRe]; exact hR.2.1) (by rw [hRe]; exact hR.2.2.1) hfX rfl (fun H' kX hkX hcell hsz hold => ?_)
  refine W.eq (g2 := F0 (xz_m X) (pc + 3) ls [.ref (xz_s X).heap.size]) rfl ?_
  refine lv_dup C.1.1 C.1.2.1 d3 rfl ?_
  intro T hT X0
  obtain ⟨U, hsteps, hrun, hend, hW, hsame, ce, hce, K⟩ := X0.ctorThrowS C.1.1 htr (own := R_AR) (cls := cls) (names := xz_up) (ic := ic) C.1.2.2.2.1 hfit (by decide +kernel)
    (fun y hy => hx.1 y (hat y hy) _) (fun y hy => by cases hy) hfX hkX (a := (xz_s X).heap.size) (by rw [hT]; exact hcell) (Nat.le_refl _) (msg := .ref sa) rfl
    (g := F0 (xz_m X) (pc + 3 + 1 + 2) ls [.ref sa, .ref (xz_s X).heap.size, .ref (xz_s X).heap.size]) rfl (hl.1.trans C.1.2.2.1.symm) rfl rfl (rest := []) rfl
    (by rw [C.1.2.1]; exact d6) (by rw [C.1.2.1]; exact d9) (covers_of_empty noh _) (by rw [hRe]; exact Nat.lt_of_lt_of_le (by decide) hR.1) (by rw [hRe]; exact Nat.le_trans (Nat.le_of_ble_eq_true rfl) hR.2.2.2) C.1.2.2.2.2.2.2.2.1
  refine ⟨U, ?_, .threw (xz_s X).heap.size, hrun, hend, ⟨_, ce, rfl, hce, K.cls, K.vm⟩, hW, by simpa using hsame⟩
  exact X0.ldcString C.1.1 (own := R_AR) (text := text) (index := ib) (a := sa) C.1.2.2.2.1 hsa.1 hsa.2 (g := F0 (xz_m X) (pc + 3 + 1) ls [.ref (xz_s X).heap.size, .ref (xz_s X).heap.size]) rfl (by rw [C.1.2.1]; exact d4) _ hsteps

