/-! the law's own helpers: a call whose answer goes into the one long, or whose throw is told by a number -/
abbrev R_Lw : String := "AreaRoutersLaw"
def xh_e (q : Nat × Nat × Nat × Nat) : ExceptionTableEntry := ⟨q.1, q.2.1, q.2.2.1, q.2.2.2⟩
theorem xh_list {l : List ExceptionTableEntry} {hh : List (Nat × Nat × Nat × Nat)} (h : l.map (fun h => (h.startPc, h.endPc, h.handlerPc, h.catchType)) = hh) : l = hh.map xh_e := by
  rw [← h, List.map_map]
  have : (xh_e ∘ fun h : ExceptionTableEntry => (h.startPc, h.endPc, h.handlerPc, h.catchType)) = id := by funext x; rfl
  rw [this, List.map_id]
/-- classes that are none of others -/
def xn_ok (U : State) : Prop := va_Nc xz_is xz_io U ∧ va_Nc xz_ia xz_io U ∧ va_Nc xz_ia xz_is U
theorem xn_ok.moved {u U : State} (hvm : u.vm.Alike U.vm) (h : xn_ok u) : xn_ok U := ⟨h.1.moved hvm, h.2.1.moved hvm, h.2.2.moved hvm⟩
def lh_m (l : Launch) (y : MethodName) (cd : Cond) (rm : Room) (G : jz_G) (as : List Value) (m : jz_M) (r : Int32) (m' : jz_M) : Prop :=
  Met l y (cd :: gw_tbl) rm (va_Pc as (fun U => jz_W G m U ∧ xz_ok U ∧ xn_ok U)) (fun _ st o t => o = .returned (some (.int r)) ∧ jz_W G m' t ∧ va_F (jz_F G) st t) 1 6 (jz_F G)
def lh_q (X : jz_X) (G : jz_G) (r : Int32) (m : jz_M) : State → Prop := MQ (xz_b X) (fun _ st o t => o = .returned (some (.int r)) ∧ jz_W G m t ∧ va_F (jz_F G) st t) (xz_a X) (xz_s X) 1 6 (jz_F G)
theorem lh_met {l : Launch} {y : MethodName} {cc : ByteArray} {nL : Nat} {rm : Room} {hh : List (Nat × Nat × Nat × Nat)} {G : jz_G} {as : List Value} {m m' : jz_M} {r : Int32} {own : String} (hy : plainName y.cls = true) (ho : y.cls = own) (hI : jz_I G) (hlen : (lg_sl as).length ≤ nL)
    (body : ∀ X : jz_X, xz_l X = l → jp_C X nL cc own (some .int) rm G m → xz_ok (xz_s X) → xn_ok (xz_s X) → (xz_c X).exceptionTable.toList = hh.map xh_e → ∀ ls : Array Slot, lv_has ls nL (lv_args 0 as) → W (xz_p X) (xz_l X) (xz_e X) (xz_R X) (xz_s X) (xz_m X) (xz_a X) (xz_b X) (xz_t X) (xz_c X) (xz_s X).heap [] 0 0 (lh_q X G r m') (F0 (xz_m X) 0 ls [])) : lh_m l y (.codeWith y cc nL (some .int) hh) rm G as m r m' := by
  refine va_MetW (cc := cc) (maxL := nL) (ret := some .int) (hh := hh) hy rfl ?_
  intro p e s mi args below meth c s₁ B hml hv
  obtain ⟨rfl, ⟨hP, hK, hN⟩, hx, hn⟩ := hv
  have hts := atoms_spec (ws := Cond.codeWith y cc nL (some .int) hh :: gw_tbl) B.pre
  subst ho
  obtain ⟨m9, meth9, c9, g1, g2, g3, -, -, g6, -, -, -⟩ := Cond.codeWith_spec (hts _ List.mem_cons_self)
  cases B.named.symm.trans g1
  cases B.method.symm.trans g2
  cases (Stand.of_body B).code.symm.trans g3
  have C : jp_C (p, l, e, (headSpec (Cond.codeWith y cc nL (some .int) hh :: gw_tbl) rm).room, s, mi, as.toArray, below, meth, c) nL cc y.cls (some .int) rm G m := ⟨⟨B.exec, B.bytes, hml, findClass_of_methodNamed B.named, fun w h => hts w (List.mem_cons_of_mem _ h), hK, hI, B.notSynchronized, B.returns, rfl, hN⟩, hP⟩
  have hz := body _ rfl C hx hn (xh_list g6) _ (lv_entry as hlen)
  rw [lg_entry_eq]
  exact hz
theorem jr_i2l {X : jz_X} {nL : Nat} {cc : ByteArray} {own : String} {ret : Option FieldType} {rm0 : Room} {G : jz_G} {Q : State → Prop} {m : jz_M} {lv : List (Nat × Value)} {st : List Value} (pc : Nat) {x : Int32} (C : jz_C X nL cc own ret rm0 G) (d : decode cc pc = .ok (.i2l, 1)) (k : jz_J X nL G Q m lv (pc + 1) (.long x.toInt64 :: st)) : jz_J X nL G Q m lv pc (.int x :: st) := fun H locs ls hP hS hl => lv_i2l C.1 C.2.1 d rfl (k H locs ls hP hS hl)
theorem jr_last {X : jz_X} {nL : Nat} {cc : ByteArray} {own : String} {ret : Option FieldType} {rm0 : Room} {Z : cz_Z} {Q : State → Prop} {m : jz_M} {lv : List (Nat × Value)} {st : List Value} (pc : Nat) {x : Int32} (C : jz_C X nL cc own ret rm0 (lz_G Z)) (d : decode cc pc = .ok (.lastore, 1)) (k : jz_J X nL (lz_G Z) Q (jz_up m 173 0 x) lv (pc + 1) st) : jz_J X nL (lz_G Z) Q m lv pc (.long x.toInt64 :: .int 0 :: .ref (gz_ad (lz_G Z) 173) :: st) := fun H locs ls hP hS hl => by
  have hE : ∀ f : Nat → Int32, gz_E (lz_G Z) 173 f = .inl (Z.2.2 4, 1, .inr (.inl (fun j => (f j).toInt64))) := fun f => rfl
  refine va_last C.1 C.2.1 C.2.2.2.2.2.1 hP (jz_w_D C.2.2.2.2.2.2.1) hS 173 4 (by rw [jz_w_at (show 173 < gz_N (lz_G Z) from (by decide : (173 : Nat) < 174)), hE]) rfl (i := 0) (show vp_in (0 : Int32) 1 by unfold vp_in; decide) d (fun H1 locs1 hP1 _ hS1 => k H1 locs1 ls ?_ hS1 hl)
  have e1 : (vp_updL (fun j => (m 173 j).toInt64) (0 : Int32).toNatClampNeg x.toInt64) = fun j => (upd (m 173) 0 x j).toInt64 := by
    funext j
    simp only [vp_updL, upd]
    by_cases hj : j = 0
    · subst hj; rfl
    · rw [if_neg (by simpa using hj), if_neg hj]
  rw [e1, ← hE, jz_w_set] at hP1
  exact hP1
theorem jr_iretW {X : jz_X} {nL : Nat} {cc : ByteArray} {own : String} {ret : Option FieldType} {rm0 : Room} {G : jz_G} {m : jz_M} {lv : List (Nat × Value)} (pc : Nat) {v : Int32} (C : jz_C X nL cc own ret rm0 G) (d : decode cc pc = .ok (.ireturn, 1)) (hr : ret = some .int) : jz_J X nL G (lh_q X G v m) m lv pc [.int v] := fun H locs ls hP hS hl => W.widen (k := 1) (n := 6) (by decide) (by decide) (W.iret C.1 C.2.1 (C.2.2.2.2.2.2.2.2.1.trans hr) (fun t ht hW => ⟨rfl, ⟨by rw [ht]; exact hP, va_K.moved hW.alike C.2.2.2.2.2.1, nw_ok.warm hW C.2.2.2.2.2.2.2.2.2.2⟩, hS.F ht⟩) hS.2.2 d C.2.2.2.2.2.2.2.1)
/-- caught: the walk goes on at the handler, with the exception alone on the stack; a cell more, all old ones as they were -/
theorem jp_catch {X : jz_X} {nL : Nat} {cc : ByteArray} {own : String} {ret : Option FieldType} {rm0 : Room} {G : jz_G} {m : jz_M} {lv : List (Nat × Value)} {st : List Value} {Q : State → Prop} (pc : Nat) {k ci Nf : Nat} {T : u_T} {F : (Nat → Int32) → List Value} (As : List Value) {cd : Cond} {y : MethodName} {bytes : ByteArray} {maxL n ix : Nat} {rt : Option FieldType} {rm : Room} {st0 : List Value} {cls : String} (C : jp_C X nL cc own ret rm0 G m) (d : decode cc pc = .ok (.invokevirtual ix, 3)) (hM : xt_m (xz_l X) y cd rm G (.ref (gz_ad G k) :: As) m cls) (hs : cz_S cd y bytes maxL rt n) (hv : cz_V y) (hlink : Cond.methodLink own ix y ∈ lw_tbl) (hO : iz_O G k ci F) (hc : (gz_cl G)[ci]? = some (y.cls, T, Nf)) (hR : xr_ok rm maxL rm0 = true) (hn : As.length = n) (hst0 : st0 = As.reverse ++ .ref (gz_ad G k) :: st) (hwt : (st.map fun v => v.category).sum ≤ 8) (hx : xz_ok (xz_s X))
    (ps : List (ExceptionTableEntry × String)) (x : ExceptionTableEntry × String) (rest : List ExceptionTableEntry) (htab : (xz_c X).exceptionTable.toList = ps.map (fun q => q.1) ++ x.1 :: rest) (hps : ∀ cl, (xz_s X).vm.findClass cls = some cl → (∀ q ∈ ps, xf_L own (xz_a X) (xz_s X) cl q pc false) ∧ xf_L own (xz_a X) (xz_s X) cl x pc true)
    (kk : ∀ (a : Nat) (H1 : Heap), (xz_s X).heap.size ≤ H1.size → (∀ q : Nat, q < (xz_s X).heap.size → H1[q]? = (xz_s X).heap[q]?) → ∀ ls : Array Slot, lv_has ls nL lv → W (xz_p X) (xz_l X) (xz_e X) (xz_R X) (xz_s X) (xz_m X) (xz_a X) (xz_b X) (xz_t X) (xz_c X) H1 [] 1 6 Q (F0 (xz_m X) x.1.handlerPc ls [.ref a])) : jp_J X nL Q lv pc st0 := fun ls hl => by
  have hRe := C.1.2.2.2.2.2.2.2.2.2.1
  have hR2 := xr_use hR
  rw [← hRe] at hR2
  obtain ⟨rfl, hcm, him, hy, hnn⟩ := hs
  have hc2 : Cond.code y bytes maxL rt ∈ gw_tbl := gw_in hcm (by first | rfl | simp [gw_ok, Cond.onTables, Cond.keeps, Cond.steady])
  have hcode := C.1.2.2.2.2.1 _ hc2
  have hini := C.1.2.2.2.2.1 _ (gw_in him (by first | rfl | simp [gw_ok, Cond.onTables, Cond.keeps, Cond.steady]))
  have hln := C.1.2.2.2.2.1 _ (gw_in hlink (by first | rfl | simp [gw_ok, Cond.onTables, Cond.keeps, Cond.steady]))
  obtain ⟨hinst, hsel⟩ := cz_I C.1 hv
  obtain ⟨cellB, hcB, hoB, hclB⟩ := va_recv C.1.2.2.2.2.2.1 C.2 hc (q0 := k) (ci := ci) (a := gz_ad G k) (fs := F (m k)) (by rw [jz_w_at hO.1, hO.2])
  have hpay := pay_in C.1.2.2.2.2.1 (gw_good hc2)
  intro T0 hT X0
  obtain ⟨mk, methM, hnamed, hmethM, hstM, habM⟩ := Cond.instanceMethod_spec hinst
  obtain ⟨methM', cM, hmethM', -, -, -, -, -, -, hsigM⟩ := Cond.code_spec hnamed hcode
  cases hmethM.symm.trans hmethM'
  obtain ⟨c2, r2, m2, q1, q2, q3, q4, kP, hkP, hkPi⟩ := Cond.selects_spec hsel
  cases hclB.symm.trans q1
  cases (State.methodFound?_of_named hnamed hy).symm.trans q2
  cases hnamed.symm.trans q3
  have hselP : selectMethod (xz_e X).platform (xz_s X).vm cellB.cls mk = .method mk := by rw [Launch.admits_selectMethod X0.admits]; exact q4
  have hlen : ∀ sig, parseMethodDescriptor y.desc = some sig → As.length = sig.parameters.length := fun sig h => by
    rw [h] at hnn
    exact hn.trans (Option.some.inj hnn).symm
  obtain ⟨vm₁, X₁, hstep₁⟩ := X0.invokevirtual C.1.1 C.1.2.2.2.1 hln hnamed hmethM hstM hkP hkPi hy (a := gz_ad G k) (cell := cellB) (by rw [hT]; exact hcB)
    (fun z h => by rw [h] at hoB; cases hoB) hselP hmethM habM hkP hkPi (g := F0 (xz_m X) pc ls st0) rfl (argsL := As) (rest := st) (hlen _ hsigM) hst0 (by rw [C.1.2.1]; exact d)
  have hw1 : (xz_s X).WarmedH (T0.setVm vm₁).vm := X₁.warmed
  have hheap1 : (T0.setVm vm₁).heap = (xz_s X).heap := hT
  obtain ⟨a, ce, T', X2, hW2, hold, hsz, k1, k2, k3, hsteps⟩ := xt_call X₁ (y := y) (mk := mk) (bytes := bytes) (maxL := maxL) (ret := rt) hM (g := { F0 (xz_m X) pc ls st0 with stack := st }) (ig := .invokevirtual ix) (len := 3) rfl (hl.1.trans C.1.2.2.1.symm) (by rw [C.1.2.1]; exact d) (lv_room hwt) (X₁.named hnamed)
    (atoms_intro fun w hw => hpay w hw _ _ hw1) (hpay _ List.mem_cons_self _ _ hw1) (word_at hw1 (Or.inl (by first | rfl | simp [Cond.onTables, Cond.keeps, Cond.steady])) hini) hR2.2.2.1 hR2.2.2.2 (by simpa using hR2.1) (by simpa using hR2.2.1)
    ⟨by rw [hheap1]; exact C.2, va_K.moved hw1.alike C.1.2.2.2.2.2.1, nw_ok.warm hw1 C.1.2.2.2.2.2.2.2.2.2.2⟩ (xz_ok.move hw1 (fun q _ => by rw [hheap1]) hx)
  have hcl : (xz_s X).vm.findClass cls = some ce.cls := by rw [← k2]; exact (hw1.alike.findClass _ _).symm
  obtain ⟨hp1, hp2⟩ := hps ce.cls hcl
  have hpl : (xz_e X).platform.magicAccessors = ({} : Platform).magicAccessors := by rw [X0.admits.platform]
  have hobj : ∀ z, ce.vm ≠ .statics z := fun z h => by rw [k3] at h; cases h
  have hkx : ∃ kk, (xz_s X).vm.classes[ce.cls]? = some kk := by
    obtain ⟨-, -, h3, t, h4, h5⟩ := hp2
    obtain ⟨c', hc', hcl9⟩ := Cond.classLink_spec C.1.2.2.2.1 h3 (xz_e X).platform hpl
    cases h4.symm.trans hc'
    obtain ⟨dk, _, _, kt, hd, _, _, _, _, hkt, _, hopen⟩ := hcl9.here
    exact Vm.classAt_of_assignable h5 ⟨_, hkt⟩
  obtain ⟨vm', hv', hgo⟩ := xf_go (f := { F0 (xz_m X) pc ls st0 with stack := st }) (a := a) (cell := ce) (own := own) (args := xz_a X) (e := xz_e X) (s := xz_s X) C.1.2.2.2.1 hpl hobj hkx x rest hp2 ps hp1 ((T'.setTop { F0 (xz_m X) pc ls st0 with stack := st }).pushFrame (.throwing a)) (by rw [Stand.throwing_vm]; exact X2.warmed) (by rw [Stand.throwing_heap]; exact k1)
  have hfind : xf_F (xz_e X) ((T'.setTop { F0 (xz_m X) pc ls st0 with stack := st }).pushFrame (.throwing a)) { F0 (xz_m X) pc ls st0 with stack := st } a (.found x.1.handlerPc) vm' := by
    intro Q E d acts
    rw [W.findHandler_eq (meth := xz_t X) (code := xz_c X) (by rw [Stand.throwing_vm]; exact X2.method') X2.code, htab]
    exact hgo Q E d acts
  have X3 := X2.noted hv'
  obtain ⟨t, s1, s2⟩ := kk a T'.heap (by rw [← hheap1]; exact hsz) (fun q hq => by rw [hold q (by rw [hheap1]; exact hq), hheap1]) ls hl (T'.setVm vm') rfl (by simpa using X3)
  refine ⟨t, hstep₁ _ fun acts => ?_, s2⟩
  rw [doInvoke_state]
  exact hsteps.trans (xf_caught X2.here hfind s1)
theorem lo_AR {Z : cz_Z} : iz_O (lz_G Z) 0 0 (fz_AR Z 0) := ⟨by show (0 : Nat) < 174; decide, fun f => rfl⟩

