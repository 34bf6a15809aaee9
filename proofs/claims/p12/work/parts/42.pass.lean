/-! a call that ends in a throw: what the caller finds -/
set_option maxHeartbeats 4000000 in
theorem xt_call {p : Program} {l : Launch} {e : Env} {R : Room} {s : State} {m : MethodId} {sargs : Array Value} {below : List Frame} {meth : Method} {c : Code} {U : State} {locs : List Loc} {cells slots : Nat} (X : Stand p l e R s m sargs below meth c U locs cells slots)
    {y : MethodName} {mk : MethodId} {cd : Cond} {rm : Room} {G : jz_G} {as : List Value} {mm : jz_M} {cls : String} {bytes : ByteArray} {maxL : Nat} {ret : Option FieldType} (hM : xt_m l y cd rm G as mm cls)
    {g : JFrame} {ig : Instr} {len : Nat} (hg : g.method = m) (hsize : g.locals.size = c.maxLocals) (hdg : decode c.code g.pc = .ok (ig, len)) (hWt : 2 * g.monitorRoom + (g.stack.map fun v => v.category).sum ≤ 8) (hn : U.methodNamed? y = some mk)
    (hws : (allAtoms (cd :: gw_tbl)).before as.toArray U = true) (hcd : (Cond.code y bytes maxL ret).before as.toArray U = true) (hini : (Cond.initialized y.cls).before as.toArray U = true) (hfr : rm.frames + 1 ≤ R.frames) (hlo : 8 + (maxL + 11) + rm.locals ≤ R.locals) (hc : cells + rm.cells ≤ R.cells) (hs : slots + rm.slots ≤ R.slots) (hP : jz_W G mm U) (hx : xz_ok U) :
    ∃ (a : Addr) (ce : Cell) (T' : State), Stand p l e R s m sargs below meth c T' locs (cells + 1) (slots + 6) ∧ U.WarmedH T'.vm ∧ (∀ q : Nat, q < U.heap.size → T'.heap[q]? = U.heap[q]?) ∧ U.heap.size ≤ T'.heap.size ∧ T'.heap[a]? = some ce ∧ U.vm.findClass cls = some ce.cls ∧ ce.vm = .none ∧
      Steps p.tables e below (doInvoke e (U.setTop g) [] mk as.toArray).1 ((T'.setTop g).pushFrame (.throwing a)) := by
  have h : At U g.method c below := by rw [hg]; exact X.here
  obtain ⟨methY, cY, hmY, hcY, -, hlY, -, -, -, -⟩ := Cond.code_spec hn hcd
  obtain ⟨kY, hkY, -⟩ := className_of_methodNamed hn
  have hinitY : kY.init = .initialized := Cond.initialized_spec (findClass_of_methodNamed hn) hkY hini
  have happ : (headSpec (cd :: gw_tbl) rm).appliesLoose y e.platform (U.calling g mk as.toArray) = true :=
    Spec.appliesLoose_calling (g := g) h hdg hn hkY hinitY
      (X.room_calling (g := g) (R' := (headSpec (cd :: gw_tbl) rm).room) hsize hmY hcY hfr (by rw [hlY]; show _ + (maxL + 11) + rm.locals ≤ _; omega) hc hs) hws
  obtain ⟨mid, hmid⟩ := h.above
  have hfr2 : (U.setTop g).frames = (.java g :: mid) ++ below := by rw [State.frames_setTop' g h.top, hmid]; rfl
  have hPc : va_Pc as (fun U => jz_W G mm U ∧ xz_ok U) as.toArray (U.calling g mk as.toArray) := by
    obtain ⟨qP, qK, qN⟩ := hP
    exact ⟨rfl, ⟨qP, va_K.moved (u := U) (U := U.calling g mk as.toArray) (Vm.Alike.refl U.vm) qK, nw_ok.same (s := U) (U := U.calling g mk as.toArray) rfl qN⟩, xz_ok.same (s := U) (U := U.calling g mk as.toArray) rfl rfl hx⟩
  obtain ⟨o, s₂, hsteps, -, hend, hq⟩ := Steps.callFree hM p X.admits X.cas X.clock (acts := []) hfr2 happ hPc trivial
  rw [State.frames_setTop' g h.top] at hend
  have hq' : xz_Q cls as.toArray (U.calling g mk as.toArray) o s₂ ∧ (U.calling g mk as.toArray).WarmedH s₂.vm ∧ (U.calling g mk as.toArray).sameButNew ({ s₂ with vm := (U.calling g mk as.toArray).vm } : State) [] 1 6 := hq
  obtain ⟨⟨a, ce, rfl, k1, k2, k3⟩, hW, hsame⟩ := hq'
  obtain ⟨e2, q2, q3, q4, q5, q6⟩ := id hsame
  have e3 : s₂ = ({ (U.calling g mk as.toArray).setFrames s₂.frames with heap := s₂.heap, slotsUsed := s₂.slotsUsed } : State).setVm s₂.vm := by
    have : s₂ = ({ s₂ with vm := (U.calling g mk as.toArray).vm } : State).setVm s₂.vm := rfl
    rw [e2] at this
    exact this
  have hf₂ : s₂.frames = .throwing a :: .java g :: U.frames.tail := hend
  have hW' : U.WarmedH s₂.vm := hW
  obtain ⟨g₀, hg0⟩ := Option.isSome_iff_exists.mp h.top
  obtain ⟨r, hr⟩ := State.topJava?_eq_some.mp hg0
  have hs₂ : s₂ = ((({ U with heap := s₂.heap, slotsUsed := s₂.slotsUsed } : State).setVm s₂.vm).setTop g).pushFrame (.throwing a) := by
    have hr' : (({ U with heap := s₂.heap, slotsUsed := s₂.slotsUsed } : State).setVm s₂.vm).frames = .java g₀ :: r := hr
    refine e3.trans ?_
    rw [hf₂, State.calling_eq h.top, State.setFrames_setFrames, State.pushFrame, State.frames_setTop _ hr', State.setTop_of_frames _ hr', State.setFrames_setFrames, hr]
    rfl
  have hsame2 : U.sameButNew ({ U with heap := s₂.heap, slotsUsed := s₂.slotsUsed } : State) [] 1 6 := by
    refine ⟨?_, q2, q3, q4, q5, q6⟩
    obtain ⟨t, ht, -⟩ := State.frames_cons hr
    show ({ U with heap := s₂.heap, slotsUsed := s₂.slotsUsed } : State) = { U.setFrames U.frames with heap := s₂.heap, slotsUsed := s₂.slotsUsed }
    rw [State.setFrames_self ht]
  refine ⟨a, ce, ({ U with heap := s₂.heap, slotsUsed := s₂.slotsUsed } : State).setVm s₂.vm, ⟨X.admits, X.cas, X.clock, X.frames, X.room, X.hears, X.method, X.code, ?_, X.tail, State.WarmedH.trans X.warmed hW', X.limits, X.bytes, ?_⟩, hW', ?_, q2, k1, k2, k3, ?_⟩
  · exact (X.here.setHeapUsed s₂.heap s₂.slotsUsed).setVm hW'.alike
  · have := X.same.trans (hsame2.setVm s.vm)
    rw [List.append_nil] at this
    exact this
  · intro q hq
    have hlt : U.heap[q]? = some U.heap[q] := Array.getElem?_eq_getElem hq
    rw [hlt]
    exact hsame2.old_cell hlt
  · rw [← hs₂]
    exact hsteps
def xr_ok (rm : Room) (maxL : Nat) (R : Room) : Bool := decide (rm.cells ≤ R.cells) && decide (rm.slots ≤ R.slots) && decide (rm.frames + 1 ≤ R.frames) && decide (8 + (maxL + 11) + rm.locals ≤ R.locals)
theorem xr_use {rm : Room} {maxL : Nat} {R : Room} (h : xr_ok rm maxL R = true) : rm.cells ≤ R.cells ∧ rm.slots ≤ R.slots ∧ rm.frames + 1 ≤ R.frames ∧ 8 + (maxL + 11) + rm.locals ≤ R.locals := by
  simp only [xr_ok, Bool.and_eq_true, decide_eq_true_eq] at h
  exact ⟨h.1.1.1, h.1.1.2, h.1.2, h.2⟩
/-- a caller without handlers passes it on -/
theorem jp_pass {X : jz_X} {nL : Nat} {cc : ByteArray} {own : String} {ret : Option FieldType} {rm0 : Room} {G : jz_G} {m : jz_M} {lv : List (Nat × Value)} {st : List Value} (pc : Nat) {k ci Nf : Nat} {T : u_T} {F : (Nat → Int32) → List Value} (As : List Value) {cd : Cond} {y : MethodName} {bytes : ByteArray} {maxL n ix : Nat} {rt : Option FieldType} {rm : Room} {st0 : List Value} {cls : String} (C : jp_C X nL cc own ret rm0 G m) (d : decode cc pc = .ok (.invokevirtual ix, 3)) (hM : xt_m (xz_l X) y cd rm G (.ref (gz_ad G k) :: As) m cls) (hs : cz_S cd y bytes maxL rt n) (hv : cz_V y) (hlink : Cond.methodLink own ix y ∈ lw_tbl) (hO : iz_O G k ci F) (hc : (gz_cl G)[ci]? = some (y.cls, T, Nf)) (hR : xr_ok rm maxL rm0 = true) (hn : As.length = n) (hst0 : st0 = As.reverse ++ .ref (gz_ad G k) :: st) (hwt : (st.map fun v => v.category).sum ≤ 8) (hx : xz_ok (xz_s X)) (noh : (xz_c X).exceptionTable.isEmpty = true) : jp_J X nL (xz_q X cls) lv pc st0 := fun ls hl => by
  have hRe := C.1.2.2.2.2.2.2.2.2.2.1
  have hR2 := xr_use hR
  rw [← hRe] at hR2
  obtain ⟨rfl, hcm, him, hy, hnn⟩ := hs
  have hc2 : Cond.code y bytes maxL rt ∈ gw_tbl := gw_in hcm (by first | rfl | simp [gw_ok, Cond.onTables, Cond.keeps, Cond.steady])
  have hcode := C.1.2.2.2.2.1 _ hc2
  have hini := C.1.2.2.2.2.1 _ (gw_in him (by first | rfl | simp [gw_ok, Cond.onTables, Cond.keeps, Cond.steady]))
  have hln := C.1.2.2.2.2.1 _ (gw_in hlink (by first | rfl | simp [gw_ok, Cond.onTables, Cond.keeps, Cond.steady]))
  obtain ⟨hinst, hsel⟩ := cz_I C.1 hv
  obtain ⟨cellB, hcB, hoB, hclB⟩ := va_recv C.1.2.2.2.2.2.1 C.2 hc (q0 := k) (ci := ci) (a := gz_ad G k) (fs := F (m k)) (by rw [jz_w_at hO.1, hO.2])
  have hpay := pay_in C.1.2.2.2.2.1 (gw_good hc2)
  intro T0 hT X0
  obtain ⟨mk, methM, hnamed, hmethM, hstM, habM⟩ := Cond.instanceMethod_spec hinst
  obtain ⟨methM', cM, hmethM', -, -, -, -, -, -, hsigM⟩ := Cond.code_spec hnamed hcode
  cases hmethM.symm.trans hmethM'
  obtain ⟨c2, r2, m2, q1, q2, q3, q4, kP, hkP, hkPi⟩ := Cond.selects_spec hsel
  cases hclB.symm.trans q1
  cases (State.methodFound?_of_named hnamed hy).symm.trans q2
  cases hnamed.symm.trans q3
  have hselP : selectMethod (xz_e X).platform (xz_s X).vm cellB.cls mk = .method mk := by rw [Launch.admits_selectMethod X0.admits]; exact q4
  have hlen : ∀ sig, parseMethodDescriptor y.desc = some sig → As.length = sig.parameters.length := fun sig h => by
    rw [h] at hnn
    exact hn.trans (Option.some.inj hnn).symm
  obtain ⟨vm₁, X₁, hstep₁⟩ := X0.invokevirtual C.1.1 C.1.2.2.2.1 hln hnamed hmethM hstM hkP hkPi hy (a := gz_ad G k) (cell := cellB) (by rw [hT]; exact hcB)
    (fun z h => by rw [h] at hoB; cases hoB) hselP hmethM habM hkP hkPi (g := F0 (xz_m X) pc ls st0) rfl (argsL := As) (rest := st) (hlen _ hsigM) hst0 (by rw [C.1.2.1]; exact d)
  have hw1 : (xz_s X).WarmedH (T0.setVm vm₁).vm := X₁.warmed
  have hheap1 : (T0.setVm vm₁).heap = (xz_s X).heap := hT
  obtain ⟨a, ce, T', X2, hW2, hold, hsz, k1, k2, k3, hsteps⟩ := xt_call X₁ (y := y) (mk := mk) (bytes := bytes) (maxL := maxL) (ret := rt) hM (g := { F0 (xz_m X) pc ls st0 with stack := st }) (ig := .invokevirtual ix) (len := 3) rfl (hl.1.trans C.1.2.2.1.symm) (by rw [C.1.2.1]; exact d) (lv_room hwt) (X₁.named hnamed)
    (atoms_intro fun w hw => hpay w hw _ _ hw1) (hpay _ List.mem_cons_self _ _ hw1) (word_at hw1 (Or.inl (by first | rfl | simp [Cond.onTables, Cond.keeps, Cond.steady])) hini) hR2.2.2.1 hR2.2.2.2 (by simpa using hR2.1) (by simpa using hR2.2.1)
    ⟨by rw [hheap1]; exact C.2, va_K.moved hw1.alike C.1.2.2.2.2.2.1, nw_ok.warm hw1 C.1.2.2.2.2.2.2.2.2.2.2⟩ (xz_ok.move hw1 (fun q _ => by rw [hheap1]) hx)
  obtain ⟨l1, l2, l3, l4, l5⟩ := X2.leaveThrown a (g := { F0 (xz_m X) pc ls st0 with stack := st }) rfl rfl rfl (covers_of_empty noh _) (hlocks := C.1.2.2.2.2.2.2.2.1)
  refine ⟨T'.setFrames (.throwing a :: (xz_b X)), hstep₁ _ fun acts => by rw [doInvoke_state]; exact hsteps.trans l1, .threw a, l2, l3, ⟨a, ce, rfl, k1, ?_, k3⟩, l4, by simpa using l5⟩
  rw [← k2]
  exact (hw1.alike.findClass _ _).symm

