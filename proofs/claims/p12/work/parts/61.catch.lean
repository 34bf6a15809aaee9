/-! a throw that is caught: entries that name another class are passed, the first that fits is taken; their classes may be linked by the search -/
def xf_F (e : Env) (s : State) (f : JFrame) (a : Addr) (h : Handler) (vm' : Vm) : Prop := ∀ (Q : Handler → Pre) (E : CtlPost) (d : Bool) (acts : List Action), Sem.wp (findHandler f a) Q E e d acts s ↔ Q h d acts (s.setVm vm')
theorem xf_1 {e : Env} {s : State} {f : JFrame} {a : Addr} {x : ExceptionTableEntry} {t : List ExceptionTableEntry} {c : ClassId} {cell : Cell} {b : Bool} (hx : covers x f.pc = true) (h0 : x.catchType ≠ 0) (hl : s.vm.ClassLinks e.platform f.method.cls x.catchType c) (hcell : s.heap[a]? = some cell) (hobj : ∀ k, cell.vm ≠ .statics k)
    (hk : ∃ k, s.vm.classes[cell.cls]? = some k) (hc : ∃ k, s.vm.classes[c]? = some k) (hfit : s.vm.assignable cell.cls c = b) (Q : Handler → Pre) (E : CtlPost) (d : Bool) (acts : List Action) :
    Sem.wp (findHandler.go f a (x :: t)) Q E e d acts s ↔ (if b = true then Q (.found x.handlerPc) d acts (s.setVm (s.vm.noted f.method.cls x.catchType (.cls c))) else Sem.wp (findHandler.go f a t) Q E e d acts (s.setVm (s.vm.noted f.method.cls x.catchType (.cls c)))) := by
  simp only [covers] at hx
  obtain ⟨ha, ht⟩ := (resolveClass_links e.toSetting hl).op (op := VmOp.resolveClass f.method.cls x.catchType) rfl
  have hal : s.vm.Alike (s.vm.noted f.method.cls x.catchType (.cls c)) := (Vm.Alike.refl s.vm).noted _ _ _
  obtain ⟨k1, hk1⟩ := hk
  obtain ⟨k2, hk2⟩ := hc
  obtain ⟨k1', hk1', -⟩ := hal.2.2 _ _ hk1
  obtain ⟨k2', hk2', -⟩ := hal.2.2 _ _ hk2
  have hfit' : (s.vm.noted f.method.cls x.catchType (.cls c)).assignable cell.cls c = b := by rw [hal.assignable]; exact hfit
  cases b <;> simp [findHandler.go, hx, h0, ha, ht, hcell, hobj, hk1', hk2', hfit', VmOp.dirties, VmOp.acts]
/-- what the tables say of an entry's class -/
def xf_L (own : String) (args : Array Value) (s : State) (cl : ClassId) (q : ExceptionTableEntry × String) (pc : Nat) (b : Bool) : Prop := covers q.1 pc = true ∧ q.1.catchType ≠ 0 ∧ (Cond.classLink own q.1.catchType q.2).before args s = true ∧ ∃ t, s.vm.findClass q.2 = some t ∧ s.vm.assignable cl t = b
theorem xf_go {e : Env} {s : State} {f : JFrame} {a : Addr} {cell : Cell} {own : String} {args : Array Value} (hown : s.vm.findClass own = some f.method.cls) (hpl : e.platform.magicAccessors = ({} : Platform).magicAccessors) (hobj : ∀ k, cell.vm ≠ .statics k) (hcls : ∃ k, s.vm.classes[cell.cls]? = some k)
    (x : ExceptionTableEntry × String) (rest : List ExceptionTableEntry) (hx : xf_L own args s cell.cls x f.pc true) :
    ∀ (ps : List (ExceptionTableEntry × String)), (∀ q ∈ ps, xf_L own args s cell.cls q f.pc false) → ∀ U : State, s.WarmedH U.vm → U.heap[a]? = some cell →
      ∃ vm', s.WarmedH vm' ∧ ∀ (Q : Handler → Pre) (E : CtlPost) (d : Bool) (acts : List Action), Sem.wp (findHandler.go f a (ps.map (fun q => q.1) ++ x.1 :: rest)) Q E e d acts U ↔ Q (.found x.1.handlerPc) d acts (U.setVm vm') := by
  have step : ∀ (q : ExceptionTableEntry × String) (b : Bool), xf_L own args s cell.cls q f.pc b → ∀ U : State, s.WarmedH U.vm → U.heap[a]? = some cell → ∃ cT, s.WarmedH (U.vm.noted f.method.cls q.1.catchType (.cls cT)) ∧ ∀ (t : List ExceptionTableEntry) (Q : Handler → Pre) (E : CtlPost) (d : Bool) (acts : List Action), Sem.wp (findHandler.go f a (q.1 :: t)) Q E e d acts U ↔ (if b = true then Q (.found q.1.handlerPc) d acts (U.setVm (U.vm.noted f.method.cls q.1.catchType (.cls cT))) else Sem.wp (findHandler.go f a t) Q E e d acts (U.setVm (U.vm.noted f.method.cls q.1.catchType (.cls cT)))) := by
    intro q b hq U hW hcell
    obtain ⟨h1, h2, h3, t, h4, h5⟩ := hq
    obtain ⟨c', hc', hcl⟩ := Cond.classLink_spec hown h3 e.platform hpl
    cases h4.symm.trans hc'
    obtain ⟨dk, _, _, kt, hd, _, _, _, _, hkt, _, hopen⟩ := hcl.here
    have hcl₀ := hW.classLinks hcl
    have hW' : s.WarmedH (U.vm.noted f.method.cls q.1.catchType (.cls t)) := hW.noted hd hopen (State.rightAt_cls hcl)
    obtain ⟨kt', hkt', -⟩ := hW.alike.2.2 _ _ hkt
    obtain ⟨k0, hk0⟩ := hcls
    obtain ⟨k0', hk0', -⟩ := hW.alike.2.2 _ _ hk0
    exact ⟨t, hW', fun tl Q E d acts => xf_1 h1 h2 hcl₀ hcell hobj ⟨k0', hk0'⟩ ⟨kt', hkt'⟩ (by rw [hW.alike.assignable]; exact h5) Q E d acts⟩
  intro ps
  induction ps with
  | nil =>
    intro _ U hW hcell
    obtain ⟨cT, hW', hgo⟩ := step x true hx U hW hcell
    exact ⟨_, hW', fun Q E d acts => by simpa using hgo rest Q E d acts⟩
  | cons q ps ih =>
    intro hps U hW hcell
    obtain ⟨cT, hW', hgo⟩ := step q false (hps q List.mem_cons_self) U hW hcell
    obtain ⟨vm', hv, hgo2⟩ := ih (fun z hz => hps z (List.mem_cons_of_mem _ hz)) (U.setVm (U.vm.noted f.method.cls q.1.catchType (.cls cT))) hW' hcell
    refine ⟨vm', hv, fun Q E d acts => ?_⟩
    have h1 := hgo (ps.map (fun q => q.1) ++ x.1 :: rest) Q E d acts
    rw [if_neg (by decide)] at h1
    exact h1.trans (hgo2 Q E d acts)
theorem xf_step {e : Env} {s : State} {a : Addr} {f : JFrame} {r : List Frame} {pc : Nat} {vm' : Vm} (hfind : xf_F e s f a (.found pc) vm') : (stepThrowing e s a (.java f :: r)).Is ((s.setVm vm').setFrames (.java { f with pc := pc, stack := [.ref a] } :: r)) [] := by
  simp only [stepThrowing, searchFrame, vmDo]
  generalize hr : Sem.go _ e false [] s = res
  obtain ⟨as, rfl, ha⟩ := Sem.eq_ok_of hr (a := Handler.found pc) (s' := s.setVm vm') (acts' := []) (by simp [hfind _ _ _ _])
  exact ⟨rfl, ha⟩
theorem xf_caught {tb : Tables} {e : Env} {s target : State} {g : JFrame} {c : Code} {below : List Frame} {a : Addr} (h : At s g.method c below) {pc : Nat} {vm' : Vm} (hfind : xf_F e ((s.setTop g).pushFrame (.throwing a)) g a (.found pc) vm') (hrest : Steps tb e below ((s.setVm vm').setTop { g with pc := pc, stack := [.ref a] }) target) :
    Steps tb e below ((s.setTop g).pushFrame (.throwing a)) target := by
  obtain ⟨hgo, hw⟩ := h.throwing a
  refine Steps.head hgo hw ?_
  rw [stepThread_throwing (frames_entered h.top _), (xf_step (s := (s.setTop g).pushFrame (.throwing a)) hfind).1]
  obtain ⟨g₀, hg⟩ := Option.isSome_iff_exists.mp h.top
  obtain ⟨r, hr⟩ := State.topJava?_eq_some.mp hg
  have hr' : (s.setVm vm').frames = .java g₀ :: r := hr
  rw [State.setTop_of_frames _ hr'] at hrest
  have e1 : ∀ (u : State) (F G : List Frame), ((u.setFrames F).setVm vm').setFrames G = (u.setVm vm').setFrames G := fun u F G => by
    have h1 : (u.setFrames F).setVm vm' = (u.setVm vm').setFrames F := rfl
    rw [h1, State.setFrames_setFrames]
  rw [hr, List.tail_cons, State.pushFrame, e1, State.setTop_of_frames _ hr, e1]
  exact hrest

