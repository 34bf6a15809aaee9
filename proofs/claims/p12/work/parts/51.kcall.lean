/-! a constructor's contract, and its call -/
theorem kz_met {l : Launch} {y : MethodName} {cc : ByteArray} {nL : Nat} {rm : Room} {D : va_G} {cA : Nat → ClassId} {b n n' : Nat} {E E' : Nat → va_E} {as : List Value} {mc ms : Nat} {own : String} (hy : plainName y.cls = true) (ho : y.cls = own) (hi : y.name = "<init>") (hlen : (lg_sl as).length ≤ nL)
    (body : ∀ X : jz_X, xz_l X = l → kz_C X nL cc own rm D cA b n → kz_J X nL D b (kz_q X D cA b n' E' mc ms) n E 0 0 (lv_args 0 as) 0 []) : kz_m l y (.code y cc nL none) rm D cA b as n E n' E' mc ms := by
  refine Met.ofW (cc := cc) (maxL := nL) (ret := none) hy rfl ?_
  intro p e s mi args below meth c s₁ B hml hv
  obtain ⟨rfl, hP, hK, hN, hA, hz⟩ := hv
  have hts := atoms_spec (ws := Cond.code y cc nL none :: gw_tbl) B.pre
  subst ho
  have hnm : meth.name = "<init>" := (name_of_methodNamed B.named B.method).1.trans hi
  have C : kz_C (p, l, e, (headSpec (Cond.code y cc nL none :: gw_tbl) rm).room, s, mi, as.toArray, below, meth, c) nL cc y.cls rm D cA b n := ⟨B.exec, B.bytes, hml, findClass_of_methodNamed B.named, fun w h => hts w (List.mem_cons_of_mem _ h), hK, hz, B.notSynchronized, B.returns, rfl, hN, hnm, hA⟩
  have hq := body _ rfl C s.heap [] _ hP va_S.rf (lv_entry as hlen)
  rw [lg_entry_eq]
  exact hq
theorem kz_blind {D : va_G} {cA : Nat → ClassId} {b n : Nat} {E : Nat → va_E} {as : List Value} : FrameBlind (va_Pc as (kz_W D cA b n E)) := fun a U g mk q => by
  obtain ⟨q0, qP, qK, qN, qA, qz⟩ := q
  exact ⟨q0, qP, va_K.moved (u := U) (U := U.calling g mk a) (Vm.Alike.refl U.vm) qK, nw_ok.same (s := U) (U := U.calling g mk a) rfl qN, ka_ok.moved (u := U) (U := U.calling g mk a) (Vm.Alike.refl U.vm) qA, qz⟩
def kr_ok (rm : Room) (maxL : Nat) (R : Room) : Bool := decide (rm.frames + 1 ≤ R.frames) && decide (8 + (maxL + 11) + rm.locals ≤ R.locals)
theorem kr_use {rm : Room} {maxL : Nat} {R : Room} (h : kr_ok rm maxL R = true) : rm.frames + 1 ≤ R.frames ∧ 8 + (maxL + 11) + rm.locals ≤ R.locals := by
  simp only [kr_ok, Bool.and_eq_true, decide_eq_true_eq] at h
  exact h
theorem kr_initN {X : jz_X} {nL : Nat} {cc : ByteArray} {own : String} {rm0 : Room} {D : va_G} {cA : Nat → ClassId} {b n0 : Nat} {Q : State → Prop} {n : Nat} {E : Nat → va_E} {kc ks : Nat} {lv : List (Nat × Value)} {st : List Value} (pc : Nat) {ix a mc ms n' maxL : Nat} {E' : Nat → va_E} {y : MethodName} {cd : Cond} {bytes : ByteArray} {rm : Room} {host : String} (C : kz_C X nL cc own rm0 D cA b n0) (d : decode cc pc = .ok (.invokespecial ix, 3)) (hM : kz_m (xz_l X) y cd rm D cA b [.ref a] n E n' E' mc ms) (hs : cz_S cd y bytes maxL none 0) (hi : Cond.instanceMethod y ∈ lw_tbl) (hy1 : y.name = "<init>") (hlink : Cond.methodLinkNest own ix y host ∈ lw_tbl) (hrm : rm.cells = mc ∧ rm.slots = ms) (hR : kr_ok rm maxL rm0 = true) (hcs : kc + mc ≤ rm0.cells ∧ ks + ms ≤ rm0.slots) (hkn : n = n0 + kc) (hwt : (st.map fun v => v.category).sum ≤ 8) (k : kz_J X nL D b Q n' E' (kc + mc) (ks + ms) lv (pc + 3) st) : kz_J X nL D b Q n E kc ks lv pc (.ref a :: st) := fun H locs ls hP hS hl => by
  have hRe := C.2.2.2.2.2.2.2.2.2.1
  have hR2 := kr_use hR
  rw [← hRe] at hR2 hcs
  obtain ⟨rfl, hcm, him, hy, hnn⟩ := hs
  have hc2 : Cond.code y bytes maxL none ∈ gw_tbl := gw_in hcm (by first | rfl | simp [gw_ok, Cond.onTables, Cond.keeps, Cond.steady])
  refine kz_sz (fun hup => ?_)
  have hz := kz_size hP hS C.2.2.2.2.2.2.1 hkn hup
  have hrun := va_runIN (As := []) (rest := st) (g := F0 (xz_m X) pc ls (.ref a :: st)) (b := a) (H := H) (locs := locs) (cells := kc) (slots := ks) (R := xz_R X) (below := xz_b X) (e := xz_e X) (meth := xz_t X) ⟨C.1, C.2.1, C.2.2.1, C.2.2.2.1, C.2.2.2.2.1⟩ hM
    ⟨va_cnB 0 C.2.2.2.2.1 (gw_good hc2) rfl hrm.1 hrm.2 (C.2.2.2.2.2.2.2.2.2.2.1 _ (nw_in hlink rfl)) (C.2.2.2.2.1 _ (gw_in him (by first | rfl | simp [gw_ok, Cond.onTables, Cond.keeps, Cond.steady]))) ⟨hy.1, hy.2, hnn⟩ hR2, hy1, C.2.2.2.2.1 _ (gw_in hi (by first | rfl | simp [gw_ok, Cond.onTables, Cond.keeps, Cond.steady]))⟩
    ⟨kz_blind, fun U hU hW => ⟨rfl, by rw [hU]; exact hP, va_K.moved hW.alike C.2.2.2.2.2.1, nw_ok.warm hW C.2.2.2.2.2.2.2.2.2.2.1, ka_ok.moved hW.alike C.2.2.2.2.2.2.2.2.2.2.2.2, by rw [hU]; exact hz⟩⟩ rfl rfl hl.1 rfl (lv_room hwt) d hcs
  intro T hT X0
  obtain ⟨v, st₀, t, T', L, h0, X', hL, e1, e2, ⟨hv, hw, hz1, hk⟩, go⟩ := hrun T hT X0
  cases hv
  rw [h0] at hz1 hk
  obtain ⟨t2, a1, b1⟩ := k T'.heap (locs ++ L) ls (by rw [e1]; exact hw.1)
    ⟨Nat.le_trans hS.1 (by rw [e1]; exact hz1), fun q h1 h2 => by rw [e1, hk q (Nat.lt_of_lt_of_le h1 hS.1) h2]; exact hS.2.1 q h1 h2, fun q hq => by
      rcases List.mem_append.mp hq with h | h
      · exact hS.2.2 q h
      · exact hL q h⟩ hl T' rfl X'
  exact ⟨t2, go t2 a1, b1⟩

