/-! REPORT, S1, on the machine: at every start whose script is S1's the law answers 0 -/
def s1_xs : List Int32 := [6, 0, 0, 0, 0, 0, 0, 0, 2, 0, 10, 0, 1, 0, 0]
def lw_Q0 (_ : Array Value) (s : State) (o : Outcome) (t : State) : Prop := o = .returned (some (.int 0)) ∧ Framed s o t [] 601024 7293034
def lw_Z0 (below : List Frame) (a : Array Value) (s : State) : State → Prop := fun t => ∃ o, t.status = .running ∧ Ended t below o ∧ lw_Q0 a s o t
theorem lw_ret0 {p : Program} {l : Launch} {e : Env} {s : State} {m : MethodId} {below : List Frame} {meth : Method} {c : Code} {b : Nat} (hx : p.tables.exec = Jvm.exec) (hb : c.code = code) (hr : meth.sig.returnType = ret) (hlocks : meth.locks = false) {pc : Nat} {H : Heap} {ls : Array Slot} (hdg : decode code pc = .ok (.ireturn, 1)) : W p l e room_1 s m #[Value.ref b] below meth c H [] 601024 7293034 (lw_Z0 below #[Value.ref b] s) (F0 m pc ls [.int 0]) := by
  intro T hT X
  obtain ⟨fs, hret, hrun, hended, hW, hframe⟩ := X.leave (v := some (.int 0)) (hlocks := hlocks) (fun h => by rw [hr] at h; cases h)
  have hmeth' : T.vm.method? m = some meth := X.method'
  refine ⟨T.setFrames fs, ?_, .returned (some (.int 0)), hrun, hended, rfl, ⟨_, rfl⟩, hW, hframe⟩
  jvm_step X.here [X.here.top, hx, hb, hdg, hmeth', hr, ret, narrow_b0]
  (try refine ⟨rfl, ?_⟩); (try refine ⟨rfl, ?_⟩)
  first | (intro acts; rw [hret _ acts rfl rfl rfl]) | rw [hret _ _ rfl rfl rfl]
  exact Steps.refl _
theorem law_end0 {p : Program} {l : Launch} {e : Env} {s : State} {mi : MethodId} {below : List Frame} {meth : Method} {c0 : Code} {Z : cz_Z} {b L : Nat} {xs : Nat → Int32} (C : jz_C (p, l, e, room_1, s, mi, #[Value.ref b], below, meth, c0) 7 code R_Lw (some .boolean) room_1 (lz_G Z)) (hX : jl_S (p, l, e, room_1, s, mi, #[Value.ref b], below, meth, c0) (lz_G Z) b L xs) {kc ks : Nat} (h1 : kc ≤ 601024) (h2 : ks ≤ 7293034) {m : jz_M} {lv : List (Nat × Value)} : jl_J (p, l, e, room_1, s, mi, #[Value.ref b], below, meth, c0) 7 (lz_G Z) kc ks (lw_Z0 below #[Value.ref b] s) m lv 670 [] := fun H locs ls hP hS hl => by
  refine lv_iconst (v := 0) C.1 C.2.1 dl_670 (by decide) ?_
  refine va_forget (fun q hq => ?_) ?_
  · obtain ⟨k, hk, e9⟩ := hS.2.2 q hq
    rw [e9]
    exact hX.2.2 k hk
  · exact W.widen (k := 601024) (n := 7293034) h1 h2 (lw_ret0 C.1 C.2.1 C.2.2.2.2.2.2.2.2.1 C.2.2.2.2.2.2.2.1 dl_671)
set_option maxHeartbeats 4000000 in
set_option maxRecDepth 100000 in
theorem lz_describe_ {X : jz_X} {Z : cz_Z} {b L : Nat} {xs : Nat → Int32} {Q : State → Prop} (C : jz_C X 7 code R_Lw (some .boolean) room_1 (lz_G Z)) (hX : jl_S X (lz_G Z) b L xs) (hI : jz_I (lz_G Z)) (hx : xz_ok (xz_s X)) (hxn : xn_ok (xz_s X)) (hl0 : (xz_l X).stackTraces = false) {I : Nat → jz_M → jz_M → Prop} {c : Nat} {mc mm : jz_M} {v x4 : Int32} (hc : c < 512) (hs : ∃ q, f_Mo_describe (xs (5 * c + 1)) mm = some q ∧ ((∃ r, f_AR_describe (xs (5 * c + 1)) mc = some r ∧ q.2 0 0 = 0 ∧ r.1 = q.1 ∧ I (c + 1) r.2 q.2) ∨ (fx_AR_describe (xs (5 * c + 1)) mc = some 1 ∧ q.2 0 0 = 1 ∧ I (c + 1) mc q.2))) (hx4 : x4 = nI (5 * c)) (hL : 5 * c + 5 ≤ L) (hL2 : L ≤ 2560) (kend : ∀ (mc2 mm2 : jz_M) (v2 : Int32), I (c + 1) mc2 mm2 → jl_J X 7 (lz_G Z) (174 + (c + 1)) (21461 + 6 * (c + 1)) Q (lm_ mc2 mm2 v2) [(0, .ref b), (1, .ref (gz_ad (lz_G Z) 0)), (2, .ref (gz_ad (lz_G Z) 152)), (3, .ref (gz_ad (lz_G Z) 173)), (4, .int x4)] 795 []) : jl_J X 7 (lz_G Z) (174 + c) (21461 + 6 * c) Q (lm_ mc mm v) [(0, .ref b), (1, .ref (gz_ad (lz_G Z) 0)), (2, .ref (gz_ad (lz_G Z) 152)), (3, .ref (gz_ad (lz_G Z) 173)), (4, .int x4)] 462 [] := by
  have hcs : 174 + c ≤ room_1.cells ∧ 21461 + 6 * c ≤ room_1.slots := ⟨by show 174 + c ≤ 601024; omega, by show 21461 + 6 * c ≤ 7293034; omega⟩
  obtain ⟨q, h2, hq⟩ := hs
  rcases hq with ⟨r, h1, ht, hr, hi⟩ | ⟨h1, ht, hi⟩
  · skip
    refine jl_aload_n 462 C dl_462 rfl ?_
    refine jl_aload_n 463 C dl_463 rfl ?_
    refine jl_iload 464 C dl_464 rfl ?_
    refine jl_iconst 466 1 C dl_466 (by decide) ?_
    refine jl_iadd 467 C dl_467 ?_
    refine jl_sld 468 C dl_468 hX (ll_in hx4 (j := 1) rfl (by omega) hL2) ?_
    refine jl_top (ll_at hx4 (j := 1) rfl (by omega) hL2) ?_
    refine jl_aload_n 469 C dl_469 rfl ?_
    refine jl_callH 470 [.ref (gz_ad (lz_G Z) 0), .int (xs (5 * c + 1)), .ref (gz_ad (lz_G Z) 173)] C dl_470 (lh0_describe (xz_l X) hI mm v h1) (lt_3 (i := 124) (by set_option maxRecDepth 100000 in exact rfl)) (lt_1 (i := 0) (by set_option maxRecDepth 100000 in exact rfl)) (lt_3 (i := 123) (by set_option maxRecDepth 100000 in exact rfl)) ll_63 (by decide) (n := 3) (by decide +kernel) (by decide) ⟨rfl, rfl⟩ ⟨by show 174 + c + 1 ≤ 601024; omega, by show 21461 + 6 * c + 6 ≤ 7293034; omega⟩ rfl rfl (Nat.le_of_ble_eq_true rfl) hx hxn hX.2.2 ?_
    refine jl_istore 473 [(0, .ref b), (1, .ref (gz_ad (lz_G Z) 0)), (2, .ref (gz_ad (lz_G Z) 152)), (3, .ref (gz_ad (lz_G Z) 173)), (4, .int x4), (5, .int 0)] C dl_473 rfl (by decide) rfl ?_
    refine jl_aload_n 475 C dl_475 rfl ?_
    refine jl_aload_n 476 C dl_476 rfl ?_
    refine jl_iload 477 C dl_477 rfl ?_
    refine jl_iconst 479 1 C dl_479 (by decide) ?_
    refine jl_iadd 480 C dl_480 ?_
    refine jl_sld 481 C dl_481 hX (ll_in hx4 (j := 1) rfl (by omega) hL2) ?_
    refine jl_top (ll_at hx4 (j := 1) rfl (by omega) hL2) ?_
    refine jl_callV 482 [.int (xs (5 * c + 1))] C dl_482 (lf_M hI r.2 r.1 (c_Mo_describe (xz_l X) (jz_I_sub lz_subM hI) h2)) sz_Mo_describe tz_Mo_describe ll_66 lo_Mo rfl (by decide) rfl rfl ⟨by show 174 + c + 1 ≤ 601024; omega, by show 21461 + 6 * c + 6 ≤ 7293034; omega⟩ (Nat.le_of_ble_eq_true rfl) rfl ?_
    refine jl_istore 485 [(0, .ref b), (1, .ref (gz_ad (lz_G Z) 0)), (2, .ref (gz_ad (lz_G Z) 152)), (3, .ref (gz_ad (lz_G Z) 173)), (4, .int x4), (5, .int 0), (6, .int q.1)] C dl_485 rfl (by decide) rfl ?_
    refine jl_goto 487 795 C dl_487 (by decide) ?_
    refine jl_sub [0, 1, 2, 3, 4] rfl ?_
    exact jl_widen (by omega) (by omega) (kend _ _ _ hi)
  · skip
    refine jl_aload_n 462 C dl_462 rfl ?_
    refine jl_aload_n 463 C dl_463 rfl ?_
    refine jl_iload 464 C dl_464 rfl ?_
    refine jl_iconst 466 1 C dl_466 (by decide) ?_
    refine jl_iadd 467 C dl_467 ?_
    refine jl_sld 468 C dl_468 hX (ll_in hx4 (j := 1) rfl (by omega) hL2) ?_
    refine jl_top (ll_at hx4 (j := 1) rfl (by omega) hL2) ?_
    refine jl_aload_n 469 C dl_469 rfl ?_
    refine jl_callH 470 [.ref (gz_ad (lz_G Z) 0), .int (xs (5 * c + 1)), .ref (gz_ad (lz_G Z) 173)] C dl_470 (lh1_describe (xz_l X) hl0 hI mm v h1) (lt_3 (i := 124) (by set_option maxRecDepth 100000 in exact rfl)) (lt_1 (i := 0) (by set_option maxRecDepth 100000 in exact rfl)) (lt_3 (i := 123) (by set_option maxRecDepth 100000 in exact rfl)) ll_63 (by decide) (n := 3) (by decide +kernel) (by decide) ⟨rfl, rfl⟩ ⟨by show 174 + c + 1 ≤ 601024; omega, by show 21461 + 6 * c + 6 ≤ 7293034; omega⟩ rfl rfl (Nat.le_of_ble_eq_true rfl) hx hxn hX.2.2 ?_
    refine jl_istore 473 [(0, .ref b), (1, .ref (gz_ad (lz_G Z) 0)), (2, .ref (gz_ad (lz_G Z) 152)), (3, .ref (gz_ad (lz_G Z) 173)), (4, .int x4), (5, .int 1)] C dl_473 rfl (by decide) rfl ?_
    refine jl_aload_n 475 C dl_475 rfl ?_
    refine jl_aload_n 476 C dl_476 rfl ?_
    refine jl_iload 477 C dl_477 rfl ?_
    refine jl_iconst 479 1 C dl_479 (by decide) ?_
    refine jl_iadd 480 C dl_480 ?_
    refine jl_sld 481 C dl_481 hX (ll_in hx4 (j := 1) rfl (by omega) hL2) ?_
    refine jl_top (ll_at hx4 (j := 1) rfl (by omega) hL2) ?_
    refine jl_callV 482 [.int (xs (5 * c + 1))] C dl_482 (lf_M hI mc v (c_Mo_describe (xz_l X) (jz_I_sub lz_subM hI) h2)) sz_Mo_describe tz_Mo_describe ll_66 lo_Mo rfl (by decide) rfl rfl ⟨by show 174 + c + 1 ≤ 601024; omega, by show 21461 + 6 * c + 6 ≤ 7293034; omega⟩ (Nat.le_of_ble_eq_true rfl) rfl ?_
    refine jl_istore 485 [(0, .ref b), (1, .ref (gz_ad (lz_G Z) 0)), (2, .ref (gz_ad (lz_G Z) 152)), (3, .ref (gz_ad (lz_G Z) 173)), (4, .int x4), (5, .int 1), (6, .int q.1)] C dl_485 rfl (by decide) rfl ?_
    refine jl_goto 487 795 C dl_487 (by decide) ?_
    refine jl_sub [0, 1, 2, 3, 4] rfl ?_
    exact jl_widen (by omega) (by omega) (kend _ _ _ hi)
set_option maxHeartbeats 4000000 in
set_option maxRecDepth 100000 in
theorem lz_place_ {X : jz_X} {Z : cz_Z} {b L : Nat} {xs : Nat → Int32} {Q : State → Prop} (C : jz_C X 7 code R_Lw (some .boolean) room_1 (lz_G Z)) (hX : jl_S X (lz_G Z) b L xs) (hI : jz_I (lz_G Z)) (hx : xz_ok (xz_s X)) (hxn : xn_ok (xz_s X)) (hl0 : (xz_l X).stackTraces = false) {I : Nat → jz_M → jz_M → Prop} {c : Nat} {mc mm : jz_M} {v x4 : Int32} (hc : c < 512) (hs : ∃ r q, f_AR_place (xs (5 * c + 1)) (xs (5 * c + 2)) (xs (5 * c + 3)) mc = some r ∧ f_Mo_place (xs (5 * c + 1)) (xs (5 * c + 2)) (xs (5 * c + 3)) mm = some q ∧ r.1 = q.1 ∧ I (c + 1) r.2 q.2) (hx4 : x4 = nI (5 * c)) (hL : 5 * c + 5 ≤ L) (hL2 : L ≤ 2560) (kend : ∀ (mc2 mm2 : jz_M) (v2 : Int32), I (c + 1) mc2 mm2 → jl_J X 7 (lz_G Z) (174 + (c + 1)) (21461 + 6 * (c + 1)) Q (lm_ mc2 mm2 v2) [(0, .ref b), (1, .ref (gz_ad (lz_G Z) 0)), (2, .ref (gz_ad (lz_G Z) 152)), (3, .ref (gz_ad (lz_G Z) 173)), (4, .int x4)] 795 []) : jl_J X 7 (lz_G Z) (174 + c) (21461 + 6 * c) Q (lm_ mc mm v) [(0, .ref b), (1, .ref (gz_ad (lz_G Z) 0)), (2, .ref (gz_ad (lz_G Z) 152)), (3, .ref (gz_ad (lz_G Z) 173)), (4, .int x4)] 108 [] := by
  have hcs : 174 + c ≤ room_1.cells ∧ 21461 + 6 * c ≤ room_1.slots := ⟨by show 174 + c ≤ 601024; omega, by show 21461 + 6 * c ≤ 7293034; omega⟩
  obtain ⟨r, q, h1, h2, hr, hi⟩ := hs
  refine jl_aload_n 108 C dl_108 rfl ?_
  refine jl_aload_n 109 C dl_109 rfl ?_
  refine jl_iload 110 C dl_110 rfl ?_
  refine jl_iconst 112 1 C dl_112 (by decide) ?_
  refine jl_iadd 113 C dl_113 ?_
  refine jl_sld 114 C dl_114 hX (ll_in hx4 (j := 1) rfl (by omega) hL2) ?_
  refine jl_top (ll_at hx4 (j := 1) rfl (by omega) hL2) ?_
  refine jl_aload_n 115 C dl_115 rfl ?_
  refine jl_iload 116 C dl_116 rfl ?_
  refine jl_iconst 118 2 C dl_118 (by decide) ?_
  refine jl_iadd 119 C dl_119 ?_
  refine jl_sld 120 C dl_120 hX (ll_in hx4 (j := 2) rfl (by omega) hL2) ?_
  refine jl_top (ll_at hx4 (j := 2) rfl (by omega) hL2) ?_
  refine jl_aload_n 121 C dl_121 rfl ?_
  refine jl_iload 122 C dl_122 rfl ?_
  refine jl_iconst 124 3 C dl_124 (by decide) ?_
  refine jl_iadd 125 C dl_125 ?_
  refine jl_sld 126 C dl_126 hX (ll_in hx4 (j := 3) rfl (by omega) hL2) ?_
  refine jl_top (ll_at hx4 (j := 3) rfl (by omega) hL2) ?_
  refine jl_callV 127 [.int (xs (5 * c + 1)), .int (xs (5 * c + 2)), .int (xs (5 * c + 3))] C dl_127 (lf_C hI mm v (c_AR_place (xz_l X) (jz_I_sub lz_subC hI) h1)) sz_AR_place tz_AR_place ll_37 lo_AR rfl (by decide) rfl rfl hcs (Nat.le_of_ble_eq_true rfl) rfl ?_
  refine jl_pop 130 C dl_130 rfl ?_
  refine jl_aload_n 131 C dl_131 rfl ?_
  refine jl_aload_n 132 C dl_132 rfl ?_
  refine jl_iload 133 C dl_133 rfl ?_
  refine jl_iconst 135 1 C dl_135 (by decide) ?_
  refine jl_iadd 136 C dl_136 ?_
  refine jl_sld 137 C dl_137 hX (ll_in hx4 (j := 1) rfl (by omega) hL2) ?_
  refine jl_top (ll_at hx4 (j := 1) rfl (by omega) hL2) ?_
  refine jl_aload_n 138 C dl_138 rfl ?_
  refine jl_iload 139 C dl_139 rfl ?_
  refine jl_iconst 141 2 C dl_141 (by decide) ?_
  refine jl_iadd 142 C dl_142 ?_
  refine jl_sld 143 C dl_143 hX (ll_in hx4 (j := 2) rfl (by omega) hL2) ?_
  refine jl_top (ll_at hx4 (j := 2) rfl (by omega) hL2) ?_
  refine jl_aload_n 144 C dl_144 rfl ?_
  refine jl_iload 145 C dl_145 rfl ?_
  refine jl_iconst 147 3 C dl_147 (by decide) ?_
  refine jl_iadd 148 C dl_148 ?_
  refine jl_sld 149 C dl_149 hX (ll_in hx4 (j := 3) rfl (by omega) hL2) ?_
  refine jl_top (ll_at hx4 (j := 3) rfl (by omega) hL2) ?_
  refine jl_callV 150 [.int (xs (5 * c + 1)), .int (xs (5 * c + 2)), .int (xs (5 * c + 3))] C dl_150 (lf_M hI r.2 v (c_Mo_place (xz_l X) (jz_I_sub lz_subM hI) h2)) sz_Mo_place tz_Mo_place ll_41 lo_Mo rfl (by decide) rfl rfl hcs (Nat.le_of_ble_eq_true rfl) rfl ?_
  refine jl_pop 153 C dl_153 rfl ?_
  refine jl_goto 154 795 C dl_154 (by decide) ?_
  refine jl_sub [0, 1, 2, 3, 4] rfl ?_
  exact jl_widen (by omega) (by omega) (kend _ _ _ hi)
set_option maxHeartbeats 4000000 in
set_option maxRecDepth 100000 in
theorem lz_description_ {X : jz_X} {Z : cz_Z} {b L : Nat} {xs : Nat → Int32} {Q : State → Prop} (C : jz_C X 7 code R_Lw (some .boolean) room_1 (lz_G Z)) (hX : jl_S X (lz_G Z) b L xs) (hI : jz_I (lz_G Z)) (hx : xz_ok (xz_s X)) (hxn : xn_ok (xz_s X)) (hl0 : (xz_l X).stackTraces = false) {c : Nat} {mc mm : jz_M} {v x4 : Int32} (hc : c < 512) {r : Int32} {q : Int32 × jz_M} (h1 : f_AR_description (xs (5 * c + 1)) (xs (5 * c + 2)) (xs (5 * c + 3)) (xs (5 * c + 4)) mc = some r) (h2 : f_Mo_description (xs (5 * c + 1)) (xs (5 * c + 2)) (xs (5 * c + 3)) (xs (5 * c + 4)) mm = some q) (hne : ¬ r = q.1) (hx4 : x4 = nI (5 * c)) (hL : 5 * c + 5 ≤ L) (hL2 : L ≤ 2560) (kend : jl_J X 7 (lz_G Z) (174 + c) (21461 + 6 * c) Q (lm_ mc q.2 v) [(0, .ref b), (1, .ref (gz_ad (lz_G Z) 0)), (2, .ref (gz_ad (lz_G Z) 152)), (3, .ref (gz_ad (lz_G Z) 173)), (4, .int x4)] 670 []) : jl_J X 7 (lz_G Z) (174 + c) (21461 + 6 * c) Q (lm_ mc mm v) [(0, .ref b), (1, .ref (gz_ad (lz_G Z) 0)), (2, .ref (gz_ad (lz_G Z) 152)), (3, .ref (gz_ad (lz_G Z) 173)), (4, .int x4)] 611 [] := by
  have hcs : 174 + c ≤ room_1.cells ∧ 21461 + 6 * c ≤ room_1.slots := ⟨by show 174 + c ≤ 601024; omega, by show 21461 + 6 * c ≤ 7293034; omega⟩
  refine jl_aload_n 611 C dl_611 rfl ?_
  refine jl_aload_n 612 C dl_612 rfl ?_
  refine jl_iload 613 C dl_613 rfl ?_
  refine jl_iconst 615 1 C dl_615 (by decide) ?_
  refine jl_iadd 616 C dl_616 ?_
  refine jl_sld 617 C dl_617 hX (ll_in hx4 (j := 1) rfl (by omega) hL2) ?_
  refine jl_top (ll_at hx4 (j := 1) rfl (by omega) hL2) ?_
  refine jl_aload_n 618 C dl_618 rfl ?_
  refine jl_iload 619 C dl_619 rfl ?_
  refine jl_iconst 621 2 C dl_621 (by decide) ?_
  refine jl_iadd 622 C dl_622 ?_
  refine jl_sld 623 C dl_623 hX (ll_in hx4 (j := 2) rfl (by omega) hL2) ?_
  refine jl_top (ll_at hx4 (j := 2) rfl (by omega) hL2) ?_
  refine jl_aload_n 624 C dl_624 rfl ?_
  refine jl_iload 625 C dl_625 rfl ?_
  refine jl_iconst 627 3 C dl_627 (by decide) ?_
  refine jl_iadd 628 C dl_628 ?_
  refine jl_sld 629 C dl_629 hX (ll_in hx4 (j := 3) rfl (by omega) hL2) ?_
  refine jl_top (ll_at hx4 (j := 3) rfl (by omega) hL2) ?_
  refine jl_aload_n 630 C dl_630 rfl ?_
  refine jl_iload 631 C dl_631 rfl ?_
  refine jl_iconst 633 4 C dl_633 (by decide) ?_
  refine jl_iadd 634 C dl_634 ?_
  refine jl_sld 635 C dl_635 hX (ll_in hx4 (j := 4) rfl (by omega) hL2) ?_
  refine jl_top (ll_at hx4 (j := 4) rfl (by omega) hL2) ?_
  refine jl_callV 636 [.int (xs (5 * c + 1)), .int (xs (5 * c + 2)), .int (xs (5 * c + 3)), .int (xs (5 * c + 4))] C dl_636 (lf_C hI mm v (c_AR_description (xz_l X) (jz_I_sub lz_subC hI) h1)) sz_AR_description tz_AR_description ll_79 lo_AR rfl (by decide) rfl rfl hcs (Nat.le_of_ble_eq_true rfl) rfl ?_
  refine jl_aload_n 639 C dl_639 rfl ?_
  refine jl_aload_n 640 C dl_640 rfl ?_
  refine jl_iload 641 C dl_641 rfl ?_
  refine jl_iconst 643 1 C dl_643 (by decide) ?_
  refine jl_iadd 644 C dl_644 ?_
  refine jl_sld 645 C dl_645 hX (ll_in hx4 (j := 1) rfl (by omega) hL2) ?_
  refine jl_top (ll_at hx4 (j := 1) rfl (by omega) hL2) ?_
  refine jl_aload_n 646 C dl_646 rfl ?_
  refine jl_iload 647 C dl_647 rfl ?_
  refine jl_iconst 649 2 C dl_649 (by decide) ?_
  refine jl_iadd 650 C dl_650 ?_
  refine jl_sld 651 C dl_651 hX (ll_in hx4 (j := 2) rfl (by omega) hL2) ?_
  refine jl_top (ll_at hx4 (j := 2) rfl (by omega) hL2) ?_
  refine jl_aload_n 652 C dl_652 rfl ?_
  refine jl_iload 653 C dl_653 rfl ?_
  refine jl_iconst 655 3 C dl_655 (by decide) ?_
  refine jl_iadd 656 C dl_656 ?_
  refine jl_sld 657 C dl_657 hX (ll_in hx4 (j := 3) rfl (by omega) hL2) ?_
  refine jl_top (ll_at hx4 (j := 3) rfl (by omega) hL2) ?_
  refine jl_aload_n 658 C dl_658 rfl ?_
  refine jl_iload 659 C dl_659 rfl ?_
  refine jl_iconst 661 4 C dl_661 (by decide) ?_
  refine jl_iadd 662 C dl_662 ?_
  refine jl_sld 663 C dl_663 hX (ll_in hx4 (j := 4) rfl (by omega) hL2) ?_
  refine jl_top (ll_at hx4 (j := 4) rfl (by omega) hL2) ?_
  refine jl_callV 664 [.int (xs (5 * c + 1)), .int (xs (5 * c + 2)), .int (xs (5 * c + 3)), .int (xs (5 * c + 4))] C dl_664 (lf_M hI mc v (c_Mo_description (xz_l X) (jz_I_sub lz_subM hI) h2)) sz_Mo_description tz_Mo_description ll_82 lo_Mo rfl (by decide) rfl rfl hcs (Nat.le_of_ble_eq_true rfl) rfl ?_
  refine jl_icmp_eq 667 795 C dl_667 (by decide) (fun qq => absurd qq hne) (fun _ => ?_)
  exact kend
set_option maxHeartbeats 4000000 in
set_option maxRecDepth 100000 in
theorem lz_head {p : Program} {l : Launch} {e : Env} {s : State} {mi : MethodId} {below : List Frame} {meth : Method} {c0 : Code} {Z : cz_Z} {b L : Nat} {xs : Nat → Int32} (C : jz_C (p, l, e, room_1, s, mi, #[Value.ref b], below, meth, c0) 7 code R_Lw (some .boolean) room_1 (lz_G Z)) (hX : jl_S (p, l, e, room_1, s, mi, #[Value.ref b], below, meth, c0) (lz_G Z) b L xs) (hL2 : L ≤ 2560) {c : Nat} {x4 : Int32} (hx4 : x4 = nI (5 * c)) (hL : 5 * c + 5 ≤ L) {Q : State → Prop} {m : jz_M} (k : jl_J (p, l, e, room_1, s, mi, #[Value.ref b], below, meth, c0) 7 (lz_G Z) (174 + c) (21461 + 6 * c) Q m [(0, .ref b), (1, .ref (gz_ad (lz_G Z) 0)), (2, .ref (gz_ad (lz_G Z) 152)), (3, .ref (gz_ad (lz_G Z) 173)), (4, .int x4)] 39 [.int (xs x4.toNatClampNeg &&& 15)]) : jl_J (p, l, e, room_1, s, mi, #[Value.ref b], below, meth, c0) 7 (lz_G Z) (174 + c) (21461 + 6 * c) Q m [(0, .ref b), (1, .ref (gz_ad (lz_G Z) 0)), (2, .ref (gz_ad (lz_G Z) 152)), (3, .ref (gz_ad (lz_G Z) 173)), (4, .int x4)] 23 [] := by
  refine jl_iload 23 C dl_23 rfl ?_
  refine jl_aload_n 25 C dl_25 rfl ?_
  refine jl_slen 26 C dl_26 hX ?_
  refine jl_iconst 27 5 C dl_27 (by decide) ?_
  refine jl_isub 28 C dl_28 ?_
  refine jl_icmp_gt 29 801 C dl_29 (by decide) (fun q => absurd ((ll_cmp (c := c) hL2 (by omega)).mp (by rw [← hx4]; exact q)) (by omega)) (fun _ => ?_)
  refine jl_aload_n 32 C dl_32 rfl ?_
  refine jl_iload 33 C dl_33 rfl ?_
  refine jl_sld 35 C dl_35 hX (by rw [hx4]; exact vp_in_nI (by omega) (by omega)) ?_
  refine jl_bipush 36 15 C dl_36 (by decide) ?_
  refine jl_iand 38 C dl_38 ?_
  exact k
set_option maxHeartbeats 4000000 in
set_option maxRecDepth 100000 in
theorem lz_up {p : Program} {l : Launch} {e : Env} {s : State} {mi : MethodId} {below : List Frame} {meth : Method} {c0 : Code} {Z : cz_Z} {b L : Nat} {xs : Nat → Int32} (C : jz_C (p, l, e, room_1, s, mi, #[Value.ref b], below, meth, c0) 7 code R_Lw (some .boolean) room_1 (lz_G Z)) (hX : jl_S (p, l, e, room_1, s, mi, #[Value.ref b], below, meth, c0) (lz_G Z) b L xs) {c : Nat} {x4 : Int32} (hx4 : x4 = nI (5 * c)) {Q : State → Prop} {m : jz_M} (k : jl_J (p, l, e, room_1, s, mi, #[Value.ref b], below, meth, c0) 7 (lz_G Z) (174 + (c + 1)) (21461 + 6 * (c + 1)) Q m [(0, .ref b), (1, .ref (gz_ad (lz_G Z) 0)), (2, .ref (gz_ad (lz_G Z) 152)), (3, .ref (gz_ad (lz_G Z) 173)), (4, .int (nI (5 * (c + 1))))] 23 []) : jl_J (p, l, e, room_1, s, mi, #[Value.ref b], below, meth, c0) 7 (lz_G Z) (174 + (c + 1)) (21461 + 6 * (c + 1)) Q m [(0, .ref b), (1, .ref (gz_ad (lz_G Z) 0)), (2, .ref (gz_ad (lz_G Z) 152)), (3, .ref (gz_ad (lz_G Z) 173)), (4, .int x4)] 795 [] := by
  refine jl_iinc 795 (v := nI (5 * (c + 1))) [(0, .ref b), (1, .ref (gz_ad (lz_G Z) 0)), (2, .ref (gz_ad (lz_G Z) 152)), (3, .ref (gz_ad (lz_G Z) 173)), (4, .int (nI (5 * (c + 1))))] C dl_795 rfl (by decide) rfl (by rw [hx4]; exact ((nI_add (5 * c) 5).trans (by rw [show 5 * c + 5 = 5 * (c + 1) by omega])).symm) rfl ?_
  exact jl_goto 798 23 C dl_798 (by decide) k
set_option maxHeartbeats 4000000 in
set_option maxRecDepth 100000 in
theorem law_run0 {p : Program} {l : Launch} {e : Env} {s : State} {mi : MethodId} {below : List Frame} {meth : Method} {c0 : Code} {Z : cz_Z} {b : Nat} {xs : Nat → Int32} (C : jz_C (p, l, e, room_1, s, mi, #[Value.ref b], below, meth, c0) 7 code R_Lw (some .boolean) room_1 (lz_G Z)) (hX : jl_S (p, l, e, room_1, s, mi, #[Value.ref b], below, meth, c0) (lz_G Z) b 15 xs) (hI : jz_I (lz_G Z)) (hx : xz_ok s) (hxn : xn_ok s) (hl0 : l.stackTraces = false) (g : ∀ j, xs j = s1_xs.getD j 0) : jl_J (p, l, e, room_1, s, mi, #[Value.ref b], below, meth, c0) 7 (lz_G Z) (174 + 0) (21461 + 6 * 0) (lw_Z0 below #[Value.ref b] s) (lm_ m0_C m0_M 0) [(0, .ref b), (1, .ref (gz_ad (lz_G Z) 0)), (2, .ref (gz_ad (lz_G Z) 152)), (3, .ref (gz_ad (lz_G Z) 173)), (4, .int (nI (5 * 0)))] 23 [] := by
  obtain ⟨r1, q1, r2, q2, q3, a1, e1, a3, z0, c1, c2, c3, k1, k2, k3⟩ := s1_run
  refine lz_head C hX (by decide) (c := 0) rfl (by decide) (jl_tsIn 39 462 6 C dl_39 (by rw [nI_clamp (by decide), g]; rfl) (by decide) (by decide) rfl (by decide) (lz_describe_ C hX hI hx hxn hl0 (I := fun _ u w => u = r1.2 ∧ w = q1.2) (c := 0) (by decide) ⟨q1, by rw [g]; exact e1, Or.inl ⟨r1, by rw [g]; exact a1, z0, a3, rfl, rfl⟩⟩ rfl (by decide) (by decide) (fun mc2 mm2 v2 hi => ?_)))
  obtain ⟨rfl, rfl⟩ := hi
  refine lz_up C hX (c := 0) rfl ?_
  refine lz_head C hX (by decide) (c := 0 + 1) rfl (by decide) (jl_tsIn 39 108 0 C dl_39 (by rw [nI_clamp (by decide), g]; rfl) (by decide) (by decide) rfl (by decide) (lz_place_ C hX hI hx hxn hl0 (I := fun _ u w => u = r2.2 ∧ w = q2.2) (c := 0 + 1) (by decide) ⟨r2, q2, by rw [g, g, g]; exact c1, by rw [g, g, g]; exact c2, c3, rfl, rfl⟩ rfl (by decide) (by decide) (fun mc3 mm3 v3 hi => ?_)))
  obtain ⟨rfl, rfl⟩ := hi
  refine lz_up C hX (c := 0 + 1) rfl ?_
  refine lz_head C hX (by decide) (c := 0 + 1 + 1) rfl (by decide) (jl_tsIn 39 611 10 C dl_39 (by rw [nI_clamp (by decide), g]; rfl) (by decide) (by decide) rfl (by decide) (lz_description_ C hX hI hx hxn hl0 (c := 0 + 1 + 1) (by decide) (r := 1) (q := q3) (by rw [g, g, g, g]; exact k1) (by rw [g, g, g, g]; exact k2) (by rw [k3]; decide) rfl (by decide) (by decide) ?_))
  exact law_end0 C hX (by decide) (by decide)
set_option maxHeartbeats 4000000 in
set_option maxRecDepth 100000 in
theorem whole_start0 {p : Program} {e : Env} {s : State} {m : MethodId} {below : List Frame} {meth : Method} {c : Code} (l : Launch) {b : Nat} {xs : Nat → Int32} (hl0 : l.stackTraces = false) (g : ∀ j, xs j = s1_xs.getD j 0) (C0 : lw_At p s m meth c b 15 xs) : W p l e room_1 s m #[Value.ref b] below meth c s.heap [] 0 0 (lw_Z0 below #[Value.ref b] s) (entryFrame m ([Value.ref b] : List Value).toArray 7) := by
  obtain ⟨hexec, hcode, hret, hml, hown, hts, hX, hbl, hlk, hgv⟩ := C0
  obtain ⟨D, cA, hK⟩ := ls_K hts
  have hgw : ∀ w ∈ gw_tbl, w.before #[Value.ref b] s = true := fun w hw => hts w (List.mem_filter.mp hw).1
  have hnw : nw_ok s := nw_ok.of hts
  have hka : ka_ok s := ⟨va_AO.of (hts _ (lt_1 (i := 38) (by set_option maxRecDepth 100000 in exact rfl))), va_AO.of (hts _ (lt_1 (i := 53) (by set_option maxRecDepth 100000 in exact rfl)))⟩
  have hK5 := hK (fun k => s.heap.size + k)
  have hK4 : va_K D kz_cl (kz_t cA) s := ⟨hK5.1, fun k q hq => hK5.2 k q (by rw [show lz_t (D, (fun k => s.heap.size + k), cA) = kz_t cA ++ [(cA 4, .long)] from rfl, List.getElem?_append_left (List.getElem?_eq_some_iff.mp hq).1]; exact hq)⟩
  have hR : s.vm.findClass R_AR = some (D.1 0) := (hK5.1 0 _ rfl).2.1
  have hf := flat_of_before _ hgv
  have hx : xz_ok s := xz_ok.of hR hts (fun w hw => by
    rcases List.mem_cons.mp hw with rfl | hw
    · exact hf _ (by decide +kernel)
    rcases List.mem_cons.mp hw with rfl | hw
    · exact hf _ (by decide +kernel)
    cases hw)
  have hxn : xn_ok s := ⟨va_Nc.of (hf (Cond.not (.castable xz_is xz_io)) (by decide +kernel)), va_Nc.of (hf (Cond.not (.castable xz_ia xz_io)) (by decide +kernel)), va_Nc.of (hf (Cond.not (.castable xz_ia xz_is)) (by decide +kernel))⟩
  have hJ : s.vm.findClass ("[" ++ FieldType.long.toString) = some (cA 4) := (hK5.2 4 _ rfl).2
  have hI : jz_I (lz_G (D, (fun k => s.heap.size + k), cA)) := fun i j _ _ e => Nat.add_left_cancel e
  have hXS : jl_S (p, l, e, room_1, s, m, #[Value.ref b], below, meth, c) (lz_G (D, (fun k => s.heap.size + k), cA)) b 15 xs := ⟨hX, hbl, fun k _ => Nat.le_add_right _ _⟩
  have C : jz_C (p, l, e, room_1, s, m, #[Value.ref b], below, meth, c) 7 code R_Lw (some .boolean) room_1 (lz_G (D, (fun k => s.heap.size + k), cA)) := ⟨hexec, hcode, hml, hown, hgw, hK5, hI, hlk, hret, rfl, hnw⟩
  have K : kl_C (p, l, e, room_1, s, m, #[Value.ref b], below, meth, c) 7 code R_Lw room_1 D cA s.heap.size 0 := ⟨hexec, hcode, hml, hown, hgw, hK4, rfl, trivial, trivial, rfl, hnw, trivial, hka⟩
  have fin : kz_J (p, l, e, room_1, s, m, #[Value.ref b], below, meth, c) 7 D s.heap.size (lw_Z0 below #[Value.ref b] s) 174 (fe_ D cA s.heap.size) 174 21461 [(0, .ref b), (1, .ref (s.heap.size + 0)), (2, .ref (s.heap.size + 152)), (3, .ref (s.heap.size + 173)), (4, .int 0)] 23 [] := by
    intro H locs ls hP hS hl
    refine va_forget (fun q hq => hS.2.2 q hq) ?_
    refine law_run0 C hXS hI hx hxn hl0 g H [] ls (fun k q hq => ?_) ⟨hS.1, fun q h1 h2 => hS.2.1 q h1 (Nat.not_le_of_lt h1), fun _ h => by cases h⟩ hl
    obtain ⟨h1, rfl⟩ := jz_w_of hq
    have h2 := hP k _ (kz_at h1)
    rw [fe_at h1] at h2
    exact h2
  have walk : kz_J (p, l, e, room_1, s, m, #[Value.ref b], below, meth, c) 7 D s.heap.size (lw_Z0 below #[Value.ref b] s) 0 (fun _ => .inr (0, [])) 0 0 [(0, .ref b)] 0 [] := by
    refine kl_newo 0 [.null, .null, .null, .null, .null, .null, .null] K dl_0 (lt_1 (i := 15) (by set_option maxRecDepth 100000 in exact rfl)) (lt_1 (i := 16) (by set_option maxRecDepth 100000 in exact rfl)) (lt_1 (i := 1) (by set_option maxRecDepth 100000 in exact rfl)) (ci := 0) rfl in_AR tt_AR (by decide) (by decide) (by decide) (by decide) ?_
    refine kl_dup 3 K dl_3 rfl ?_
    refine kl_init 4 K dl_4 (c_AR_init l (va_up_self _ _ _)) sz_AR_init ti_AR_init rfl (lt_1 (i := 17) (by set_option maxRecDepth 100000 in exact rfl)) ⟨rfl, rfl⟩ (by decide) ⟨by decide, by decide⟩ (by decide) (Nat.le_of_ble_eq_true rfl) ?_
    refine kl_astore_n 7 [(0, .ref b), (1, .ref (s.heap.size + 0))] K dl_7 rfl (by decide) rfl ?_
    refine kl_newo 8 [.int 0, .null, .null, .null, .null, .null, .null, .null, .null, .null, .null, .null, .null, .null, .null, .null, .null, .null, .int 0, .null, .null, .null] K dl_8 (lt_3 (i := 138) (by set_option maxRecDepth 100000 in exact rfl)) (lt_3 (i := 139) (by set_option maxRecDepth 100000 in exact rfl)) (lt_1 (i := 7) (by set_option maxRecDepth 100000 in exact rfl)) (ci := 6) rfl in_Mo tt_Mo (by decide) (by decide) (by decide) (by decide) ?_
    refine kl_dup 11 K dl_11 rfl ?_
    refine kl_init 12 K dl_12 (c_Mo_init l (n := 153) (k0 := 152) (by decide) (va_up_self _ _ _)) sz_Mo_init ti_Mo_init rfl (lt_3 (i := 140) (by set_option maxRecDepth 100000 in exact rfl)) ⟨rfl, rfl⟩ (by decide) ⟨by decide, by decide⟩ (by decide) (Nat.le_of_ble_eq_true rfl) ?_
    refine kl_astore_n 15 [(0, .ref b), (1, .ref (s.heap.size + 0)), (2, .ref (s.heap.size + 152))] K dl_15 rfl (by decide) rfl ?_
    refine kl_iconst 16 1 K dl_16 (by decide) ?_
    refine kl_newl 17 1 K dl_17 hJ (lt_4 (i := 180) (by set_option maxRecDepth 100000 in exact rfl)) (by decide) (by decide) (by decide) (by decide) (by decide) (by decide) ?_
    refine kl_astore_n 19 [(0, .ref b), (1, .ref (s.heap.size + 0)), (2, .ref (s.heap.size + 152)), (3, .ref (s.heap.size + 173))] K dl_19 rfl (by decide) rfl ?_
    refine kl_iconst 20 0 K dl_20 (by decide) ?_
    refine kl_istore 21 [(0, .ref b), (1, .ref (s.heap.size + 0)), (2, .ref (s.heap.size + 152)), (3, .ref (s.heap.size + 173)), (4, .int 0)] K dl_21 rfl (by decide) rfl ?_
    exact kr_norm (n' := 174) (kc' := 174) (ks' := 21461) (E' := fe_ D cA s.heap.size) rfl rfl rfl (fun _ _ => rfl) fin
  have hq := walk s.heap [] _ (fun k q hq => absurd (kz_of hq).1 (Nat.not_lt_zero k)) va_S.rf (lv_entry [Value.ref b] (Nat.le_of_ble_eq_true rfl))
  rw [lg_entry_eq]
  exact hq
set_option maxHeartbeats 4000000 in
set_option maxRecDepth 100000 in
theorem lw_walk0 (l : Launch) (hl0 : l.stackTraces = false) (b : Addr) : MetFree l x (headSpec (Jvm.Cond.code x code maxLocals ret :: tables_1) room_1) (lw_P b s1_xs) (fun _ _ _ _ _ => True) lw_Q0 := by
  refine MetFree.of_bodyS (code := code) (maxLocals := maxLocals) (ret := ret) (by decide) ?_ ?_
  · intro args s m h hn
    obtain ⟨meth, c, h1, h2, h3, h4, h5, h6, -, -⟩ := Cond.code_spec hn (atoms_spec (ws := Jvm.Cond.code x code maxLocals ret :: tables_1) h _ List.mem_cons_self)
    exact ⟨meth, c, h1, h2, h3, h4, h5, h6⟩
  · intro p e s m args below meth c s₁ B hml0 hP _
    obtain ⟨rfl, hx, hbd, hgv⟩ := hP
    obtain ⟨scr, harrAt, hlist, hof, hsmall⟩ := hx
    obtain ⟨hcb, hkn, -, -⟩ := State.arrayAt?_spec harrAt
    have hown : s.vm.findClass R_law = some m.cls := findClass_of_methodNamed B.named
    have hts0 : ∀ c ∈ (Jvm.Cond.code x code maxLocals ret :: tables_1), c.before #[Value.ref b] s = true := atoms_spec (ws := Jvm.Cond.code x code maxLocals ret :: tables_1) B.pre
    have hts : ∀ w ∈ lw_tbl, w.before #[Value.ref b] s = true := k2_hts_sels lw_privs (fun w hw => hts0 w (List.mem_cons_of_mem _ hw)) lw_privs_ok
    have hml : c.maxLocals = 7 := B.maxLocals_eq (hts0 _ List.mem_cons_self)
    have X₀ : Stand p l e room_1 s m #[Value.ref b] below meth c s₁ [] 0 0 := Stand.of_body B
    have hh0 : s₁.heap = s.heap := by rw [B.state]; rfl
    have hsz : scr.slots.size = s1_xs.length := by rw [← Array.length_toList, hlist, List.length_map]
    have hval : ∀ j : Nat, j < s1_xs.length → scr.slots[j]? = some (.int (s1_xs.getD j 0)) := fun j hj => by
      rw [← Array.getElem?_toList, hlist]
      simp [hj]
    have hbl : b < s.heap.size := (Array.getElem?_eq_some_iff.mp hcb).1
    have hX : va_X b s1_xs.length (fun j => s1_xs.getD j 0) s s.heap := ⟨scr, hcb, hof, hkn, hsz, hval⟩
    have K : W p l e room_1 s m #[Value.ref b] below meth c s₁.heap [] 0 0 (lw_Z0 below #[Value.ref b] s) (entryFrame m ([Value.ref b] : List Value).toArray 7) := by
      rw [hh0]
      exact whole_start0 l hl0 (fun j => rfl) ⟨B.exec, B.bytes, B.returns, hml, hown, hts, hX, hbl, B.notSynchronized, hgv⟩
    obtain ⟨t, a1, o, b1, b2, b3⟩ := K s₁ rfl X₀
    exact ⟨t, o, a1, b1, b2, b3⟩
/-- the Statement's own word of a refutation, from any start with that script -/
theorem s1_refuted {l : Launch} {p : Program} {e : Env} {s : State} {m : MethodId} {b : Addr} {below : List Frame} (hfl : l.flags = flags0) (hat : AtStart classFile x code maxLocals ret World_1 tables_1 room_1 Calls_1 rest_1 Pre_1 l p e s m #[.ref b] below) (hs : s.IntsAt b s1_xs) : RefutedClaimed_1_2 := by
  have hat' := hat
  obtain ⟨-, -, ha, -, hc, hk, hf, -, -, happ, -, -, hpre⟩ := hat'
  obtain ⟨n, o, h1, h2, h3, rfl, hF⟩ := lw_walk0 l (by unfold Launch.stackTraces; rw [hfl]; decide) b p e ha hc hk s m _ below hf ((Spec.applies_iff_loose hf).mp happ).1 ⟨rfl, hs, by decide, hpre⟩ trivial
  refine ⟨l, p, e, s, m, #[.ref b], below, hfl, hat, n, _, h1, h2, h3, fun hp => ?_⟩
  have h := Cond.after_iff.mp hp.1
  rw [show limb_1_2 = Cond.eq .result (.int 1) from rfl, Cond.eq_ints (x := 0) (y := 1) rfl rfl] at h
  exact absurd h (by decide)
/-- and so the claim is false, from any start with that script -/
theorem s1_not {l : Launch} {p : Program} {e : Env} {s : State} {m : MethodId} {b : Addr} {below : List Frame} (hfl : l.flags = flags0) (hat : AtStart classFile x code maxLocals ret World_1 tables_1 room_1 Calls_1 rest_1 Pre_1 l p e s m #[.ref b] below) (hs : s.IntsAt b s1_xs) : ¬ Claimed_1_2 := by
  intro hC
  obtain ⟨hL, hW, ha, -, hc, hk, hf, hfit, hheap, happ, hca, hre, hpre⟩ := hat
  obtain ⟨n, o, h1, h2, h3, rfl, hF⟩ := lw_walk0 l (by unfold Launch.stackTraces; rw [hfl]; decide) b p e ha hc hk s m _ below hf ((Spec.applies_iff_loose hf).mp happ).1 ⟨rfl, hs, by decide, hpre⟩ trivial
  obtain ⟨k, o2, g1, g2, g3, g4⟩ := hC l hfl hL hW p e ha hc hk s m _ below hf hfit hheap happ ⟨hca, hre, hpre⟩
  have hkn : k = n := by
    rcases Nat.lt_trichotomy k n with z | z | z
    · exact absurd (h1 k z) g3.not_within
    · exact z
    · exact absurd (g1 n z) h3.not_within
  subst hkn
  obtain rfl := g3.outcome_unique h3
  have h := Cond.after_iff.mp g4.1
  rw [show limb_1_2 = Cond.eq .result (.int 1) from rfl, Cond.eq_ints (x := 0) (y := 1) rfl rfl] at h
  exact absurd h (by decide)
