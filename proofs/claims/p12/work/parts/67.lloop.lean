/-! the law's loop, and its end -/
/-! THE CLAIM OUT OF ONE WALK OF THE LAW'S BODY. Your part is whole_start (and what it stands on); all else here is the same for every law, but numbers. -/
def R_law : String := "AreaRoutersLaw"
def lw_P (b : Addr) (xs : List Int32) (args : Array Value) (s : State) : Prop := args = #[.ref b] ∧ s.IntsAt b xs ∧ xs.length ≤ 2560 ∧ (Jvm.Cond.and given_1 narrow_1).before args s = true
def lw_Q (_ : Array Value) (s : State) (o : Outcome) (t : State) : Prop := o = .returned (some (.int 1)) ∧ Framed s o t [] 601024 7293034
def lw_Z (below : List Frame) (a : Array Value) (s : State) : State → Prop := fun t => ∃ o, t.status = .running ∧ Ended t below o ∧ lw_Q a s o t
/-- the law's own end, with 1 on the stack, nothing written that was there before, its room as the claim has it -/
theorem lw_ret {p : Program} {l : Launch} {e : Env} {s : State} {m : MethodId} {below : List Frame} {meth : Method} {c : Code} {b : Nat} (hx : p.tables.exec = Jvm.exec) (hb : c.code = code) (hr : meth.sig.returnType = ret) (hlocks : meth.locks = false) {pc : Nat} {H : Heap} {ls : Array Slot} (hdg : decode code pc = .ok (.ireturn, 1)) : W p l e room_1 s m #[Value.ref b] below meth c H [] 601024 7293034 (lw_Z below #[Value.ref b] s) (F0 m pc ls [.int 1]) := by
  intro T hT X
  obtain ⟨fs, hret, hrun, hended, hW, hframe⟩ := X.leave (v := some (.int 1)) (hlocks := hlocks) (fun h => by rw [hr] at h; cases h)
  have hmeth' : T.vm.method? m = some meth := X.method'
  refine ⟨T.setFrames fs, ?_, .returned (some (.int 1)), hrun, hended, rfl, ⟨_, rfl⟩, hW, hframe⟩
  jvm_step X.here [X.here.top, hx, hb, hdg, hmeth', hr, ret, narrow_b1]
  (try refine ⟨rfl, ?_⟩); (try refine ⟨rfl, ?_⟩)
  first | (intro acts; rw [hret _ acts rfl rfl rfl]) | rw [hret _ _ rfl rfl rfl]
  exact Steps.refl _
/-- what holds at the law's entry: the machine, the code, the tables' words (any of lw_tbl by 'hts w (by decide +kernel)'), the script of L ints xs at the cell b, what the Statement gives of the start (any of its parts by flat_of_before) -/
def lw_At (p : Program) (s : State) (m : MethodId) (meth : Method) (c : Code) (b L : Nat) (xs : Nat → Int32) : Prop :=
  p.tables.exec = Jvm.exec ∧ c.code = code ∧ meth.sig.returnType = ret ∧ c.maxLocals = 7 ∧ s.vm.findClass R_law = some m.cls ∧ (∀ w ∈ lw_tbl, w.before #[Value.ref b] s = true) ∧ va_X b L xs s s.heap ∧ b < s.heap.size ∧ meth.locks = false ∧ (Jvm.Cond.and given_1 narrow_1).before #[Value.ref b] s = true

def sp_all (I : Nat → jz_M → jz_M → Prop) : Prop := (∀ (c : Nat) (mc mm : jz_M), c < 512 → I c mc mm → I (c + 1) mc mm) ∧ sp_place I ∧ sp_attach I ∧ sp_hello I ∧ sp_spread I ∧ sp_summary I ∧ sp_request I ∧ sp_describe I ∧ sp_tick I ∧ sp_neighbour I ∧ sp_speaker I ∧ sp_description I ∧ sp_marks I ∧ sp_route I ∧ sp_trace I
theorem tz_out_0_13 {x : Int32} (h0 : ¬ x = 0) (h1 : ¬ x = 1) (h2 : ¬ x = 2) (h3 : ¬ x = 3) (h4 : ¬ x = 4) (h5 : ¬ x = 5) (h6 : ¬ x = 6) (h7 : ¬ x = 7) (h8 : ¬ x = 8) (h9 : ¬ x = 9) (h10 : ¬ x = 10) (h11 : ¬ x = 11) (h12 : ¬ x = 12) (h13 : ¬ x = 13) : x.toInt < 0 ∨ 13 < x.toInt := by
  have k0 := lv_neT (a := 0) h0 (by decide)
  have k1 := lv_neT (a := 1) h1 (by decide)
  have k2 := lv_neT (a := 2) h2 (by decide)
  have k3 := lv_neT (a := 3) h3 (by decide)
  have k4 := lv_neT (a := 4) h4 (by decide)
  have k5 := lv_neT (a := 5) h5 (by decide)
  have k6 := lv_neT (a := 6) h6 (by decide)
  have k7 := lv_neT (a := 7) h7 (by decide)
  have k8 := lv_neT (a := 8) h8 (by decide)
  have k9 := lv_neT (a := 9) h9 (by decide)
  have k10 := lv_neT (a := 10) h10 (by decide)
  have k11 := lv_neT (a := 11) h11 (by decide)
  have k12 := lv_neT (a := 12) h12 (by decide)
  have k13 := lv_neT (a := 13) h13 (by decide)
  omega
theorem ll_cmp {L c : Nat} (hL : L ≤ 2560) (hc : 5 * c ≤ L) : (Int32.ofNat L - 5 < nI (5 * c)) ↔ L < 5 * c + 5 := by
  have h1 : (Int32.ofNat L - 5).toInt = (L : Int) - 5 := pk_sub_toInt (a := L) (b := 5) (by omega) (by decide)
  rw [Int32.lt_iff_toInt_lt, h1, nI_toInt (by omega)]
  omega
theorem law_end {p : Program} {l : Launch} {e : Env} {s : State} {mi : MethodId} {below : List Frame} {meth : Method} {c0 : Code} {Z : cz_Z} {b L : Nat} {xs : Nat → Int32} (C : jz_C (p, l, e, room_1, s, mi, #[Value.ref b], below, meth, c0) 7 code R_Lw (some .boolean) room_1 (lz_G Z)) (hX : jl_S (p, l, e, room_1, s, mi, #[Value.ref b], below, meth, c0) (lz_G Z) b L xs) {kc ks : Nat} (h1 : kc ≤ 601024) (h2 : ks ≤ 7293034) {m : jz_M} {lv : List (Nat × Value)} : jl_J (p, l, e, room_1, s, mi, #[Value.ref b], below, meth, c0) 7 (lz_G Z) kc ks (lw_Z below #[Value.ref b] s) m lv 801 [] := fun H locs ls hP hS hl => by
  refine lv_iconst (v := 1) C.1 C.2.1 dl_801 (by decide) ?_
  refine va_forget (fun q hq => ?_) ?_
  · obtain ⟨k, hk, e9⟩ := hS.2.2 q hq
    rw [e9]
    exact hX.2.2 k hk
  · exact W.widen (k := 601024) (n := 7293034) h1 h2 (lw_ret C.1 C.2.1 C.2.2.2.2.2.2.2.2.1 C.2.2.2.2.2.2.2.1 dl_802)
set_option maxHeartbeats 4000000 in
set_option maxRecDepth 100000 in
theorem law_loop {p : Program} {l : Launch} {e : Env} {s : State} {mi : MethodId} {below : List Frame} {meth : Method} {c0 : Code} {Z : cz_Z} {b L : Nat} {xs : Nat → Int32} (C : jz_C (p, l, e, room_1, s, mi, #[Value.ref b], below, meth, c0) 7 code R_Lw (some .boolean) room_1 (lz_G Z)) (hX : jl_S (p, l, e, room_1, s, mi, #[Value.ref b], below, meth, c0) (lz_G Z) b L xs) (hI : jz_I (lz_G Z)) (hx : xz_ok s) (hxn : xn_ok s) (hl0 : l.stackTraces = false) {I : Nat → jz_M → jz_M → Prop} (hs : sp_all I) (hL2 : L ≤ 2560) :
    ∀ (g c : Nat) (x4 : Int32) (mc mm : jz_M) (v : Int32), c + g = L / 5 → x4 = nI (5 * c) → I c mc mm → jl_J (p, l, e, room_1, s, mi, #[Value.ref b], below, meth, c0) 7 (lz_G Z) (174 + c) (21461 + 6 * c) (lw_Z below #[Value.ref b] s) (lm_ mc mm v) [(0, .ref b), (1, .ref (gz_ad (lz_G Z) 0)), (2, .ref (gz_ad (lz_G Z) 152)), (3, .ref (gz_ad (lz_G Z) 173)), (4, .int x4)] 23 [] := by
  intro g
  induction g with
  | zero =>
    intro c x4 mc mm v hg hx4 hInv
    refine jl_iload 23 C dl_23 rfl ?_
    refine jl_aload_n 25 C dl_25 rfl ?_
    refine jl_slen 26 C dl_26 hX ?_
    refine jl_iconst 27 5 C dl_27 (by decide) ?_
    refine jl_isub 28 C dl_28 ?_
    refine jl_icmp_gt 29 801 C dl_29 (by decide) (fun _ => ?_) (fun q => absurd (by rw [hx4]; exact (ll_cmp (c := c) hL2 (by omega)).mpr (by omega)) q)
    exact law_end C hX (by omega) (by omega)
  | succ g ih =>
    intro c x4 mc mm v hg hx4 hInv
    have hL : 5 * c + 5 ≤ L := by omega
    have hc : c < 512 := by omega
    refine jl_iload 23 C dl_23 rfl ?_
    refine jl_aload_n 25 C dl_25 rfl ?_
    refine jl_slen 26 C dl_26 hX ?_
    refine jl_iconst 27 5 C dl_27 (by decide) ?_
    refine jl_isub 28 C dl_28 ?_
    refine jl_icmp_gt 29 801 C dl_29 (by decide) (fun q => absurd ((ll_cmp (c := c) hL2 (by omega)).mp (by rw [← hx4]; exact q)) (by omega)) (fun _ => ?_)
    refine jl_aload_n 32 C dl_32 rfl ?_
    refine jl_iload 33 C dl_33 rfl ?_
    refine jl_sld 35 C dl_35 hX (by rw [hx4]; exact vp_in_nI (by omega) (by omega)) ?_
    refine jl_bipush 36 15 C dl_36 (by decide) ?_
    refine jl_iand 38 C dl_38 ?_
    have kend : ∀ (mc2 mm2 : jz_M) (v2 : Int32), I (c + 1) mc2 mm2 → jl_J (p, l, e, room_1, s, mi, #[Value.ref b], below, meth, c0) 7 (lz_G Z) (174 + (c + 1)) (21461 + 6 * (c + 1)) (lw_Z below #[Value.ref b] s) (lm_ mc2 mm2 v2) [(0, .ref b), (1, .ref (gz_ad (lz_G Z) 0)), (2, .ref (gz_ad (lz_G Z) 152)), (3, .ref (gz_ad (lz_G Z) 173)), (4, .int x4)] 795 [] := by
      intro mc2 mm2 v2 hi2
      obtain ⟨y, hy⟩ : ∃ y : Int32, y = x4 + Int32.ofInt 5 := ⟨_, rfl⟩
      refine jl_iinc 795 (v := y) [(0, .ref b), (1, .ref (gz_ad (lz_G Z) 0)), (2, .ref (gz_ad (lz_G Z) 152)), (3, .ref (gz_ad (lz_G Z) 173)), (4, .int y)] C dl_795 rfl (by decide) rfl hy rfl ?_
      refine jl_goto 798 23 C dl_798 (by decide) ?_
      exact ih (c + 1) y mc2 mm2 v2 (by omega) (by rw [hy, hx4]; exact (nI_add (5 * c) 5).trans (by rw [show 5 * c + 5 = 5 * (c + 1) by omega])) hi2
    generalize hw : (xs x4.toNatClampNeg &&& 15) = w
    by_cases h0 : w = 0
    · exact jl_tsIn 39 108 0 C dl_39 h0 (by decide) (by decide) rfl (by decide) (lc_place C hX hI hx hxn hl0 hs.2.1 hc hInv hx4 hL hL2 kend)
    by_cases h1 : w = 1
    · exact jl_tsIn 39 157 1 C dl_39 h1 (by decide) (by decide) rfl (by decide) (lc_attach C hX hI hx hxn hl0 hs.2.2.1 hc hInv hx4 hL hL2 kend)
    by_cases h2 : w = 2
    · exact jl_tsIn 39 218 2 C dl_39 h2 (by decide) (by decide) rfl (by decide) (lc_hello C hX hI hx hxn hl0 hs.2.2.2.1 hc hInv hx4 hL hL2 kend)
    by_cases h3 : w = 3
    · exact jl_tsIn 39 270 3 C dl_39 h3 (by decide) (by decide) rfl (by decide) (lc_spread C hX hI hx hxn hl0 hs.2.2.2.2.1 hc hInv hx4 hL hL2 kend)
    by_cases h4 : w = 4
    · exact jl_tsIn 39 334 4 C dl_39 h4 (by decide) (by decide) rfl (by decide) (lc_summary C hX hI hx hxn hl0 hs.2.2.2.2.2.1 hc hInv hx4 hL hL2 kend)
    by_cases h5 : w = 5
    · exact jl_tsIn 39 398 5 C dl_39 h5 (by decide) (by decide) rfl (by decide) (lc_request C hX hI hx hxn hl0 hs.2.2.2.2.2.2.1 hc hInv hx4 hL hL2 kend)
    by_cases h6 : w = 6
    · exact jl_tsIn 39 462 6 C dl_39 h6 (by decide) (by decide) rfl (by decide) (lc_describe C hX hI hx hxn hl0 hs.2.2.2.2.2.2.2.1 hc hInv hx4 hL hL2 kend)
    by_cases h7 : w = 7
    · exact jl_tsIn 39 490 7 C dl_39 h7 (by decide) (by decide) rfl (by decide) (lc_tick C hX hI hx hxn hl0 hs.2.2.2.2.2.2.2.2.1 hc hInv hx4 hL hL2 kend)
    by_cases h8 : w = 8
    · exact jl_tsIn 39 501 8 C dl_39 h8 (by decide) (by decide) rfl (by decide) (lc_neighbour C hX hI hx hxn hl0 hs.2.2.2.2.2.2.2.2.2.1 hc hInv hx4 hL hL2 kend)
    by_cases h9 : w = 9
    · exact jl_tsIn 39 562 9 C dl_39 h9 (by decide) (by decide) rfl (by decide) (lc_speaker C hX hI hx hxn hl0 hs.2.2.2.2.2.2.2.2.2.2.1 hc hInv hx4 hL hL2 kend)
    by_cases h10 : w = 10
    · exact jl_tsIn 39 611 10 C dl_39 h10 (by decide) (by decide) rfl (by decide) (lc_description C hX hI hx hxn hl0 hs.2.2.2.2.2.2.2.2.2.2.2.1 hc hInv hx4 hL hL2 kend)
    by_cases h11 : w = 11
    · exact jl_tsIn 39 672 11 C dl_39 h11 (by decide) (by decide) rfl (by decide) (lc_marks C hX hI hx hxn hl0 hs.2.2.2.2.2.2.2.2.2.2.2.2.1 hc hInv hx4 hL hL2 kend)
    by_cases h12 : w = 12
    · exact jl_tsIn 39 721 12 C dl_39 h12 (by decide) (by decide) rfl (by decide) (lc_route C hX hI hx hxn hl0 hs.2.2.2.2.2.2.2.2.2.2.2.2.2.1 hc hInv hx4 hL hL2 kend)
    by_cases h13 : w = 13
    · exact jl_tsIn 39 758 13 C dl_39 h13 (by decide) (by decide) rfl (by decide) (lc_trace C hX hI hx hxn hl0 hs.2.2.2.2.2.2.2.2.2.2.2.2.2.2 hc hInv hx4 hL hL2 kend)
    exact jl_tsOut 39 795 C dl_39 (tz_out_0_13 h0 h1 h2 h3 h4 h5 h6 h7 h8 h9 h10 h11 h12 h13) (by decide) (jl_widen (by omega) (by omega) (kend mc mm v (hs.1 c mc mm hc hInv)))
