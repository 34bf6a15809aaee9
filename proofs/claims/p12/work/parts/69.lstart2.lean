/-! the law's start: what the tables give, the two objects made, the walk to the loop -/
theorem ws_any {w : Cond} (hk : xk_ok w = true) {s : State} {A : Array Value} (h0 : w.before A s = true) (A' : Array Value) : w.before A' s = true := by
  by_cases hb : w.onTables = true
  · exact va_tabs hb rfl h0
  · unfold xk_ok at hk
    have hb2 : w.onTables = false := by simpa using hb
    rw [hb2, Bool.false_and, Bool.false_or] at hk
    cases w with
    | isRef t =>
      cases t with
      | static o n d => exact xz_ir rfl (fun q _ => rfl) h0
      | _ => simp at hk
    | laysStatic o n d => exact xz_ls rfl (fun q _ => rfl) h0
    | declares x => exact absurd rfl hb
    | castable a b => exact absurd rfl hb
    | _ => simp at hk
def xi_rs : List Cond := [.isRef (.static "java/lang/Throwable" "UNASSIGNED_STACK" "[Ljava/lang/StackTraceElement;"), .isRef (.static "java/lang/Throwable" "SUPPRESSED_SENTINEL" "Ljava/util/List;")]
theorem xa_in : xz_atoms.all (fun w => decide (w ∈ xi_rs) || decide (w ∈ lw_tbl)) = true := by decide +kernel
theorem xz_ok.of {s : State} {A : Array Value} {cR : ClassId} (hR : s.vm.findClass R_AR = some cR) (hts : ∀ w ∈ lw_tbl, w.before A s = true) (hst : ∀ w ∈ xi_rs, w.before A s = true) : xz_ok s := by
  refine ⟨fun w hw A' => ?_, fun q hq => ?_⟩
  · refine ws_any (List.all_eq_true.mp xk_all w hw) (A := A) ?_ A'
    have h := List.all_eq_true.mp xa_in w hw
    rw [Bool.or_eq_true, decide_eq_true_eq, decide_eq_true_eq] at h
    rcases h with h | h
    · exact hst w h
    · exact hts w h
  · have key : ∀ (i : Nat) (tx : String), Cond.stringRef R_AR i tx ∈ lw_tbl → ∃ a : Nat, vk_R R_AR i tx a s := by
      intro i tx hm
      obtain ⟨k, cf, j, a, _, _, _, _, _, hev⟩ := Cond.stringRef_spec hR (hts _ hm)
      exact ⟨a, vk_R.of (hts _ hm) hev⟩
    simp only [xz_st, List.mem_cons, List.not_mem_nil, or_false] at hq
    rcases hq with rfl | rfl | rfl | rfl
    · exact key _ _ (lt_3 (i := 129) (by set_option maxRecDepth 100000 in exact rfl))
    · exact key _ _ (lt_2 (i := 149) (by set_option maxRecDepth 100000 in exact rfl))
    · exact key _ _ (lt_2 (i := 185) (by set_option maxRecDepth 100000 in exact rfl))
    · exact key _ _ (lt_2 (i := 228) (by set_option maxRecDepth 100000 in exact rfl))
theorem nw_ok.of {s : State} {A : Array Value} (hts : ∀ w ∈ lw_tbl, w.before A s = true) : nw_ok s := by
  intro w hw
  have h1 := hts w (List.mem_filter.mp hw).1
  have h2 := (List.mem_filter.mp hw).2
  cases w <;> first | exact va_Nw.of rfl h1 | (exfalso; simp [gw_ne] at h2)
theorem ar_ty {s : State} {A : Array Value} {t : FieldType} (h : (Cond.arrayClass t).before A s = true) : ∃ c : ClassId, ArrOfT s c t ∧ s.vm.findClass ("[" ++ t.toString) = some c := by
  obtain ⟨c, k, comp, h1, h2, h3⟩ := Cond.arrayClass_spec h
  exact ⟨c, fun n z => ⟨(fun k h => by cases h), k, h2, comp, h3⟩, h1⟩
theorem ar_ob {s : State} {A : Array Value} {C : String} (h : (Cond.arrayOver (.object C)).before A s = true) : ∃ c : ClassId, ArrOfT s c (.object C) ∧ va_RA s c (.object C) := by
  obtain ⟨comp, c, k, h1, _, h3, h4, h5⟩ := Cond.arrayOver_spec h
  exact ⟨c, fun n z => ⟨(fun k h => by cases h), k, h3, comp, h4⟩, k, comp, h3, h4, h1, h5⟩
theorem cl_known {s : State} {Ar : Array Value} (hts : ∀ w ∈ lw_tbl, w.before Ar s = true) : ∃ D : va_G, ∀ (c : Nat) (q : vw_C), kz_cl[c]? = some q → u_Kn s q.1 q.2.1 q.2.2 (D.1 c) (D.2 c) := by
  have hg : ∀ w ∈ gw_tbl, w.before Ar s = true := fun w hw => hts w (List.mem_filter.mp hw).1
  have h : ∀ c : Nat, ∃ y : ClassId × (Nat → Nat), ∀ q : vw_C, kz_cl[c]? = some q → u_Kn s q.1 q.2.1 q.2.2 y.1 y.2 := by
    intro c
    by_cases hc : c < 7
    · rcases (show c = 0 ∨ c = 1 ∨ c = 2 ∨ c = 3 ∨ c = 4 ∨ c = 5 ∨ c = 6 by omega) with rfl | rfl | rfl | rfl | rfl | rfl | rfl
      · obtain ⟨cC, iS, hk⟩ := u_known (n := 7) hg in_AR (hts _ (lt_1 (i := 16) (by set_option maxRecDepth 100000 in exact rfl))); exact ⟨(cC, iS), fun q hq => by cases hq; exact hk⟩
      · obtain ⟨cC, iS, hk⟩ := u_known (n := 2) hg in_Wi (hts _ (lt_1 (i := 24) (by set_option maxRecDepth 100000 in exact rfl))); exact ⟨(cC, iS), fun q hq => by cases hq; exact hk⟩
      · obtain ⟨cC, iS, hk⟩ := u_known (n := 2) hg in_He (hts _ (lt_1 (i := 39) (by set_option maxRecDepth 100000 in exact rfl))); exact ⟨(cC, iS), fun q hq => by cases hq; exact hk⟩
      · obtain ⟨cC, iS, hk⟩ := u_known (n := 4) hg in_Dr (hts _ (lt_1 (i := 94) (by set_option maxRecDepth 100000 in exact rfl))); exact ⟨(cC, iS), fun q hq => by cases hq; exact hk⟩
      · obtain ⟨cC, iS, hk⟩ := u_known (n := 10) hg in_Ba (hts _ (lt_1 (i := 54) (by set_option maxRecDepth 100000 in exact rfl))); exact ⟨(cC, iS), fun q hq => by cases hq; exact hk⟩
      · obtain ⟨cC, iS, hk⟩ := u_known (n := 3) hg in_Wa (hts _ (lt_1 (i := 118) (by set_option maxRecDepth 100000 in exact rfl))); exact ⟨(cC, iS), fun q hq => by cases hq; exact hk⟩
      · obtain ⟨cC, iS, hk⟩ := u_known (n := 22) hg in_Mo (hts _ (lt_3 (i := 139) (by set_option maxRecDepth 100000 in exact rfl))); exact ⟨(cC, iS), fun q hq => by cases hq; exact hk⟩
    · exact ⟨(0, fun _ => 0), fun q hq => absurd (List.getElem?_eq_some_iff.mp hq).1 (by show ¬ c < 7; exact hc)⟩
  exact ⟨(fun c => (h c).choose.1, fun c => (h c).choose.2), fun c q hq => (h c).choose_spec q hq⟩
theorem ls_K {s : State} {Ar : Array Value} (hts : ∀ w ∈ lw_tbl, w.before Ar s = true) : ∃ (D : va_G) (cA : Nat → ClassId), ∀ ad : Nat → Nat, va_K D kz_cl (lz_t (D, ad, cA)) s := by
  obtain ⟨D, hD⟩ := cl_known hts
  obtain ⟨c0, a0, b0⟩ := ar_ty (t := .int) (hts _ (lt_1 (i := 36) (by set_option maxRecDepth 100000 in exact rfl)))
  obtain ⟨c1, a1, b1⟩ := ar_ty (t := .boolean) (hts _ (lt_1 (i := 51) (by set_option maxRecDepth 100000 in exact rfl)))
  obtain ⟨c4, a4, b4⟩ := ar_ty (t := .long) (hts _ (lt_4 (i := 180) (by set_option maxRecDepth 100000 in exact rfl)))
  obtain ⟨c2, a2, b2⟩ := ar_ob (C := "AreaRouters$Hearing") (hts _ (lt_1 (i := 38) (by set_option maxRecDepth 100000 in exact rfl)))
  obtain ⟨c3, a3, b3⟩ := ar_ob (C := "AreaRouters$Base") (hts _ (lt_1 (i := 53) (by set_option maxRecDepth 100000 in exact rfl)))
  refine ⟨D, (fun j => if j = 0 then c0 else if j = 1 then c1 else if j = 2 then c2 else if j = 3 then c3 else c4), fun ad => ⟨hD, fun k q hq => ?_⟩⟩
  have hk : k < 5 := (List.getElem?_eq_some_iff.mp hq).1
  rcases (show k = 0 ∨ k = 1 ∨ k = 2 ∨ k = 3 ∨ k = 4 by omega) with rfl | rfl | rfl | rfl | rfl
  · cases hq; exact ⟨a0, b0⟩
  · cases hq; exact ⟨a1, b1⟩
  · cases hq; exact ⟨a2, b2⟩
  · cases hq; exact ⟨a3, b3⟩
  · cases hq; exact ⟨a4, b4⟩
set_option maxHeartbeats 4000000 in
set_option maxRecDepth 100000 in
theorem whole_start {p : Program} {e : Env} {s : State} {m : MethodId} {below : List Frame} {meth : Method} {c : Code} (l : Launch) {b L : Nat} {xs : Nat → Int32} (hl0 : l.stackTraces = false) {I : Nat → jz_M → jz_M → Prop} (hs : sp_all I) (h0 : I 0 m0_C m0_M) (hL : L ≤ 2560) (C0 : lw_At p s m meth c b L xs) : W p l e room_1 s m #[Value.ref b] below meth c s.heap [] 0 0 (lw_Z below #[Value.ref b] s) (entryFrame m ([Value.ref b] : List Value).toArray 7) := by
  obtain ⟨hexec, hcode, hret, hml, hown, hts, hX, hbl, hlk, hgv⟩ := C0
  obtain ⟨D, cA, hK⟩ := ls_K hts
  have hgw : ∀ w ∈ gw_tbl, w.before #[Value.ref b] s = true := fun w hw => hts w (List.mem_filter.mp hw).1
  have hnw : nw_ok s := nw_ok.of hts
  have hka : ka_ok s := ⟨va_AO.of (hts _ (lt_1 (i := 38) (by set_option maxRecDepth 100000 in exact rfl))), va_AO.of (hts _ (lt_1 (i := 53) (by set_option maxRecDepth 100000 in exact rfl)))⟩
  have hK5 := hK (fun k => s.heap.size + k)
  have hK4 : va_K D kz_cl (kz_t cA) s := ⟨hK5.1, fun k q hq => hK5.2 k q (by rw [show lz_t (D, (fun k => s.heap.size + k), cA) = kz_t cA ++ [(cA 4, .long)] from rfl, List.getElem?_append_left (List.getElem?_eq_some_iff.mp hq).1]; exact hq)⟩
  have hR : s.vm.findClass R_AR = some (D.1 0) := (hK5.1 0 _ rfl).2.1
  have hf := flat_of_before _ hgv
  have hx : xz_ok s := xz_ok.of hR hts (fun w hw => by
    rcases List.mem_cons.mp hw with rfl | hw
    · exact hf _ (by decide +kernel)
    rcases List.mem_cons.mp hw with rfl | hw
    · exact hf _ (by decide +kernel)
    cases hw)
  have hxn : xn_ok s := ⟨va_Nc.of (hf (Cond.not (.castable xz_is xz_io)) (by decide +kernel)), va_Nc.of (hf (Cond.not (.castable xz_ia xz_io)) (by decide +kernel)), va_Nc.of (hf (Cond.not (.castable xz_ia xz_is)) (by decide +kernel))⟩
  have hJ : s.vm.findClass ("[" ++ FieldType.long.toString) = some (cA 4) := (hK5.2 4 _ rfl).2
  have hI : jz_I (lz_G (D, (fun k => s.heap.size + k), cA)) := fun i j _ _ e => Nat.add_left_cancel e
  have hXS : jl_S (p, l, e, room_1, s, m, #[Value.ref b], below, meth, c) (lz_G (D, (fun k => s.heap.size + k), cA)) b L xs := ⟨hX, hbl, fun k _ => Nat.le_add_right _ _⟩
  have C : jz_C (p, l, e, room_1, s, m, #[Value.ref b], below, meth, c) 7 code R_Lw (some .boolean) room_1 (lz_G (D, (fun k => s.heap.size + k), cA)) := ⟨hexec, hcode, hml, hown, hgw, hK5, hI, hlk, hret, rfl, hnw⟩
  have K : kl_C (p, l, e, room_1, s, m, #[Value.ref b], below, meth, c) 7 code R_Lw room_1 D cA s.heap.size 0 := ⟨hexec, hcode, hml, hown, hgw, hK4, rfl, trivial, trivial, rfl, hnw, trivial, hka⟩
  have fin : kz_J (p, l, e, room_1, s, m, #[Value.ref b], below, meth, c) 7 D s.heap.size (lw_Z below #[Value.ref b] s) 174 (fe_ D cA s.heap.size) 174 21461 [(0, .ref b), (1, .ref (s.heap.size + 0)), (2, .ref (s.heap.size + 152)), (3, .ref (s.heap.size + 173)), (4, .int 0)] 23 [] := by
    intro H locs ls hP hS hl
    refine va_forget (fun q hq => hS.2.2 q hq) ?_
    refine law_loop C hXS hI hx hxn hl0 hs hL (L / 5) 0 0 m0_C m0_M 0 (by omega) (by decide) h0 H [] ls (fun k q hq => ?_) ⟨hS.1, fun q h1 h2 => hS.2.1 q h1 (Nat.not_le_of_lt h1), fun _ h => by cases h⟩ hl
    obtain ⟨h1, rfl⟩ := jz_w_of hq
    have h2 := hP k _ (kz_at h1)
    rw [fe_at h1] at h2
    exact h2
  have walk : kz_J (p, l, e, room_1, s, m, #[Value.ref b], below, meth, c) 7 D s.heap.size (lw_Z below #[Value.ref b] s) 0 (fun _ => .inr (0, [])) 0 0 [(0, .ref b)] 0 [] := by
    refine kl_newo 0 [.null, .null, .null, .null, .null, .null, .null] K dl_0 (lt_1 (i := 15) (by set_option maxRecDepth 100000 in exact rfl)) (lt_1 (i := 16) (by set_option maxRecDepth 100000 in exact rfl)) (lt_1 (i := 1) (by set_option maxRecDepth 100000 in exact rfl)) (ci := 0) rfl in_AR tt_AR (by decide) (by decide) (by decide) (by decide) ?_
    refine kl_dup 3 K dl_3 rfl ?_
    refine kl_init 4 K dl_4 (c_AR_init l (va_up_self _ _ _)) sz_AR_init ti_AR_init rfl (lt_1 (i := 17) (by set_option maxRecDepth 100000 in exact rfl)) ⟨rfl, rfl⟩ (by decide) ⟨by decide, by decide⟩ (by decide) (Nat.le_of_ble_eq_true rfl) ?_
    refine kl_astore_n 7 [(0, .ref b), (1, .ref (s.heap.size + 0))] K dl_7 rfl (by decide) rfl ?_
    refine kl_newo 8 [.int 0, .null, .null, .null, .null, .null, .null, .null, .null, .null, .null, .null, .null, .null, .null, .null, .null, .null, .int 0, .null, .null, .null] K dl_8 (lt_3 (i := 138) (by set_option maxRecDepth 100000 in exact rfl)) (lt_3 (i := 139) (by set_option maxRecDepth 100000 in exact rfl)) (lt_1 (i := 7) (by set_option maxRecDepth 100000 in exact rfl)) (ci := 6) rfl in_Mo tt_Mo (by decide) (by decide) (by decide) (by decide) ?_
    refine kl_dup 11 K dl_11 rfl ?_
    refine kl_init 12 K dl_12 (c_Mo_init l (n := 153) (k0 := 152) (by decide) (va_up_self _ _ _)) sz_Mo_init ti_Mo_init rfl (lt_3 (i := 140) (by set_option maxRecDepth 100000 in exact rfl)) ⟨rfl, rfl⟩ (by decide) ⟨by decide, by decide⟩ (by decide) (Nat.le_of_ble_eq_true rfl) ?_
    refine kl_astore_n 15 [(0, .ref b), (1, .ref (s.heap.size + 0)), (2, .ref (s.heap.size + 152))] K dl_15 rfl (by decide) rfl ?_
    refine kl_iconst 16 1 K dl_16 (by decide) ?_
    refine kl_newl 17 1 K dl_17 hJ (lt_4 (i := 180) (by set_option maxRecDepth 100000 in exact rfl)) (by decide) (by decide) (by decide) (by decide) (by decide) (by decide) ?_
    refine kl_astore_n 19 [(0, .ref b), (1, .ref (s.heap.size + 0)), (2, .ref (s.heap.size + 152)), (3, .ref (s.heap.size + 173))] K dl_19 rfl (by decide) rfl ?_
    refine kl_iconst 20 0 K dl_20 (by decide) ?_
    refine kl_istore 21 [(0, .ref b), (1, .ref (s.heap.size + 0)), (2, .ref (s.heap.size + 152)), (3, .ref (s.heap.size + 173)), (4, .int 0)] K dl_21 rfl (by decide) rfl ?_
    exact kr_norm (n' := 174) (kc' := 174) (ks' := 21461) (E' := fe_ D cA s.heap.size) rfl rfl rfl (fun _ _ => rfl) fin
  have hq := walk s.heap [] _ (fun k q hq => absurd (kz_of hq).1 (Nat.not_lt_zero k)) va_S.rf (lv_entry [Value.ref b] (Nat.le_of_ble_eq_true rfl))
  rw [lg_entry_eq]
  exact hq
