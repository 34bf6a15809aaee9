/-! the constructor of the class -/
abbrev b_AR_init : ByteArray := prog_1_method_1_code
abbrev y_AR_init : MethodName := ⟨"AreaRouters", "<init>", "()V"⟩
theorem sz_AR_init : cz_S (.code y_AR_init b_AR_init 2 none) y_AR_init b_AR_init 2 none 0 := ⟨rfl, lt_1 (i := 19) (by set_option maxRecDepth 100000 in exact rfl), lt_1 (i := 1) (by set_option maxRecDepth 100000 in exact rfl), by decide +kernel, by decide +kernel⟩
theorem ti_AR_init : Cond.instanceMethod y_AR_init ∈ lw_tbl := lt_1 (i := 18) (by set_option maxRecDepth 100000 in exact rfl)
theorem d_AR_init_0 : decode b_AR_init 0 = .ok (.aload_n 0, 1) := by decide +kernel
theorem d_AR_init_1 : decode b_AR_init 1 = .ok (.invokespecial 3, 3) := by decide +kernel
theorem d_AR_init_4 : decode b_AR_init 4 = .ok (.aload_n 0, 1) := by decide +kernel
theorem d_AR_init_5 : decode b_AR_init 5 = .ok (.bipush 6, 2) := by decide +kernel
theorem d_AR_init_7 : decode b_AR_init 7 = .ok (.newarray .int, 2) := by decide +kernel
theorem d_AR_init_9 : decode b_AR_init 9 = .ok (.putfield 9, 3) := by decide +kernel
theorem d_AR_init_12 : decode b_AR_init 12 = .ok (.aload_n 0, 1) := by decide +kernel
theorem d_AR_init_13 : decode b_AR_init 13 = .ok (.bipush 6, 2) := by decide +kernel
theorem d_AR_init_15 : decode b_AR_init 15 = .ok (.newarray .int, 2) := by decide +kernel
theorem d_AR_init_17 : decode b_AR_init 17 = .ok (.putfield 13, 3) := by decide +kernel
theorem d_AR_init_20 : decode b_AR_init 20 = .ok (.iconst 0, 1) := by decide +kernel
theorem d_AR_init_21 : decode b_AR_init 21 = .ok (.istore_n 1, 1) := by decide +kernel
theorem d_AR_init_22 : decode b_AR_init 22 = .ok (.iload_n 1, 1) := by decide +kernel
theorem d_AR_init_23 : decode b_AR_init 23 = .ok (.bipush 6, 2) := by decide +kernel
theorem d_AR_init_25 : decode b_AR_init 25 = .ok (.if_icmp .ge 16, 3) := by decide +kernel
theorem d_AR_init_28 : decode b_AR_init 28 = .ok (.aload_n 0, 1) := by decide +kernel
theorem d_AR_init_29 : decode b_AR_init 29 = .ok (.getfield 13, 3) := by decide +kernel
theorem d_AR_init_32 : decode b_AR_init 32 = .ok (.iload_n 1, 1) := by decide +kernel
theorem d_AR_init_33 : decode b_AR_init 33 = .ok (.iconst 1, 1) := by decide +kernel
theorem d_AR_init_34 : decode b_AR_init 34 = .ok (.iastore, 1) := by decide +kernel
theorem d_AR_init_35 : decode b_AR_init 35 = .ok (.iinc 1 1, 3) := by decide +kernel
theorem d_AR_init_38 : decode b_AR_init 38 = .ok (.goto (-16), 3) := by decide +kernel
theorem d_AR_init_41 : decode b_AR_init 41 = .ok (.aload_n 0, 1) := by decide +kernel
theorem d_AR_init_42 : decode b_AR_init 42 = .ok (.new 16, 3) := by decide +kernel
theorem d_AR_init_45 : decode b_AR_init 45 = .ok (.dup, 1) := by decide +kernel
theorem d_AR_init_46 : decode b_AR_init 46 = .ok (.invokespecial 18, 3) := by decide +kernel
theorem d_AR_init_49 : decode b_AR_init 49 = .ok (.putfield 19, 3) := by decide +kernel
theorem d_AR_init_52 : decode b_AR_init 52 = .ok (.aload_n 0, 1) := by decide +kernel
theorem d_AR_init_53 : decode b_AR_init 53 = .ok (.iconst 2, 1) := by decide +kernel
theorem d_AR_init_54 : decode b_AR_init 54 = .ok (.anewarray 23, 3) := by decide +kernel
theorem d_AR_init_57 : decode b_AR_init 57 = .ok (.putfield 25, 3) := by decide +kernel
theorem d_AR_init_60 : decode b_AR_init 60 = .ok (.iconst 0, 1) := by decide +kernel
theorem d_AR_init_61 : decode b_AR_init 61 = .ok (.istore_n 1, 1) := by decide +kernel
theorem d_AR_init_62 : decode b_AR_init 62 = .ok (.iload_n 1, 1) := by decide +kernel
theorem d_AR_init_63 : decode b_AR_init 63 = .ok (.iconst 2, 1) := by decide +kernel
theorem d_AR_init_64 : decode b_AR_init 64 = .ok (.if_icmp .ge 22, 3) := by decide +kernel
theorem d_AR_init_67 : decode b_AR_init 67 = .ok (.aload_n 0, 1) := by decide +kernel
theorem d_AR_init_68 : decode b_AR_init 68 = .ok (.getfield 25, 3) := by decide +kernel
theorem d_AR_init_71 : decode b_AR_init 71 = .ok (.iload_n 1, 1) := by decide +kernel
theorem d_AR_init_72 : decode b_AR_init 72 = .ok (.new 23, 3) := by decide +kernel
theorem d_AR_init_75 : decode b_AR_init 75 = .ok (.dup, 1) := by decide +kernel
theorem d_AR_init_76 : decode b_AR_init 76 = .ok (.invokespecial 29, 3) := by decide +kernel
theorem d_AR_init_79 : decode b_AR_init 79 = .ok (.aastore, 1) := by decide +kernel
theorem d_AR_init_80 : decode b_AR_init 80 = .ok (.iinc 1 1, 3) := by decide +kernel
theorem d_AR_init_83 : decode b_AR_init 83 = .ok (.goto (-21), 3) := by decide +kernel
theorem d_AR_init_86 : decode b_AR_init 86 = .ok (.aload_n 0, 1) := by decide +kernel
theorem d_AR_init_87 : decode b_AR_init 87 = .ok (.bipush 12, 2) := by decide +kernel
theorem d_AR_init_89 : decode b_AR_init 89 = .ok (.anewarray 30, 3) := by decide +kernel
theorem d_AR_init_92 : decode b_AR_init 92 = .ok (.putfield 32, 3) := by decide +kernel
theorem d_AR_init_95 : decode b_AR_init 95 = .ok (.iconst 0, 1) := by decide +kernel
theorem d_AR_init_96 : decode b_AR_init 96 = .ok (.istore_n 1, 1) := by decide +kernel
theorem d_AR_init_97 : decode b_AR_init 97 = .ok (.iload_n 1, 1) := by decide +kernel
theorem d_AR_init_98 : decode b_AR_init 98 = .ok (.bipush 12, 2) := by decide +kernel
theorem d_AR_init_100 : decode b_AR_init 100 = .ok (.if_icmp .ge 22, 3) := by decide +kernel
theorem d_AR_init_103 : decode b_AR_init 103 = .ok (.aload_n 0, 1) := by decide +kernel
theorem d_AR_init_104 : decode b_AR_init 104 = .ok (.getfield 32, 3) := by decide +kernel
theorem d_AR_init_107 : decode b_AR_init 107 = .ok (.iload_n 1, 1) := by decide +kernel
theorem d_AR_init_108 : decode b_AR_init 108 = .ok (.new 30, 3) := by decide +kernel
theorem d_AR_init_111 : decode b_AR_init 111 = .ok (.dup, 1) := by decide +kernel
theorem d_AR_init_112 : decode b_AR_init 112 = .ok (.invokespecial 36, 3) := by decide +kernel
theorem d_AR_init_115 : decode b_AR_init 115 = .ok (.aastore, 1) := by decide +kernel
theorem d_AR_init_116 : decode b_AR_init 116 = .ok (.iinc 1 1, 3) := by decide +kernel
theorem d_AR_init_119 : decode b_AR_init 119 = .ok (.goto (-22), 3) := by decide +kernel
theorem d_AR_init_122 : decode b_AR_init 122 = .ok (.aload_n 0, 1) := by decide +kernel
theorem d_AR_init_123 : decode b_AR_init 123 = .ok (.new 37, 3) := by decide +kernel
theorem d_AR_init_126 : decode b_AR_init 126 = .ok (.dup, 1) := by decide +kernel
theorem d_AR_init_127 : decode b_AR_init 127 = .ok (.invokespecial 39, 3) := by decide +kernel
theorem d_AR_init_130 : decode b_AR_init 130 = .ok (.putfield 40, 3) := by decide +kernel
theorem d_AR_init_133 : decode b_AR_init 133 = .ok (.aload_n 0, 1) := by decide +kernel
theorem d_AR_init_134 : decode b_AR_init 134 = .ok (.new 44, 3) := by decide +kernel
theorem d_AR_init_137 : decode b_AR_init 137 = .ok (.dup, 1) := by decide +kernel
theorem d_AR_init_138 : decode b_AR_init 138 = .ok (.invokespecial 46, 3) := by decide +kernel
theorem d_AR_init_141 : decode b_AR_init 141 = .ok (.putfield 47, 3) := by decide +kernel
theorem d_AR_init_144 : decode b_AR_init 144 = .ok (.return_, 1) := by decide +kernel
theorem kr_norm {X : jz_X} {nL : Nat} {D : va_G} {b : Nat} {Q : State → Prop} {n n' : Nat} {E E' : Nat → va_E} {kc ks kc' ks' : Nat} {lv : List (Nat × Value)} {pc : Nat} {st : List Value} (h1 : n = n') (h2 : kc = kc') (h3 : ks = ks') (hE : ∀ k, k < n' → E k = E' k) (k : kz_J X nL D b Q n' E' kc' ks' lv pc st) : kz_J X nL D b Q n E kc ks lv pc st := by
  subst h1; subst h2; subst h3
  intro H locs ls hP hS hl
  rw [kz_congr hE] at hP
  exact k H locs ls hP hS hl
theorem kr_E {X : jz_X} {nL : Nat} {D : va_G} {b : Nat} {Q : State → Prop} {n : Nat} {E E' : Nat → va_E} {kc ks : Nat} {lv : List (Nat × Value)} {pc : Nat} {st : List Value} (h : E' = E) (k : kz_J X nL D b Q n E' kc ks lv pc st) : kz_J X nL D b Q n E kc ks lv pc st := h ▸ k
/-- the memory of a new object -/
def m0_C : jz_M := fun k j => if k = 2 ∧ j < 6 then 1 else 0
def tc_C (D : va_G) (cA : Nat → ClassId) (b : Nat) : Nat → va_E := fun k => ez_C (D, fun k => b + k, cA) k (m0_C k)
def fl_6 : Nat → Int32 := (upd (upd (upd (upd (upd (upd (fun _ => 0) 0 1) 1 1) 2 1) 3 1) 4 1) 5 1)
theorem fl_6_eq : fl_6 = m0_C 2 := by
  funext j
  simp only [fl_6, upd, m0_C]
  rcases Nat.lt_or_ge j 6 with h | h
  · rcases (show j = 0 ∨ j = 1 ∨ j = 2 ∨ j = 3 ∨ j = 4 ∨ j = 5 by omega) with rfl | rfl | rfl | rfl | rfl | rfl <;> rfl
  · rw [if_neg (by omega), if_neg (by omega), if_neg (by omega), if_neg (by omega), if_neg (by omega), if_neg (by omega), if_neg (by omega)]
abbrev rm_AR_init : Room := { frames := 2, cells := 151, slots := 10807, locals := 40 }
abbrev cd_AR_init : Cond := .code y_AR_init b_AR_init 2 none
set_option maxHeartbeats 4000000 in
set_option maxRecDepth 100000 in
theorem ar_1 {X : jz_X} {D : va_G} {cA : Nat → ClassId} {b : Nat} {Q : State → Prop} (C : kz_C X 2 b_AR_init R_AR rm_AR_init D cA b 1) {E : Nat → va_E} (hE0 : E 0 = .inr (0, [.null, .null, .null, .null, .null, .null, .null])) (k : ∀ E2 : Nat → va_E, E2 0 = .inr (0, [.ref (b + 1), .ref (b + 2), .null, .null, .null, .null, .null]) → (∀ k, 0 < k → k < 3 → E2 k = tc_C D cA b k) → kz_J X 2 D b Q 3 E2 2 12 [(0, .ref (b + 0)), (1, .int 6)] 41 []) : kz_J X 2 D b Q 1 E 0 0 [(0, .ref (b + 0))] 0 [] := by
  refine kr_aload_n 0 C d_AR_init_0 rfl ?_
  refine kr_obj 1 C d_AR_init_1 (lt_1 (i := 20) (by set_option maxRecDepth 100000 in exact rfl)) (lt_1 (i := 21) (by set_option maxRecDepth 100000 in exact rfl)) (lt_1 (i := 22) (by set_option maxRecDepth 100000 in exact rfl)) (by decide) (by decide) ?_
  have h0 : E 0 = .inr (0, [.null, .null, .null, .null, .null, .null, .null]) := hE0
  refine kr_aload_n 4 C d_AR_init_4 rfl ?_
  refine kr_bipush 5 6 C d_AR_init_5 (by decide) ?_
  refine kr_newi 7 6 C d_AR_init_7 (lt_1 (i := 36) (by set_option maxRecDepth 100000 in exact rfl)) (by decide) (by decide) (by decide) (by decide) (by decide) (by decide) ?_
  obtain ⟨E1, hE1⟩ : ∃ F, F = va_up E 1 (.inl (cA 0, 6, .inl (fun _ => 0))) := ⟨_, rfl⟩
  refine kr_E hE1 ?_
  have h0 : E1 0 = .inr (0, [.null, .null, .null, .null, .null, .null, .null]) := by rw [hE1, va_up_ne _ _ (by decide)]; exact h0
  have h1 : E1 1 = .inl (cA 0, 6, .inl (fun _ => 0)) := by rw [hE1]; exact va_up_self _ 1 _
  refine kr_putF (ref := "AreaRouters") (ty := .array .int) (fs := [.null, .null, .null, .null, .null, .null, .null]) (j := 0) (k := 0) 9 C d_AR_init_9 (by decide) h0 rfl in_AR tt_AR tn_AR (by decide) (lt_1 (i := 133) (by set_option maxRecDepth 100000 in exact rfl)) rfl rfl rfl (by decide +kernel) rfl rfl (Nat.le_of_ble_eq_true rfl) ?_
  obtain ⟨E2, hE2⟩ : ∃ F, F = va_up E1 0 (.inr (0, [.ref (b + 1), .null, .null, .null, .null, .null, .null])) := ⟨_, rfl⟩
  refine kr_E hE2 ?_
  have h0 : E2 0 = .inr (0, [.ref (b + 1), .null, .null, .null, .null, .null, .null]) := by rw [hE2]; exact va_up_self _ 0 _
  have h1 : E2 1 = .inl (cA 0, 6, .inl (fun _ => 0)) := by rw [hE2, va_up_ne _ _ (by decide)]; exact h1
  refine kr_aload_n 12 C d_AR_init_12 rfl ?_
  refine kr_bipush 13 6 C d_AR_init_13 (by decide) ?_
  refine kr_newi 15 6 C d_AR_init_15 (lt_1 (i := 36) (by set_option maxRecDepth 100000 in exact rfl)) (by decide) (by decide) (by decide) (by decide) (by decide) (by decide) ?_
  obtain ⟨E3, hE3⟩ : ∃ F, F = va_up E2 2 (.inl (cA 0, 6, .inl (fun _ => 0))) := ⟨_, rfl⟩
  refine kr_E hE3 ?_
  have h0 : E3 0 = .inr (0, [.ref (b + 1), .null, .null, .null, .null, .null, .null]) := by rw [hE3, va_up_ne _ _ (by decide)]; exact h0
  have h1 : E3 1 = .inl (cA 0, 6, .inl (fun _ => 0)) := by rw [hE3, va_up_ne _ _ (by decide)]; exact h1
  have h2 : E3 2 = .inl (cA 0, 6, .inl (fun _ => 0)) := by rw [hE3]; exact va_up_self _ 2 _
  refine kr_putF (ref := "AreaRouters") (ty := .array .int) (fs := [.ref (b + 1), .null, .null, .null, .null, .null, .null]) (j := 1) (k := 0) 17 C d_AR_init_17 (by decide) h0 rfl in_AR tt_AR tn_AR (by decide) (lt_1 (i := 134) (by set_option maxRecDepth 100000 in exact rfl)) rfl rfl rfl (by decide +kernel) rfl rfl (Nat.le_of_ble_eq_true rfl) ?_
  obtain ⟨E4, hE4⟩ : ∃ F, F = va_up E3 0 (.inr (0, [.ref (b + 1), .ref (b + 2), .null, .null, .null, .null, .null])) := ⟨_, rfl⟩
  refine kr_E hE4 ?_
  have h0 : E4 0 = .inr (0, [.ref (b + 1), .ref (b + 2), .null, .null, .null, .null, .null]) := by rw [hE4]; exact va_up_self _ 0 _
  have h1 : E4 1 = .inl (cA 0, 6, .inl (fun _ => 0)) := by rw [hE4, va_up_ne _ _ (by decide)]; exact h1
  have h2 : E4 2 = .inl (cA 0, 6, .inl (fun _ => 0)) := by rw [hE4, va_up_ne _ _ (by decide)]; exact h2
  refine kr_iconst 20 0 C d_AR_init_20 (by decide) ?_
  refine kr_istore_n 21 [(0, .ref (b + 0)), (1, .int 0)] C d_AR_init_21 rfl (by decide) rfl ?_
  refine kr_iload_n 22 C d_AR_init_22 rfl ?_
  refine kr_bipush 23 6 C d_AR_init_23 (by decide) ?_
  refine kr_icmp_ge 25 41 C d_AR_init_25 (by decide) (fun q => absurd q (by decide)) (fun _ => ?_)
  refine kr_aload_n 28 C d_AR_init_28 rfl ?_
  refine kr_get (ref := "AreaRouters") (fs := [.ref (b + 1), .ref (b + 2), .null, .null, .null, .null, .null]) (j := 1) (k := 0) (v := .ref (b + 2)) 29 C d_AR_init_29 (by decide) h0 rfl in_AR (by decide) (lt_1 (i := 134) (by set_option maxRecDepth 100000 in exact rfl)) rfl rfl ?_
  refine kr_iload_n 32 C d_AR_init_32 rfl ?_
  refine kr_iconst 33 1 C d_AR_init_33 (by decide) ?_
  refine kr_iast (k := 2) (len := 6) (j := 0) (f := (fun _ => 0)) 34 C d_AR_init_34 (by decide) h2 (by decide) ?_
  obtain ⟨E5, hE5⟩ : ∃ F, F = va_up E4 2 (.inl (cA 0, 6, .inl (upd (fun _ => 0) 0 1))) := ⟨_, rfl⟩
  refine kr_E hE5 ?_
  have h0 : E5 0 = .inr (0, [.ref (b + 1), .ref (b + 2), .null, .null, .null, .null, .null]) := by rw [hE5, va_up_ne _ _ (by decide)]; exact h0
  have h1 : E5 1 = .inl (cA 0, 6, .inl (fun _ => 0)) := by rw [hE5, va_up_ne _ _ (by decide)]; exact h1
  have h2 : E5 2 = .inl (cA 0, 6, .inl (upd (fun _ => 0) 0 1)) := by rw [hE5]; exact va_up_self _ 2 _
  refine kr_iinc 35 (v := 1) [(0, .ref (b + 0)), (1, .int 1)] C d_AR_init_35 rfl (by decide) rfl (by decide) rfl ?_
  refine kr_goto 38 22 C d_AR_init_38 (by decide) ?_
  refine kr_iload_n 22 C d_AR_init_22 rfl ?_
  refine kr_bipush 23 6 C d_AR_init_23 (by decide) ?_
  refine kr_icmp_ge 25 41 C d_AR_init_25 (by decide) (fun q => absurd q (by decide)) (fun _ => ?_)
  refine kr_aload_n 28 C d_AR_init_28 rfl ?_
  refine kr_get (ref := "AreaRouters") (fs := [.ref (b + 1), .ref (b + 2), .null, .null, .null, .null, .null]) (j := 1) (k := 0) (v := .ref (b + 2)) 29 C d_AR_init_29 (by decide) h0 rfl in_AR (by decide) (lt_1 (i := 134) (by set_option maxRecDepth 100000 in exact rfl)) rfl rfl ?_
  refine kr_iload_n 32 C d_AR_init_32 rfl ?_
  refine kr_iconst 33 1 C d_AR_init_33 (by decide) ?_
  refine kr_iast (k := 2) (len := 6) (j := 1) (f := (upd (fun _ => 0) 0 1)) 34 C d_AR_init_34 (by decide) h2 (by decide) ?_
  obtain ⟨E6, hE6⟩ : ∃ F, F = va_up E5 2 (.inl (cA 0, 6, .inl (upd (upd (fun _ => 0) 0 1) 1 1))) := ⟨_, rfl⟩
  refine kr_E hE6 ?_
  have h0 : E6 0 = .inr (0, [.ref (b + 1), .ref (b + 2), .null, .null, .null, .null, .null]) := by rw [hE6, va_up_ne _ _ (by decide)]; exact h0
  have h1 : E6 1 = .inl (cA 0, 6, .inl (fun _ => 0)) := by rw [hE6, va_up_ne _ _ (by decide)]; exact h1
  have h2 : E6 2 = .inl (cA 0, 6, .inl (upd (upd (fun _ => 0) 0 1) 1 1)) := by rw [hE6]; exact va_up_self _ 2 _
  refine kr_iinc 35 (v := 2) [(0, .ref (b + 0)), (1, .int 2)] C d_AR_init_35 rfl (by decide) rfl (by decide) rfl ?_
  refine kr_goto 38 22 C d_AR_init_38 (by decide) ?_
  refine kr_iload_n 22 C d_AR_init_22 rfl ?_
  refine kr_bipush 23 6 C d_AR_init_23 (by decide) ?_
  refine kr_icmp_ge 25 41 C d_AR_init_25 (by decide) (fun q => absurd q (by decide)) (fun _ => ?_)
  refine kr_aload_n 28 C d_AR_init_28 rfl ?_
  refine kr_get (ref := "AreaRouters") (fs := [.ref (b + 1), .ref (b + 2), .null, .null, .null, .null, .null]) (j := 1) (k := 0) (v := .ref (b + 2)) 29 C d_AR_init_29 (by decide) h0 rfl in_AR (by decide) (lt_1 (i := 134) (by set_option maxRecDepth 100000 in exact rfl)) rfl rfl ?_
  refine kr_iload_n 32 C d_AR_init_32 rfl ?_
  refine kr_iconst 33 1 C d_AR_init_33 (by decide) ?_
  refine kr_iast (k := 2) (len := 6) (j := 2) (f := (upd (upd (fun _ => 0) 0 1) 1 1)) 34 C d_AR_init_34 (by decide) h2 (by decide) ?_
  obtain ⟨E7, hE7⟩ : ∃ F, F = va_up E6 2 (.inl (cA 0, 6, .inl (upd (upd (upd (fun _ => 0) 0 1) 1 1) 2 1))) := ⟨_, rfl⟩
  refine kr_E hE7 ?_
  have h0 : E7 0 = .inr (0, [.ref (b + 1), .ref (b + 2), .null, .null, .null, .null, .null]) := by rw [hE7, va_up_ne _ _ (by decide)]; exact h0
  have h1 : E7 1 = .inl (cA 0, 6, .inl (fun _ => 0)) := by rw [hE7, va_up_ne _ _ (by decide)]; exact h1
  have h2 : E7 2 = .inl (cA 0, 6, .inl (upd (upd (upd (fun _ => 0) 0 1) 1 1) 2 1)) := by rw [hE7]; exact va_up_self _ 2 _
  refine kr_iinc 35 (v := 3) [(0, .ref (b + 0)), (1, .int 3)] C d_AR_init_35 rfl (by decide) rfl (by decide) rfl ?_
  refine kr_goto 38 22 C d_AR_init_38 (by decide) ?_
  refine kr_iload_n 22 C d_AR_init_22 rfl ?_
  refine kr_bipush 23 6 C d_AR_init_23 (by decide) ?_
  refine kr_icmp_ge 25 41 C d_AR_init_25 (by decide) (fun q => absurd q (by decide)) (fun _ => ?_)
  refine kr_aload_n 28 C d_AR_init_28 rfl ?_
  refine kr_get (ref := "AreaRouters") (fs := [.ref (b + 1), .ref (b + 2), .null, .null, .null, .null, .null]) (j := 1) (k := 0) (v := .ref (b + 2)) 29 C d_AR_init_29 (by decide) h0 rfl in_AR (by decide) (lt_1 (i := 134) (by set_option maxRecDepth 100000 in exact rfl)) rfl rfl ?_
  refine kr_iload_n 32 C d_AR_init_32 rfl ?_
  refine kr_iconst 33 1 C d_AR_init_33 (by decide) ?_
  refine kr_iast (k := 2) (len := 6) (j := 3) (f := (upd (upd (upd (fun _ => 0) 0 1) 1 1) 2 1)) 34 C d_AR_init_34 (by decide) h2 (by decide) ?_
  obtain ⟨E8, hE8⟩ : ∃ F, F = va_up E7 2 (.inl (cA 0, 6, .inl (upd (upd (upd (upd (fun _ => 0) 0 1) 1 1) 2 1) 3 1))) := ⟨_, rfl⟩
  refine kr_E hE8 ?_
  have h0 : E8 0 = .inr (0, [.ref (b + 1), .ref (b + 2), .null, .null, .null, .null, .null]) := by rw [hE8, va_up_ne _ _ (by decide)]; exact h0
  have h1 : E8 1 = .inl (cA 0, 6, .inl (fun _ => 0)) := by rw [hE8, va_up_ne _ _ (by decide)]; exact h1
  have h2 : E8 2 = .inl (cA 0, 6, .inl (upd (upd (upd (upd (fun _ => 0) 0 1) 1 1) 2 1) 3 1)) := by rw [hE8]; exact va_up_self _ 2 _
  refine kr_iinc 35 (v := 4) [(0, .ref (b + 0)), (1, .int 4)] C d_AR_init_35 rfl (by decide) rfl (by decide) rfl ?_
  refine kr_goto 38 22 C d_AR_init_38 (by decide) ?_
  refine kr_iload_n 22 C d_AR_init_22 rfl ?_
  refine kr_bipush 23 6 C d_AR_init_23 (by decide) ?_
  refine kr_icmp_ge 25 41 C d_AR_init_25 (by decide) (fun q => absurd q (by decide)) (fun _ => ?_)
  refine kr_aload_n 28 C d_AR_init_28 rfl ?_
  refine kr_get (ref := "AreaRouters") (fs := [.ref (b + 1), .ref (b + 2), .null, .null, .null, .null, .null]) (j := 1) (k := 0) (v := .ref (b + 2)) 29 C d_AR_init_29 (by decide) h0 rfl in_AR (by decide) (lt_1 (i := 134) (by set_option maxRecDepth 100000 in exact rfl)) rfl rfl ?_
  refine kr_iload_n 32 C d_AR_init_32 rfl ?_
  refine kr_iconst 33 1 C d_AR_init_33 (by decide) ?_
  refine kr_iast (k := 2) (len := 6) (j := 4) (f := (upd (upd (upd (upd (fun _ => 0) 0 1) 1 1) 2 1) 3 1)) 34 C d_AR_init_34 (by decide) h2 (by decide) ?_
  obtain ⟨E9, hE9⟩ : ∃ F, F = va_up E8 2 (.inl (cA 0, 6, .inl (upd (upd (upd (upd (upd (fun _ => 0) 0 1) 1 1) 2 1) 3 1) 4 1))) := ⟨_, rfl⟩
  refine kr_E hE9 ?_
  have h0 : E9 0 = .inr (0, [.ref (b + 1), .ref (b + 2), .null, .null, .null, .null, .null]) := by rw [hE9, va_up_ne _ _ (by decide)]; exact h0
  have h1 : E9 1 = .inl (cA 0, 6, .inl (fun _ => 0)) := by rw [hE9, va_up_ne _ _ (by decide)]; exact h1
  have h2 : E9 2 = .inl (cA 0, 6, .inl (upd (upd (upd (upd (upd (fun _ => 0) 0 1) 1 1) 2 1) 3 1) 4 1)) := by rw [hE9]; exact va_up_self _ 2 _
  refine kr_iinc 35 (v := 5) [(0, .ref (b + 0)), (1, .int 5)] C d_AR_init_35 rfl (by decide) rfl (by decide) rfl ?_
  refine kr_goto 38 22 C d_AR_init_38 (by decide) ?_
  refine kr_iload_n 22 C d_AR_init_22 rfl ?_
  refine kr_bipush 23 6 C d_AR_init_23 (by decide) ?_
  refine kr_icmp_ge 25 41 C d_AR_init_25 (by decide) (fun q => absurd q (by decide)) (fun _ => ?_)
  refine kr_aload_n 28 C d_AR_init_28 rfl ?_
  refine kr_get (ref := "AreaRouters") (fs := [.ref (b + 1), .ref (b + 2), .null, .null, .null, .null, .null]) (j := 1) (k := 0) (v := .ref (b + 2)) 29 C d_AR_init_29 (by decide) h0 rfl in_AR (by decide) (lt_1 (i := 134) (by set_option maxRecDepth 100000 in exact rfl)) rfl rfl ?_
  refine kr_iload_n 32 C d_AR_init_32 rfl ?_
  refine kr_iconst 33 1 C d_AR_init_33 (by decide) ?_
  refine kr_iast (k := 2) (len := 6) (j := 5) (f := (upd (upd (upd (upd (upd (fun _ => 0) 0 1) 1 1) 2 1) 3 1) 4 1)) 34 C d_AR_init_34 (by decide) h2 (by decide) ?_
  obtain ⟨E10, hE10⟩ : ∃ F, F = va_up E9 2 (.inl (cA 0, 6, .inl (upd (upd (upd (upd (upd (upd (fun _ => 0) 0 1) 1 1) 2 1) 3 1) 4 1) 5 1))) := ⟨_, rfl⟩
  refine kr_E hE10 ?_
  have h0 : E10 0 = .inr (0, [.ref (b + 1), .ref (b + 2), .null, .null, .null, .null, .null]) := by rw [hE10, va_up_ne _ _ (by decide)]; exact h0
  have h1 : E10 1 = .inl (cA 0, 6, .inl (fun _ => 0)) := by rw [hE10, va_up_ne _ _ (by decide)]; exact h1
  have h2 : E10 2 = .inl (cA 0, 6, .inl (upd (upd (upd (upd (upd (upd (fun _ => 0) 0 1) 1 1) 2 1) 3 1) 4 1) 5 1)) := by rw [hE10]; exact va_up_self _ 2 _
  refine kr_iinc 35 (v := 6) [(0, .ref (b + 0)), (1, .int 6)] C d_AR_init_35 rfl (by decide) rfl (by decide) rfl ?_
  refine kr_goto 38 22 C d_AR_init_38 (by decide) ?_
  refine kr_iload_n 22 C d_AR_init_22 rfl ?_
  refine kr_bipush 23 6 C d_AR_init_23 (by decide) ?_
  refine kr_icmp_ge 25 41 C d_AR_init_25 (by decide) (fun _ => ?_) (fun q => absurd (by decide) q)
  refine k E10 h0 (fun k hk1 hk2 => ?_)
  rcases (show k = 1 ∨ k = 2 by omega) with rfl | rfl
  · rw [h1]; rfl
  · rw [h2]; show _ = Sum.inl (cA 0, 6, Sum.inl (m0_C 2)); rw [← fl_6_eq]; rfl
