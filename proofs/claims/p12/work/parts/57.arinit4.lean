/-! the constructor of the class: bases -/
set_option maxHeartbeats 4000000 in
set_option maxRecDepth 100000 in
theorem ar_4 {X : jz_X} {D : va_G} {cA : Nat → ClassId} {b : Nat} {Q : State → Prop} (C : kz_C X 2 b_AR_init R_AR rm_AR_init D cA b 1) {E : Nat → va_E} (h0 : E 0 = .inr (0, [.ref (b + 1), .ref (b + 2), .ref (b + 3), .ref (b + 6), .null, .null, .null])) (hT : ∀ k, 0 < k → k < 13 → k ≠ 6 → k ≠ 13 → E k = tc_C D cA b k) (f6 : Nat → Option Nat) (h6 : E 6 = .inl (cA 2, 2, .inr (.inr (.inr (.inr f6))))) (kk : ∀ E2 : Nat → va_E, E2 0 = .inr (0, [.ref (b + 1), .ref (b + 2), .ref (b + 3), .ref (b + 6), .ref (b + 13), .null, .null]) → (∀ k, 0 < k → k < 14 → k ≠ 6 → k ≠ 13 → E2 k = tc_C D cA b k) → E2 6 = .inl (cA 2, 2, .inr (.inr (.inr (.inr f6)))) → E2 13 = .inl (cA 3, 12, .inr (.inr (.inr (.inr (fun _ => none))))) → kz_J X 2 D b Q 14 E2 13 968 [(0, .ref (b + 0)), (1, .int 0)] 97 []) : kz_J X 2 D b Q 13 E 12 956 [(0, .ref (b + 0)), (1, .int 2)] 86 [] := by
  refine kr_aload_n 86 C d_AR_init_86 rfl ?_
  refine kr_bipush 87 12 C d_AR_init_87 (by decide) ?_
  refine kr_newq 89 12 3 "AreaRouters$Base" C d_AR_init_89 (lt_1 (i := 52) (by set_option maxRecDepth 100000 in exact rfl)) C.2.2.2.2.2.2.2.2.2.2.2.2.2 rfl (by decide) (by decide) (by decide) (by decide) (by decide) (by decide) ?_
  obtain ⟨Ea, hEa⟩ : ∃ F, F = va_up E 13 (.inl (cA 3, 12, .inr (.inr (.inr (.inr (fun _ => none)))))) := ⟨_, rfl⟩
  refine kr_E hEa ?_
  have h0 : Ea 0 = .inr (0, [.ref (b + 1), .ref (b + 2), .ref (b + 3), .ref (b + 6), .null, .null, .null]) := by rw [hEa, va_up_ne _ _ (by decide)]; exact h0
  refine kr_putF (ref := "AreaRouters") (ty := .array (.object "AreaRouters$Base")) (fs := [.ref (b + 1), .ref (b + 2), .ref (b + 3), .ref (b + 6), .null, .null, .null]) (j := 4) (k := 0) 92 C d_AR_init_92 (by omega) h0 rfl in_AR tt_AR tn_AR (by decide) (lt_1 (i := 137) (by set_option maxRecDepth 100000 in exact rfl)) rfl rfl rfl (by decide +kernel) rfl rfl (Nat.le_of_ble_eq_true rfl) ?_
  obtain ⟨Eb, hEb⟩ : ∃ F, F = va_up Ea 0 (.inr (0, [.ref (b + 1), .ref (b + 2), .ref (b + 3), .ref (b + 6), .ref (b + 13), .null, .null])) := ⟨_, rfl⟩
  refine kr_E hEb ?_
  have h0 : Eb 0 = .inr (0, [.ref (b + 1), .ref (b + 2), .ref (b + 3), .ref (b + 6), .ref (b + 13), .null, .null]) := by rw [hEb]; exact va_up_self _ _ _
  have h6 : Eb 6 = .inl (cA 2, 2, .inr (.inr (.inr (.inr f6)))) := by rw [hEb, va_up_ne _ _ (by decide), hEa, va_up_ne _ _ (by decide)]; exact h6
  have h13 : Eb 13 = .inl (cA 3, 12, .inr (.inr (.inr (.inr (fun _ => none))))) := by rw [hEb, va_up_ne _ _ (by decide), hEa]; exact va_up_self _ _ _
  have hT : ∀ k, 0 < k → k < 14 → k ≠ 6 → k ≠ 13 → Eb k = tc_C D cA b k := fun k a1 a2 a3 a4 => by rw [hEb, va_up_ne _ _ (by omega), hEa, va_up_ne _ _ a4]; exact hT k a1 (by omega) a3 a4
  refine kr_iconst 95 0 C d_AR_init_95 (by decide) ?_
  refine kr_istore_n 96 [(0, .ref (b + 0)), (1, .int 0)] C d_AR_init_96 rfl (by decide) rfl ?_
  exact kr_norm (n' := 14) (kc' := 13) (ks' := 968) (E' := Eb) rfl rfl rfl (fun _ _ => rfl) (kk Eb h0 hT h6 h13)
theorem jz_ixn {n k : Nat} (h : k < n) (hn : n < 2 ^ 31) : jz_ix n (nI k) = some k := by
  unfold jz_ix
  rw [nI_clamp (by omega), if_neg]
  rintro (q | q)
  · exact nI_pos (by omega) q
  · omega
theorem tc_Ba_ob {D : va_G} {cA : Nat → ClassId} {b i : Nat} (hi : i < 12) : tc_C D cA b (14 + 11 * i) = .inr (4, [.ref (b + (14 + 11 * i + 1)), .ref (b + (14 + 11 * i + 1 + 1)), .ref (b + (14 + 11 * i + 1 + 2)), .ref (b + (14 + 11 * i + 1 + 3)), .ref (b + (14 + 11 * i + 1 + 4)), .ref (b + (14 + 11 * i + 1 + 5)), .ref (b + (14 + 11 * i + 1 + 6)), .ref (b + (14 + 11 * i + 1 + 7)), .ref (b + (14 + 11 * i + 1 + 8)), .ref (b + (14 + 11 * i + 1 + 9))]) := by
  unfold tc_C ez_C
  rw [if_neg (by omega), if_pos (by omega), if_pos (by omega)]
  simp only [fz_Ba]
theorem tc_Ba_0 {D : va_G} {cA : Nat → ClassId} {b i : Nat} (hi : i < 12) : tc_C D cA b (14 + 11 * i + 1) = .inl (cA 0, 42, .inl (fun _ => 0)) := by
  unfold tc_C ez_C
  rw [if_neg (by omega), if_pos (by omega), if_neg (by omega), if_neg (by omega), if_neg (by omega)]
  have h0 : m0_C (14 + 11 * i + 1) = fun _ => 0 := by
    funext j
    simp only [m0_C]
    rw [if_neg (by omega)]
  rw [h0]
theorem tc_Ba_1 {D : va_G} {cA : Nat → ClassId} {b i : Nat} (hi : i < 12) : tc_C D cA b (14 + 11 * i + 1 + 1) = .inl (cA 0, 42, .inl (fun _ => 0)) := by
  unfold tc_C ez_C
  rw [if_neg (by omega), if_pos (by omega), if_neg (by omega), if_neg (by omega), if_neg (by omega)]
  have h0 : m0_C (14 + 11 * i + 1 + 1) = fun _ => 0 := by
    funext j
    simp only [m0_C]
    rw [if_neg (by omega)]
  rw [h0]
theorem tc_Ba_2 {D : va_G} {cA : Nat → ClassId} {b i : Nat} (hi : i < 12) : tc_C D cA b (14 + 11 * i + 1 + 2) = .inl (cA 0, 42, .inl (fun _ => 0)) := by
  unfold tc_C ez_C
  rw [if_neg (by omega), if_pos (by omega), if_neg (by omega), if_neg (by omega), if_neg (by omega)]
  have h0 : m0_C (14 + 11 * i + 1 + 2) = fun _ => 0 := by
    funext j
    simp only [m0_C]
    rw [if_neg (by omega)]
  rw [h0]
theorem tc_Ba_3 {D : va_G} {cA : Nat → ClassId} {b i : Nat} (hi : i < 12) : tc_C D cA b (14 + 11 * i + 1 + 3) = .inl (cA 0, 42, .inl (fun _ => 0)) := by
  unfold tc_C ez_C
  rw [if_neg (by omega), if_pos (by omega), if_neg (by omega), if_neg (by omega), if_neg (by omega)]
  have h0 : m0_C (14 + 11 * i + 1 + 3) = fun _ => 0 := by
    funext j
    simp only [m0_C]
    rw [if_neg (by omega)]
  rw [h0]
theorem tc_Ba_4 {D : va_G} {cA : Nat → ClassId} {b i : Nat} (hi : i < 12) : tc_C D cA b (14 + 11 * i + 1 + 4) = .inl (cA 1, 42, .inl (fun _ => 0)) := by
  unfold tc_C ez_C
  rw [if_neg (by omega), if_pos (by omega), if_neg (by omega), if_pos (by omega)]
  have h0 : m0_C (14 + 11 * i + 1 + 4) = fun _ => 0 := by
    funext j
    simp only [m0_C]
    rw [if_neg (by omega)]
  rw [h0]
theorem tc_Ba_5 {D : va_G} {cA : Nat → ClassId} {b i : Nat} (hi : i < 12) : tc_C D cA b (14 + 11 * i + 1 + 5) = .inl (cA 0, 42, .inl (fun _ => 0)) := by
  unfold tc_C ez_C
  rw [if_neg (by omega), if_pos (by omega), if_neg (by omega), if_neg (by omega), if_neg (by omega)]
  have h0 : m0_C (14 + 11 * i + 1 + 5) = fun _ => 0 := by
    funext j
    simp only [m0_C]
    rw [if_neg (by omega)]
  rw [h0]
theorem tc_Ba_6 {D : va_G} {cA : Nat → ClassId} {b i : Nat} (hi : i < 12) : tc_C D cA b (14 + 11 * i + 1 + 6) = .inl (cA 0, 42, .inl (fun _ => 0)) := by
  unfold tc_C ez_C
  rw [if_neg (by omega), if_pos (by omega), if_neg (by omega), if_neg (by omega), if_neg (by omega)]
  have h0 : m0_C (14 + 11 * i + 1 + 6) = fun _ => 0 := by
    funext j
    simp only [m0_C]
    rw [if_neg (by omega)]
  rw [h0]
theorem tc_Ba_7 {D : va_G} {cA : Nat → ClassId} {b i : Nat} (hi : i < 12) : tc_C D cA b (14 + 11 * i + 1 + 7) = .inl (cA 0, 420, .inl (fun _ => 0)) := by
  unfold tc_C ez_C
  rw [if_neg (by omega), if_pos (by omega), if_neg (by omega), if_neg (by omega), if_pos (by omega)]
  have h0 : m0_C (14 + 11 * i + 1 + 7) = fun _ => 0 := by
    funext j
    simp only [m0_C]
    rw [if_neg (by omega)]
  rw [h0]
theorem tc_Ba_8 {D : va_G} {cA : Nat → ClassId} {b i : Nat} (hi : i < 12) : tc_C D cA b (14 + 11 * i + 1 + 8) = .inl (cA 0, 42, .inl (fun _ => 0)) := by
  unfold tc_C ez_C
  rw [if_neg (by omega), if_pos (by omega), if_neg (by omega), if_neg (by omega), if_neg (by omega)]
  have h0 : m0_C (14 + 11 * i + 1 + 8) = fun _ => 0 := by
    funext j
    simp only [m0_C]
    rw [if_neg (by omega)]
  rw [h0]
theorem tc_Ba_9 {D : va_G} {cA : Nat → ClassId} {b i : Nat} (hi : i < 12) : tc_C D cA b (14 + 11 * i + 1 + 9) = .inl (cA 0, 42, .inl (fun _ => 0)) := by
  unfold tc_C ez_C
  rw [if_neg (by omega), if_pos (by omega), if_neg (by omega), if_neg (by omega), if_neg (by omega)]
  have h0 : m0_C (14 + 11 * i + 1 + 9) = fun _ => 0 := by
    funext j
    simp only [m0_C]
    rw [if_neg (by omega)]
  rw [h0]
set_option maxHeartbeats 4000000 in
set_option maxRecDepth 100000 in
theorem ar_5 {X : jz_X} {D : va_G} {cA : Nat → ClassId} {b : Nat} {Q : State → Prop} (C : kz_C X 2 b_AR_init R_AR rm_AR_init D cA b 1) (f6 : Nat → Option Nat) (kk : ∀ (E2 : Nat → va_E) (f13 : Nat → Option Nat), E2 0 = .inr (0, [.ref (b + 1), .ref (b + 2), .ref (b + 3), .ref (b + 6), .ref (b + 13), .null, .null]) → (∀ k, 0 < k → k < 146 → k ≠ 6 → k ≠ 13 → E2 k = tc_C D cA b k) → E2 6 = .inl (cA 2, 2, .inr (.inr (.inr (.inr f6)))) → E2 13 = .inl (cA 3, 12, .inr (.inr (.inr (.inr f13)))) → (∀ j, j < 12 → f13 j = some (b + (14 + 11 * j))) → kz_J X 2 D b Q 146 E2 145 10664 [(0, .ref (b + 0)), (1, .int 12)] 122 []) :
    ∀ (g i : Nat) (x : Int32), i + g = 12 → x = nI i → ∀ (E : Nat → va_E) (f13 : Nat → Option Nat), E 0 = .inr (0, [.ref (b + 1), .ref (b + 2), .ref (b + 3), .ref (b + 6), .ref (b + 13), .null, .null]) → (∀ k, 0 < k → k < 14 + 11 * i → k ≠ 6 → k ≠ 13 → E k = tc_C D cA b k) → E 6 = .inl (cA 2, 2, .inr (.inr (.inr (.inr f6)))) → E 13 = .inl (cA 3, 12, .inr (.inr (.inr (.inr f13)))) → (∀ j, j < i → f13 j = some (b + (14 + 11 * j))) → kz_J X 2 D b Q (14 + 11 * i) E (13 + 11 * i) (968 + 808 * i) [(0, .ref (b + 0)), (1, .int x)] 97 [] := by
  intro g
  induction g with
  | zero =>
    intro i x hi hx E f13 h0 hT h6 h13 hf
    obtain rfl : i = 12 := by omega
    subst hx
    refine kr_iload_n 97 C d_AR_init_97 rfl ?_
    refine kr_bipush 98 12 C d_AR_init_98 (by decide) ?_
    refine kr_icmp_ge 100 122 C d_AR_init_100 (by decide) (fun _ => ?_) (fun q => absurd (by decide) q)
    exact kr_norm (n' := 146) (kc' := 145) (ks' := 10664) (E' := E) rfl rfl rfl (fun _ _ => rfl) (kk E f13 h0 (fun k a1 a2 => hT k a1 (by omega)) h6 h13 hf)
  | succ g ih =>
    intro i x hi hx E f13 h0 hT h6 h13 hf
    have hi12 : i < 12 := by omega
    refine kr_iload_n 97 C d_AR_init_97 rfl ?_
    refine kr_bipush 98 12 C d_AR_init_98 (by decide) ?_
    refine kr_icmp_ge 100 122 C d_AR_init_100 (by decide) (fun q => absurd q (by rw [hx]; exact nI_ge hi12 (by decide))) (fun _ => ?_)
    refine kr_aload_n 103 C d_AR_init_103 rfl ?_
    refine kr_get (ref := "AreaRouters") (fs := [.ref (b + 1), .ref (b + 2), .ref (b + 3), .ref (b + 6), .ref (b + 13), .null, .null]) (j := 4) (k := 0) (v := .ref (b + 13)) 104 C d_AR_init_104 (by omega) h0 rfl in_AR (by decide) (lt_1 (i := 137) (by set_option maxRecDepth 100000 in exact rfl)) rfl rfl ?_
    refine kr_iload_n 107 C d_AR_init_107 rfl ?_
    refine kr_newo 108 [.null, .null, .null, .null, .null, .null, .null, .null, .null, .null] C d_AR_init_108 (lt_1 (i := 52) (by set_option maxRecDepth 100000 in exact rfl)) (lt_1 (i := 54) (by set_option maxRecDepth 100000 in exact rfl)) (lt_1 (i := 4) (by set_option maxRecDepth 100000 in exact rfl)) (ci := 4) rfl in_Ba tt_Ba (by decide) (show 13 + 11 * i + 1 ≤ 151 by omega) (show 968 + 808 * i + 10 ≤ 10807 by omega) (by omega) ?_
    obtain ⟨E1, hE1⟩ : ∃ F, F = va_up E (14 + 11 * i) (.inr (4, [.null, .null, .null, .null, .null, .null, .null, .null, .null, .null])) := ⟨_, rfl⟩
    refine kr_E hE1 ?_
    refine kr_dup 111 C d_AR_init_111 rfl ?_
    refine kr_initN (host := "AreaRouters") 112 C d_AR_init_112 (c_Ba_init (xz_l X) (k0 := 14 + 11 * i) (by omega) (by rw [hE1]; exact va_up_self _ _ _)) sz_Ba_init ti_Ba_init rfl (lt_1 (i := 55) (by set_option maxRecDepth 100000 in exact rfl)) ⟨rfl, rfl⟩ (by decide) ⟨show 13 + 11 * i + 1 + 10 ≤ 151 by omega, show 968 + 808 * i + 10 + 798 ≤ 10807 by omega⟩ (by omega) (Nat.le_of_ble_eq_true rfl) ?_
    obtain ⟨E2, hE2⟩ : ∃ F, F = eb_Ba cA b (14 + 11 * i + 1) (14 + 11 * i) E1 := ⟨_, rfl⟩
    refine kr_E hE2 ?_
    have h0 : E2 0 = .inr (0, [.ref (b + 1), .ref (b + 2), .ref (b + 3), .ref (b + 6), .ref (b + 13), .null, .null]) := by rw [hE2, eb_Ba_lo (by omega) (by omega) (by omega), hE1, va_up_ne _ _ (by omega)]; exact h0
    have h6 : E2 6 = .inl (cA 2, 2, .inr (.inr (.inr (.inr f6)))) := by rw [hE2, eb_Ba_lo (by omega) (by omega) (by omega), hE1, va_up_ne _ _ (by omega)]; exact h6
    have h13 : E2 13 = .inl (cA 3, 12, .inr (.inr (.inr (.inr f13)))) := by rw [hE2, eb_Ba_lo (by omega) (by omega) (by omega), hE1, va_up_ne _ _ (by omega)]; exact h13
    have hob := eb_Ba_ob (cA := cA) (b := b) (n := 14 + 11 * i + 1) (k0 := 14 + 11 * i) (E := E1) (by omega)
    rw [← hE2] at hob
    refine kr_aast (k := 13) (len := 12) (j := i) (v := 14 + 11 * i) (q := 3) (Cn := "AreaRouters$Base") 115 C d_AR_init_115 (by omega) h13 rfl (by omega) hob rfl (by rw [hx]; exact jz_ixn hi12 (by decide)) ?_
    obtain ⟨E3, hE3⟩ : ∃ F, F = va_up E2 13 (.inl (cA 3, 12, .inr (.inr (.inr (.inr (va_up f13 i (some (b + (14 + 11 * i))))))))) := ⟨_, rfl⟩
    refine kr_E hE3 ?_
    obtain ⟨y, hy⟩ : ∃ y : Int32, y = x + Int32.ofInt 1 := ⟨_, rfl⟩
    refine kr_iinc 116 (v := y) [(0, .ref (b + 0)), (1, .int y)] C d_AR_init_116 rfl (by decide) rfl hy rfl ?_
    refine kr_goto 119 97 C d_AR_init_119 (by decide) ?_
    refine kr_norm (n' := 14 + 11 * (i + 1)) (kc' := 13 + 11 * (i + 1)) (ks' := 968 + 808 * (i + 1)) (E' := E3) (by omega) (by omega) (by omega) (fun _ _ => rfl) (ih (i + 1) y (by omega) (by rw [hy, hx]; exact nI_1 i) E3 _ ?_ (fun k a1 a2 a3 a4 => ?_) ?_ (by rw [hE3]; exact va_up_self _ _ _) (fun j hj => ?_))
    · rw [hE3, va_up_ne _ _ (by omega)]; exact h0
    · rw [hE3, va_up_ne _ _ a4, hE2]
      by_cases hlt : k < 14 + 11 * i
      · rw [eb_Ba_lo (by omega) (by omega) (by omega), hE1, va_up_ne _ _ (by omega)]; exact hT k a1 hlt a3 a4
      · rcases (show k = 14 + 11 * i ∨ k = 14 + 11 * i + 1 + 0 ∨ k = 14 + 11 * i + 1 + 1 ∨ k = 14 + 11 * i + 1 + 2 ∨ k = 14 + 11 * i + 1 + 3 ∨ k = 14 + 11 * i + 1 + 4 ∨ k = 14 + 11 * i + 1 + 5 ∨ k = 14 + 11 * i + 1 + 6 ∨ k = 14 + 11 * i + 1 + 7 ∨ k = 14 + 11 * i + 1 + 8 ∨ k = 14 + 11 * i + 1 + 9 by omega) with rfl | rfl | rfl | rfl | rfl | rfl | rfl | rfl | rfl | rfl | rfl
        · exact (eb_Ba_ob (by omega)).trans (tc_Ba_ob hi12).symm
        · exact (eb_Ba_0 (by omega)).trans (tc_Ba_0 hi12).symm
        · exact (eb_Ba_1 (by omega)).trans (tc_Ba_1 hi12).symm
        · exact (eb_Ba_2 (by omega)).trans (tc_Ba_2 hi12).symm
        · exact (eb_Ba_3 (by omega)).trans (tc_Ba_3 hi12).symm
        · exact (eb_Ba_4 (by omega)).trans (tc_Ba_4 hi12).symm
        · exact (eb_Ba_5 (by omega)).trans (tc_Ba_5 hi12).symm
        · exact (eb_Ba_6 (by omega)).trans (tc_Ba_6 hi12).symm
        · exact (eb_Ba_7 (by omega)).trans (tc_Ba_7 hi12).symm
        · exact (eb_Ba_8 (by omega)).trans (tc_Ba_8 hi12).symm
        · exact (eb_Ba_9 (by omega)).trans (tc_Ba_9 hi12).symm
    · rw [hE3, va_up_ne _ _ (by omega)]; exact h6
    · by_cases hji : j = i
      · subst hji; exact va_up_self _ _ _
      · rw [va_up_ne _ _ hji]; exact hf j (by omega)
