/-! the constructor of the class: hearings -/
set_option maxHeartbeats 4000000 in
set_option maxRecDepth 100000 in
theorem ar_3 {X : jz_X} {D : va_G} {cA : Nat → ClassId} {b : Nat} {Q : State → Prop} (C : kz_C X 2 b_AR_init R_AR rm_AR_init D cA b 1) {E : Nat → va_E} (h0 : E 0 = .inr (0, [.ref (b + 1), .ref (b + 2), .ref (b + 3), .null, .null, .null, .null])) (hT : ∀ k, 0 < k → k < 6 → k ≠ 6 → k ≠ 13 → E k = tc_C D cA b k) (kk : ∀ E2 : Nat → va_E, E2 0 = .inr (0, [.ref (b + 1), .ref (b + 2), .ref (b + 3), .ref (b + 6), .null, .null, .null]) → (∀ k, 0 < k → k < 13 → k ≠ 6 → k ≠ 13 → E2 k = tc_C D cA b k) → ∀ f6 : Nat → Option Nat, E2 6 = .inl (cA 2, 2, .inr (.inr (.inr (.inr f6)))) → f6 0 = some (b + 7) → f6 1 = some (b + 10) → kz_J X 2 D b Q 13 E2 12 956 [(0, .ref (b + 0)), (1, .int 2)] 86 []) : kz_J X 2 D b Q 6 E 5 86 [(0, .ref (b + 0)), (1, .int 6)] 52 [] := by
  refine kr_aload_n 52 C d_AR_init_52 rfl ?_
  refine kr_iconst 53 2 C d_AR_init_53 (by decide) ?_
  refine kr_newq 54 2 2 "AreaRouters$Hearing" C d_AR_init_54 (lt_1 (i := 37) (by set_option maxRecDepth 100000 in exact rfl)) C.2.2.2.2.2.2.2.2.2.2.2.2.1 rfl (by decide) (by decide) (by decide) (by decide) (by decide) (by decide) ?_
  obtain ⟨Ea, hEa⟩ : ∃ F, F = va_up E 6 (.inl (cA 2, 2, .inr (.inr (.inr (.inr (fun _ => none)))))) := ⟨_, rfl⟩
  refine kr_E hEa ?_
  have h0 : Ea 0 = .inr (0, [.ref (b + 1), .ref (b + 2), .ref (b + 3), .null, .null, .null, .null]) := by rw [hEa, va_up_ne _ _ (by decide)]; exact h0
  refine kr_putF (ref := "AreaRouters") (ty := .array (.object "AreaRouters$Hearing")) (fs := [.ref (b + 1), .ref (b + 2), .ref (b + 3), .null, .null, .null, .null]) (j := 3) (k := 0) 57 C d_AR_init_57 (by omega) h0 rfl in_AR tt_AR tn_AR (by decide) (lt_1 (i := 136) (by set_option maxRecDepth 100000 in exact rfl)) rfl rfl rfl (by decide +kernel) rfl rfl (Nat.le_of_ble_eq_true rfl) ?_
  obtain ⟨Eb, hEb⟩ : ∃ F, F = va_up Ea 0 (.inr (0, [.ref (b + 1), .ref (b + 2), .ref (b + 3), .ref (b + 6), .null, .null, .null])) := ⟨_, rfl⟩
  refine kr_E hEb ?_
  have h0 : Eb 0 = .inr (0, [.ref (b + 1), .ref (b + 2), .ref (b + 3), .ref (b + 6), .null, .null, .null]) := by rw [hEb]; exact va_up_self _ _ _
  have h6 : Eb 6 = .inl (cA 2, 2, .inr (.inr (.inr (.inr (fun _ => none))))) := by rw [hEb, va_up_ne _ _ (by decide), hEa]; exact va_up_self _ _ _
  have hT : ∀ k, 0 < k → k < 7 → k ≠ 6 → k ≠ 13 → Eb k = tc_C D cA b k := fun k a1 a2 a3 a4 => by rw [hEb, va_up_ne _ _ (by omega), hEa, va_up_ne _ _ a3]; exact hT k a1 (by omega) a3 a4
  refine kr_iconst 60 0 C d_AR_init_60 (by decide) ?_
  refine kr_istore_n 61 [(0, .ref (b + 0)), (1, .int 0)] C d_AR_init_61 rfl (by decide) rfl ?_
  refine kr_iload_n 62 C d_AR_init_62 rfl ?_
  refine kr_iconst 63 2 C d_AR_init_63 (by decide) ?_
  refine kr_icmp_ge 64 86 C d_AR_init_64 (by decide) (fun q => absurd q (by decide)) (fun _ => ?_)
  refine kr_aload_n 67 C d_AR_init_67 rfl ?_
  refine kr_get (ref := "AreaRouters") (fs := [.ref (b + 1), .ref (b + 2), .ref (b + 3), .ref (b + 6), .null, .null, .null]) (j := 3) (k := 0) (v := .ref (b + 6)) 68 C d_AR_init_68 (by decide) h0 rfl in_AR (by decide) (lt_1 (i := 136) (by set_option maxRecDepth 100000 in exact rfl)) rfl rfl ?_
  refine kr_iload_n 71 C d_AR_init_71 rfl ?_
  refine kr_newo 72 [.null, .null] C d_AR_init_72 (lt_1 (i := 37) (by set_option maxRecDepth 100000 in exact rfl)) (lt_1 (i := 39) (by set_option maxRecDepth 100000 in exact rfl)) (lt_1 (i := 3) (by set_option maxRecDepth 100000 in exact rfl)) (ci := 2) rfl in_He tt_He (by decide) (by decide) (by decide) (by decide) ?_
  obtain ⟨E1, hE1⟩ : ∃ F, F = va_up Eb (7) (.inr (2, [.null, .null])) := ⟨_, rfl⟩
  refine kr_E hE1 ?_
  refine kr_dup 75 C d_AR_init_75 rfl ?_
  refine kr_initN (host := "AreaRouters") 76 C d_AR_init_76 (c_He_init (xz_l X) (k0 := 7) (by omega) (by rw [hE1]; exact va_up_self _ _ _)) sz_He_init ti_He_init rfl (lt_1 (i := 40) (by set_option maxRecDepth 100000 in exact rfl)) ⟨rfl, rfl⟩ (by decide) ⟨by decide, by decide⟩ (by decide) (Nat.le_of_ble_eq_true rfl) ?_
  obtain ⟨E2, hE2⟩ : ∃ F, F = eb_He cA b (7 + 1) (7) E1 := ⟨_, rfl⟩
  refine kr_E hE2 ?_
  have h0 : E2 0 = .inr (0, [.ref (b + 1), .ref (b + 2), .ref (b + 3), .ref (b + 6), .null, .null, .null]) := by rw [hE2, eb_He_lo (by decide) (by decide) (by decide), hE1, va_up_ne _ _ (by decide)]; exact h0
  have h6 : E2 6 = .inl (cA 2, 2, .inr (.inr (.inr (.inr (fun _ => none))))) := by rw [hE2, eb_He_lo (by decide) (by decide) (by decide), hE1, va_up_ne _ _ (by decide)]; exact h6
  have hob : E2 7 = .inr (2, [.ref (b + (7 + 1)), .ref (b + (7 + 1 + 1))]) := by rw [hE2]; exact eb_He_ob (by decide)
  refine kr_aast (k := 6) (len := 2) (j := 0) (v := 7) (q := 2) (Cn := "AreaRouters$Hearing") 79 C d_AR_init_79 (by decide) h6 rfl (by decide) hob rfl (by decide) ?_
  obtain ⟨Ec0, hEc0⟩ : ∃ F, F = va_up E2 6 (.inl (cA 2, 2, .inr (.inr (.inr (.inr (va_up (fun _ => none) 0 (some (b + 7)))))))) := ⟨_, rfl⟩
  refine kr_E hEc0 ?_
  have h0 : Ec0 0 = .inr (0, [.ref (b + 1), .ref (b + 2), .ref (b + 3), .ref (b + 6), .null, .null, .null]) := by rw [hEc0, va_up_ne _ _ (by decide)]; exact h0
  have h6 : Ec0 6 = .inl (cA 2, 2, .inr (.inr (.inr (.inr (va_up (fun _ => none) 0 (some (b + 7))))))) := by rw [hEc0]; exact va_up_self _ _ _
  have hT : ∀ k, 0 < k → k < 10 → k ≠ 6 → k ≠ 13 → Ec0 k = tc_C D cA b k := fun k a1 a2 a3 a4 => by
    rw [hEc0, va_up_ne _ _ a3, hE2]
    by_cases hlt : k < 7
    · rw [eb_He_lo (by decide) (by omega) (by omega), hE1, va_up_ne _ _ (by omega)]; exact hT k a1 hlt a3 a4
    · rcases (show k = 7 ∨ k = 8 ∨ k = 9 by omega) with rfl | rfl | rfl
      · exact (eb_He_ob (by decide)).trans rfl
      · exact (eb_He_0 (by decide)).trans rfl
      · exact (eb_He_1 (by decide)).trans rfl
  clear hE1 hE2 hob
  refine kr_iinc 80 (v := 1) [(0, .ref (b + 0)), (1, .int 1)] C d_AR_init_80 rfl (by decide) rfl (by decide) rfl ?_
  refine kr_goto 83 62 C d_AR_init_83 (by decide) ?_
  refine kr_iload_n 62 C d_AR_init_62 rfl ?_
  refine kr_iconst 63 2 C d_AR_init_63 (by decide) ?_
  refine kr_icmp_ge 64 86 C d_AR_init_64 (by decide) (fun q => absurd q (by decide)) (fun _ => ?_)
  refine kr_aload_n 67 C d_AR_init_67 rfl ?_
  refine kr_get (ref := "AreaRouters") (fs := [.ref (b + 1), .ref (b + 2), .ref (b + 3), .ref (b + 6), .null, .null, .null]) (j := 3) (k := 0) (v := .ref (b + 6)) 68 C d_AR_init_68 (by decide) h0 rfl in_AR (by decide) (lt_1 (i := 136) (by set_option maxRecDepth 100000 in exact rfl)) rfl rfl ?_
  refine kr_iload_n 71 C d_AR_init_71 rfl ?_
  refine kr_newo 72 [.null, .null] C d_AR_init_72 (lt_1 (i := 37) (by set_option maxRecDepth 100000 in exact rfl)) (lt_1 (i := 39) (by set_option maxRecDepth 100000 in exact rfl)) (lt_1 (i := 3) (by set_option maxRecDepth 100000 in exact rfl)) (ci := 2) rfl in_He tt_He (by decide) (by decide) (by decide) (by decide) ?_
  obtain ⟨E1, hE1⟩ : ∃ F, F = va_up Ec0 (10) (.inr (2, [.null, .null])) := ⟨_, rfl⟩
  refine kr_E hE1 ?_
  refine kr_dup 75 C d_AR_init_75 rfl ?_
  refine kr_initN (host := "AreaRouters") 76 C d_AR_init_76 (c_He_init (xz_l X) (k0 := 10) (by omega) (by rw [hE1]; exact va_up_self _ _ _)) sz_He_init ti_He_init rfl (lt_1 (i := 40) (by set_option maxRecDepth 100000 in exact rfl)) ⟨rfl, rfl⟩ (by decide) ⟨by decide, by decide⟩ (by decide) (Nat.le_of_ble_eq_true rfl) ?_
  obtain ⟨E2, hE2⟩ : ∃ F, F = eb_He cA b (10 + 1) (10) E1 := ⟨_, rfl⟩
  refine kr_E hE2 ?_
  have h0 : E2 0 = .inr (0, [.ref (b + 1), .ref (b + 2), .ref (b + 3), .ref (b + 6), .null, .null, .null]) := by rw [hE2, eb_He_lo (by decide) (by decide) (by decide), hE1, va_up_ne _ _ (by decide)]; exact h0
  have h6 : E2 6 = .inl (cA 2, 2, .inr (.inr (.inr (.inr (va_up (fun _ => none) 0 (some (b + 7))))))) := by rw [hE2, eb_He_lo (by decide) (by decide) (by decide), hE1, va_up_ne _ _ (by decide)]; exact h6
  have hob : E2 10 = .inr (2, [.ref (b + (10 + 1)), .ref (b + (10 + 1 + 1))]) := by rw [hE2]; exact eb_He_ob (by decide)
  refine kr_aast (k := 6) (len := 2) (j := 1) (v := 10) (q := 2) (Cn := "AreaRouters$Hearing") 79 C d_AR_init_79 (by decide) h6 rfl (by decide) hob rfl (by decide) ?_
  obtain ⟨Ec1, hEc1⟩ : ∃ F, F = va_up E2 6 (.inl (cA 2, 2, .inr (.inr (.inr (.inr (va_up (va_up (fun _ => none) 0 (some (b + 7))) 1 (some (b + 10)))))))) := ⟨_, rfl⟩
  refine kr_E hEc1 ?_
  have h0 : Ec1 0 = .inr (0, [.ref (b + 1), .ref (b + 2), .ref (b + 3), .ref (b + 6), .null, .null, .null]) := by rw [hEc1, va_up_ne _ _ (by decide)]; exact h0
  have h6 : Ec1 6 = .inl (cA 2, 2, .inr (.inr (.inr (.inr (va_up (va_up (fun _ => none) 0 (some (b + 7))) 1 (some (b + 10))))))) := by rw [hEc1]; exact va_up_self _ _ _
  have hT : ∀ k, 0 < k → k < 13 → k ≠ 6 → k ≠ 13 → Ec1 k = tc_C D cA b k := fun k a1 a2 a3 a4 => by
    rw [hEc1, va_up_ne _ _ a3, hE2]
    by_cases hlt : k < 10
    · rw [eb_He_lo (by decide) (by omega) (by omega), hE1, va_up_ne _ _ (by omega)]; exact hT k a1 hlt a3 a4
    · rcases (show k = 10 ∨ k = 11 ∨ k = 12 by omega) with rfl | rfl | rfl
      · exact (eb_He_ob (by decide)).trans rfl
      · exact (eb_He_0 (by decide)).trans rfl
      · exact (eb_He_1 (by decide)).trans rfl
  clear hE1 hE2 hob
  refine kr_iinc 80 (v := 2) [(0, .ref (b + 0)), (1, .int 2)] C d_AR_init_80 rfl (by decide) rfl (by decide) rfl ?_
  refine kr_goto 83 62 C d_AR_init_83 (by decide) ?_
  refine kr_iload_n 62 C d_AR_init_62 rfl ?_
  refine kr_iconst 63 2 C d_AR_init_63 (by decide) ?_
  refine kr_icmp_ge 64 86 C d_AR_init_64 (by decide) (fun _ => ?_) (fun q => absurd (by decide) q)
  exact kr_norm (n' := 13) (kc' := 12) (ks' := 956) (E' := Ec1) rfl rfl rfl (fun _ _ => rfl) (kk Ec1 h0 hT _ h6 rfl rfl)
