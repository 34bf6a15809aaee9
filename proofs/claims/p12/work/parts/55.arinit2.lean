/-! the constructor of the class: wiring, hearings, bases, draft, ways -/
set_option maxHeartbeats 4000000 in
set_option maxRecDepth 100000 in
theorem ar_2 {X : jz_X} {D : va_G} {cA : Nat → ClassId} {b : Nat} {Q : State → Prop} (C : kz_C X 2 b_AR_init R_AR rm_AR_init D cA b 1) {E : Nat → va_E} (h0 : E 0 = .inr (0, [.ref (b + 1), .ref (b + 2), .null, .null, .null, .null, .null])) (hT : ∀ k, 0 < k → k < 3 → E k = tc_C D cA b k) (kk : ∀ E2 : Nat → va_E, E2 0 = .inr (0, [.ref (b + 1), .ref (b + 2), .ref (b + 3), .null, .null, .null, .null]) → (∀ k, 0 < k → k < 6 → E2 k = tc_C D cA b k) → kz_J X 2 D b Q 6 E2 5 86 [(0, .ref (b + 0)), (1, .int 6)] 52 []) : kz_J X 2 D b Q 3 E 2 12 [(0, .ref (b + 0)), (1, .int 6)] 41 [] := by
  refine kr_aload_n 41 C d_AR_init_41 rfl ?_
  refine kr_newo 42 [.null, .null] C d_AR_init_42 (lt_1 (i := 23) (by set_option maxRecDepth 100000 in exact rfl)) (lt_1 (i := 24) (by set_option maxRecDepth 100000 in exact rfl)) (lt_1 (i := 2) (by set_option maxRecDepth 100000 in exact rfl)) (ci := 1) rfl in_Wi tt_Wi (by decide) (by decide) (by decide) (by decide) ?_
  obtain ⟨E1, hE1⟩ : ∃ F, F = va_up E (3) (.inr (1, [.null, .null])) := ⟨_, rfl⟩
  refine kr_E hE1 ?_
  refine kr_dup 45 C d_AR_init_45 rfl ?_
  refine kr_initN (host := "AreaRouters") 46 C d_AR_init_46 (c_Wi_init (xz_l X) (k0 := 3) (by omega) (by rw [hE1]; exact va_up_self _ _ _)) sz_Wi_init ti_Wi_init rfl (lt_1 (i := 25) (by set_option maxRecDepth 100000 in exact rfl)) ⟨rfl, rfl⟩ (by decide) ⟨by decide, by decide⟩ (by decide) (Nat.le_of_ble_eq_true rfl) ?_
  obtain ⟨E2, hE2⟩ : ∃ F, F = eb_Wi cA b (3 + 1) (3) E1 := ⟨_, rfl⟩
  refine kr_E hE2 ?_
  have h0 : E2 0 = .inr (0, [.ref (b + 1), .ref (b + 2), .null, .null, .null, .null, .null]) := by rw [hE2, eb_Wi_lo (by decide) (by decide) (by decide), hE1, va_up_ne _ _ (by decide)]; exact h0
  refine kr_putF (ref := "AreaRouters") (ty := .object "AreaRouters$Wiring") (fs := [.ref (b + 1), .ref (b + 2), .null, .null, .null, .null, .null]) (j := 2) (k := 0) 49 C d_AR_init_49 (by omega) h0 rfl in_AR tt_AR tn_AR (by decide) (lt_1 (i := 135) (by set_option maxRecDepth 100000 in exact rfl)) rfl rfl rfl (by decide +kernel) rfl rfl (Nat.le_of_ble_eq_true rfl) ?_
  obtain ⟨E3, hE3⟩ : ∃ F, F = va_up E2 0 (.inr (0, [.ref (b + 1), .ref (b + 2), .ref (b + 3), .null, .null, .null, .null])) := ⟨_, rfl⟩
  refine kr_E hE3 ?_
  refine kr_norm (n' := 6) (kc' := 5) (ks' := 86) (E' := E3) rfl rfl rfl (fun _ _ => rfl) (kk E3 (by rw [hE3]; exact va_up_self _ _ _) (fun k hk1 hk2 => ?_))
  rw [hE3, va_up_ne _ _ (by omega), hE2]
  by_cases hlt : k < 3
  · rw [eb_Wi_lo (by decide) (by omega) (by omega), hE1, va_up_ne _ _ (by omega)]; exact hT k hk1 hlt
  · rcases (show k = 3 ∨ k = 4 ∨ k = 5 by omega) with rfl | rfl | rfl
    · exact (eb_Wi_ob (by decide)).trans rfl
    · exact (eb_Wi_0 (by decide)).trans rfl
    · exact (eb_Wi_1 (by decide)).trans rfl
