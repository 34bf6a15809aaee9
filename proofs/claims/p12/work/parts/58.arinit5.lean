/-! the constructor of the class: draft, ways, its contract -/
theorem kz_arr {cA : ClassId} {n : Nat} {f g : Nat → Option Nat} (h : ∀ j, j < n → f j = g j) : vp_cell cA (n, .inr (.inr (.inr (.inr f)))) = vp_cell cA (n, .inr (.inr (.inr (.inr g)))) := by
  rw [vp_cell_q, vp_cell_q]
  unfold arrV
  congr 1
  apply Array.ext
  · simp
  · intro i h1 h2
    simp only [Array.size_ofFn] at h1
    simp [h i h1]
theorem kr_at {X : jz_X} {nL : Nat} {D : va_G} {b : Nat} {Q : State → Prop} {n : Nat} {E E' : Nat → va_E} {kc ks : Nat} {lv : List (Nat × Value)} {pc : Nat} {st : List Value} (hE : ∀ k, k < n → ∀ H : Heap, va_at D kz_cl (b + k, E k) H → va_at D kz_cl (b + k, E' k) H) (k : kz_J X nL D b Q n E' kc ks lv pc st) : kz_J X nL D b Q n E kc ks lv pc st := by
  intro H locs ls hP hS hl
  refine k H locs ls (fun q x hx => ?_) hS hl
  obtain ⟨h1, rfl⟩ := kz_of hx
  exact hE q h1 H (hP q _ (kz_at h1))
set_option maxHeartbeats 4000000 in
set_option maxRecDepth 100000 in
theorem ar_6 {X : jz_X} {D : va_G} {cA : Nat → ClassId} {b : Nat} {Q : State → Prop} (C : kz_C X 2 b_AR_init R_AR rm_AR_init D cA b 1) {E : Nat → va_E} (h0 : E 0 = .inr (0, [.ref (b + 1), .ref (b + 2), .ref (b + 3), .ref (b + 6), .ref (b + 13), .null, .null])) (hT : ∀ k, 0 < k → k < 146 → k ≠ 6 → k ≠ 13 → E k = tc_C D cA b k) (f6 : Nat → Option Nat) (h6 : E 6 = .inl (cA 2, 2, .inr (.inr (.inr (.inr f6))))) (f13 : Nat → Option Nat) (h13 : E 13 = .inl (cA 3, 12, .inr (.inr (.inr (.inr f13))))) (kk : ∀ E2 : Nat → va_E, E2 0 = .inr (0, [.ref (b + 1), .ref (b + 2), .ref (b + 3), .ref (b + 6), .ref (b + 13), .ref (b + 146), .null]) → (∀ k, 0 < k → k < 148 → k ≠ 6 → k ≠ 13 → E2 k = tc_C D cA b k) → E2 6 = .inl (cA 2, 2, .inr (.inr (.inr (.inr f6)))) → E2 13 = .inl (cA 3, 12, .inr (.inr (.inr (.inr f13)))) → kz_J X 2 D b Q 148 E2 147 10678 [(0, .ref (b + 0)), (1, .int 12)] 133 []) : kz_J X 2 D b Q 146 E 145 10664 [(0, .ref (b + 0)), (1, .int 12)] 122 [] := by
  refine kr_aload_n 122 C d_AR_init_122 rfl ?_
  refine kr_newo 123 [.null, .int 0, .int 0, .int 0] C d_AR_init_123 (lt_1 (i := 93) (by set_option maxRecDepth 100000 in exact rfl)) (lt_1 (i := 94) (by set_option maxRecDepth 100000 in exact rfl)) (lt_1 (i := 5) (by set_option maxRecDepth 100000 in exact rfl)) (ci := 3) rfl in_Dr tt_Dr (by decide) (by decide) (by decide) (by decide) ?_
  obtain ⟨E1, hE1⟩ : ∃ F, F = va_up E (146) (.inr (3, [.null, .int 0, .int 0, .int 0])) := ⟨_, rfl⟩
  refine kr_E hE1 ?_
  refine kr_dup 126 C d_AR_init_126 rfl ?_
  refine kr_initN (host := "AreaRouters") 127 C d_AR_init_127 (c_Dr_init (xz_l X) (k0 := 146) (by omega) (by rw [hE1]; exact va_up_self _ _ _)) sz_Dr_init ti_Dr_init rfl (lt_1 (i := 95) (by set_option maxRecDepth 100000 in exact rfl)) ⟨rfl, rfl⟩ (by decide) ⟨by decide, by decide⟩ (by decide) (Nat.le_of_ble_eq_true rfl) ?_
  obtain ⟨E2, hE2⟩ : ∃ F, F = eb_Dr cA b (146 + 1) (146) E1 := ⟨_, rfl⟩
  refine kr_E hE2 ?_
  have h0 : E2 0 = .inr (0, [.ref (b + 1), .ref (b + 2), .ref (b + 3), .ref (b + 6), .ref (b + 13), .null, .null]) := by rw [hE2, eb_Dr_lo (by decide) (by decide) (by decide), hE1, va_up_ne _ _ (by decide)]; exact h0
  have h6 : E2 6 = .inl (cA 2, 2, .inr (.inr (.inr (.inr f6)))) := by rw [hE2, eb_Dr_lo (by decide) (by decide) (by decide), hE1, va_up_ne _ _ (by decide)]; exact h6
  have h13 : E2 13 = .inl (cA 3, 12, .inr (.inr (.inr (.inr f13)))) := by rw [hE2, eb_Dr_lo (by decide) (by decide) (by decide), hE1, va_up_ne _ _ (by decide)]; exact h13
  refine kr_putF (ref := "AreaRouters") (ty := .object "AreaRouters$Draft") (fs := [.ref (b + 1), .ref (b + 2), .ref (b + 3), .ref (b + 6), .ref (b + 13), .null, .null]) (j := 5) (k := 0) 130 C d_AR_init_130 (by omega) h0 rfl in_AR tt_AR tn_AR (by decide) (lt_1 (i := 138) (by set_option maxRecDepth 100000 in exact rfl)) rfl rfl rfl (by decide +kernel) rfl rfl (Nat.le_of_ble_eq_true rfl) ?_
  obtain ⟨E3, hE3⟩ : ∃ F, F = va_up E2 0 (.inr (0, [.ref (b + 1), .ref (b + 2), .ref (b + 3), .ref (b + 6), .ref (b + 13), .ref (b + 146), .null])) := ⟨_, rfl⟩
  refine kr_E hE3 ?_
  refine kr_norm (n' := 148) (kc' := 147) (ks' := 10678) (E' := E3) rfl rfl rfl (fun _ _ => rfl) (kk E3 (by rw [hE3]; exact va_up_self _ _ _) (fun k hk1 hk2 hk3 hk4 => ?_) (by rw [hE3, va_up_ne _ _ (by decide)]; exact h6) (by rw [hE3, va_up_ne _ _ (by decide)]; exact h13))
  rw [hE3, va_up_ne _ _ (by omega), hE2]
  by_cases hlt : k < 146
  · rw [eb_Dr_lo (by decide) (by omega) (by omega), hE1, va_up_ne _ _ (by omega)]; exact hT k hk1 hlt hk3 hk4
  · rcases (show k = 146 ∨ k = 147 by omega) with rfl | rfl
    · exact (eb_Dr_ob (by decide)).trans rfl
    · exact (eb_Dr_0 (by decide)).trans rfl
set_option maxHeartbeats 4000000 in
set_option maxRecDepth 100000 in
theorem ar_7 {X : jz_X} {D : va_G} {cA : Nat → ClassId} {b : Nat} {Q : State → Prop} (C : kz_C X 2 b_AR_init R_AR rm_AR_init D cA b 1) {E : Nat → va_E} (h0 : E 0 = .inr (0, [.ref (b + 1), .ref (b + 2), .ref (b + 3), .ref (b + 6), .ref (b + 13), .ref (b + 146), .null])) (hT : ∀ k, 0 < k → k < 148 → k ≠ 6 → k ≠ 13 → E k = tc_C D cA b k) (f6 : Nat → Option Nat) (h6 : E 6 = .inl (cA 2, 2, .inr (.inr (.inr (.inr f6))))) (f13 : Nat → Option Nat) (h13 : E 13 = .inl (cA 3, 12, .inr (.inr (.inr (.inr f13))))) (kk : ∀ E2 : Nat → va_E, E2 0 = .inr (0, [.ref (b + 1), .ref (b + 2), .ref (b + 3), .ref (b + 6), .ref (b + 13), .ref (b + 146), .ref (b + 148)]) → (∀ k, 0 < k → k < 152 → k ≠ 6 → k ≠ 13 → E2 k = tc_C D cA b k) → E2 6 = .inl (cA 2, 2, .inr (.inr (.inr (.inr f6)))) → E2 13 = .inl (cA 3, 12, .inr (.inr (.inr (.inr f13)))) → kz_J X 2 D b Q 152 E2 151 10807 [(0, .ref (b + 0)), (1, .int 12)] 144 []) : kz_J X 2 D b Q 148 E 147 10678 [(0, .ref (b + 0)), (1, .int 12)] 133 [] := by
  refine kr_aload_n 133 C d_AR_init_133 rfl ?_
  refine kr_newo 134 [.null, .null, .null] C d_AR_init_134 (lt_1 (i := 117) (by set_option maxRecDepth 100000 in exact rfl)) (lt_1 (i := 118) (by set_option maxRecDepth 100000 in exact rfl)) (lt_1 (i := 6) (by set_option maxRecDepth 100000 in exact rfl)) (ci := 5) rfl in_Wa tt_Wa (by decide) (by decide) (by decide) (by decide) ?_
  obtain ⟨E1, hE1⟩ : ∃ F, F = va_up E (148) (.inr (5, [.null, .null, .null])) := ⟨_, rfl⟩
  refine kr_E hE1 ?_
  refine kr_dup 137 C d_AR_init_137 rfl ?_
  refine kr_initN (host := "AreaRouters") 138 C d_AR_init_138 (c_Wa_init (xz_l X) (k0 := 148) (by omega) (by rw [hE1]; exact va_up_self _ _ _)) sz_Wa_init ti_Wa_init rfl (lt_1 (i := 119) (by set_option maxRecDepth 100000 in exact rfl)) ⟨rfl, rfl⟩ (by decide) ⟨by decide, by decide⟩ (by decide) (Nat.le_of_ble_eq_true rfl) ?_
  obtain ⟨E2, hE2⟩ : ∃ F, F = eb_Wa cA b (148 + 1) (148) E1 := ⟨_, rfl⟩
  refine kr_E hE2 ?_
  have h0 : E2 0 = .inr (0, [.ref (b + 1), .ref (b + 2), .ref (b + 3), .ref (b + 6), .ref (b + 13), .ref (b + 146), .null]) := by rw [hE2, eb_Wa_lo (by decide) (by decide) (by decide), hE1, va_up_ne _ _ (by decide)]; exact h0
  have h6 : E2 6 = .inl (cA 2, 2, .inr (.inr (.inr (.inr f6)))) := by rw [hE2, eb_Wa_lo (by decide) (by decide) (by decide), hE1, va_up_ne _ _ (by decide)]; exact h6
  have h13 : E2 13 = .inl (cA 3, 12, .inr (.inr (.inr (.inr f13)))) := by rw [hE2, eb_Wa_lo (by decide) (by decide) (by decide), hE1, va_up_ne _ _ (by decide)]; exact h13
  refine kr_putF (ref := "AreaRouters") (ty := .object "AreaRouters$Ways") (fs := [.ref (b + 1), .ref (b + 2), .ref (b + 3), .ref (b + 6), .ref (b + 13), .ref (b + 146), .null]) (j := 6) (k := 0) 141 C d_AR_init_141 (by omega) h0 rfl in_AR tt_AR tn_AR (by decide) (lt_1 (i := 139) (by set_option maxRecDepth 100000 in exact rfl)) rfl rfl rfl (by decide +kernel) rfl rfl (Nat.le_of_ble_eq_true rfl) ?_
  obtain ⟨E3, hE3⟩ : ∃ F, F = va_up E2 0 (.inr (0, [.ref (b + 1), .ref (b + 2), .ref (b + 3), .ref (b + 6), .ref (b + 13), .ref (b + 146), .ref (b + 148)])) := ⟨_, rfl⟩
  refine kr_E hE3 ?_
  refine kr_norm (n' := 152) (kc' := 151) (ks' := 10807) (E' := E3) rfl rfl rfl (fun _ _ => rfl) (kk E3 (by rw [hE3]; exact va_up_self _ _ _) (fun k hk1 hk2 hk3 hk4 => ?_) (by rw [hE3, va_up_ne _ _ (by decide)]; exact h6) (by rw [hE3, va_up_ne _ _ (by decide)]; exact h13))
  rw [hE3, va_up_ne _ _ (by omega), hE2]
  by_cases hlt : k < 148
  · rw [eb_Wa_lo (by decide) (by omega) (by omega), hE1, va_up_ne _ _ (by omega)]; exact hT k hk1 hlt hk3 hk4
  · rcases (show k = 148 ∨ k = 149 ∨ k = 150 ∨ k = 151 by omega) with rfl | rfl | rfl | rfl
    · exact (eb_Wa_ob (by decide)).trans rfl
    · exact (eb_Wa_0 (by decide)).trans rfl
    · exact (eb_Wa_1 (by decide)).trans rfl
    · exact (eb_Wa_2 (by decide)).trans rfl
set_option maxHeartbeats 4000000 in
set_option maxRecDepth 100000 in
theorem c_AR_init (l : Launch) {D : va_G} {cA : Nat → ClassId} {b : Nat} {E : Nat → va_E} (hE0 : E 0 = .inr (0, [.null, .null, .null, .null, .null, .null, .null])) : kz_m l y_AR_init cd_AR_init rm_AR_init D cA b [.ref (b + 0)] 1 E 152 (tc_C D cA b) 151 10807 := by
  refine kz_met (own := R_AR) (by decide) rfl rfl (Nat.le_of_ble_eq_true rfl) (fun X hX C => ?_)
  subst hX
  show kz_J X 2 D b _ 1 E 0 0 [(0, .ref (b + 0))] 0 []
  refine ar_1 C hE0 (fun E1 h0 hT => ?_)
  refine ar_2 C h0 hT (fun E2 h0 hT => ?_)
  refine ar_3 C h0 (fun k a1 a2 _ _ => hT k a1 a2) (fun E3 h0 hT f6 h6 g0 g1 => ?_)
  refine ar_4 C h0 hT f6 h6 (fun E4 h0 hT h6 h13 => ?_)
  refine ar_5 C f6 (fun E5 f13 h0 hT h6 h13 hf => ?_) 12 0 0 rfl rfl E4 _ h0 hT h6 h13 (fun j hj => absurd hj (Nat.not_lt_zero j))
  refine ar_6 C h0 hT f6 h6 f13 h13 (fun E6 h0 hT h6 h13 => ?_)
  refine ar_7 C h0 hT f6 h6 f13 h13 (fun E7 h0 hT h6 h13 => ?_)
  refine kr_at (E' := tc_C D cA b) (fun k hk H hv => ?_) (kr_vret 144 C d_AR_init_144 rfl)
  by_cases k0 : k = 0
  · subst k0; rw [h0] at hv; exact hv
  by_cases k6 : k = 6
  · subst k6; rw [h6] at hv; exact hv.trans (congrArg some (kz_arr (fun j hj => by rcases (show j = 0 ∨ j = 1 by omega) with rfl | rfl; exact g0; exact g1)))
  by_cases k13 : k = 13
  · subst k13; rw [h13] at hv; exact hv.trans (congrArg some (kz_arr (fun j hj => hf j hj)))
  rw [hT k (by omega) hk k6 k13] at hv; exact hv
