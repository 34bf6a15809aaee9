/-! what the constructors leave, cell by cell -/
theorem eb_Wi_lo {cA : Nat → ClassId} {b n k0 : Nat} {E : Nat → va_E} (hk : k0 < n) {k : Nat} (h : k < n) (hne : k ≠ k0) : eb_Wi cA b n k0 E k = E k := by
  unfold eb_Wi
  repeat rw [va_up_ne _ _ (by omega)]
theorem eb_Wi_ob {cA : Nat → ClassId} {b n k0 : Nat} {E : Nat → va_E} (hk : k0 < n) : eb_Wi cA b n k0 E k0 = .inr (1, [.ref (b + n), .ref (b + (n + 1))]) := by
  unfold eb_Wi
  exact va_up_self _ _ _
theorem eb_Wi_0 {cA : Nat → ClassId} {b n k0 : Nat} {E : Nat → va_E} (hk : k0 < n) : eb_Wi cA b n k0 E n = .inl (cA 0, 36, .inl (fun _ => 0)) := by
  unfold eb_Wi
  repeat first | exact va_up_self _ _ _ | rw [va_up_ne _ _ (by omega)]
theorem eb_Wi_1 {cA : Nat → ClassId} {b n k0 : Nat} {E : Nat → va_E} (hk : k0 < n) : eb_Wi cA b n k0 E (n + 1) = .inl (cA 0, 36, .inl (fun _ => 0)) := by
  unfold eb_Wi
  repeat first | exact va_up_self _ _ _ | rw [va_up_ne _ _ (by omega)]
theorem eb_He_lo {cA : Nat → ClassId} {b n k0 : Nat} {E : Nat → va_E} (hk : k0 < n) {k : Nat} (h : k < n) (hne : k ≠ k0) : eb_He cA b n k0 E k = E k := by
  unfold eb_He
  repeat rw [va_up_ne _ _ (by omega)]
theorem eb_He_ob {cA : Nat → ClassId} {b n k0 : Nat} {E : Nat → va_E} (hk : k0 < n) : eb_He cA b n k0 E k0 = .inr (2, [.ref (b + n), .ref (b + (n + 1))]) := by
  unfold eb_He
  exact va_up_self _ _ _
theorem eb_He_0 {cA : Nat → ClassId} {b n k0 : Nat} {E : Nat → va_E} (hk : k0 < n) : eb_He cA b n k0 E n = .inl (cA 0, 216, .inl (fun _ => 0)) := by
  unfold eb_He
  repeat first | exact va_up_self _ _ _ | rw [va_up_ne _ _ (by omega)]
theorem eb_He_1 {cA : Nat → ClassId} {b n k0 : Nat} {E : Nat → va_E} (hk : k0 < n) : eb_He cA b n k0 E (n + 1) = .inl (cA 1, 216, .inl (fun _ => 0)) := by
  unfold eb_He
  repeat first | exact va_up_self _ _ _ | rw [va_up_ne _ _ (by omega)]
theorem eb_Dr_lo {cA : Nat → ClassId} {b n k0 : Nat} {E : Nat → va_E} (hk : k0 < n) {k : Nat} (h : k < n) (hne : k ≠ k0) : eb_Dr cA b n k0 E k = E k := by
  unfold eb_Dr
  repeat rw [va_up_ne _ _ (by omega)]
theorem eb_Dr_ob {cA : Nat → ClassId} {b n k0 : Nat} {E : Nat → va_E} (hk : k0 < n) : eb_Dr cA b n k0 E k0 = .inr (3, [.ref (b + n), .int 0, .int 0, .int 0]) := by
  unfold eb_Dr
  exact va_up_self _ _ _
theorem eb_Dr_0 {cA : Nat → ClassId} {b n k0 : Nat} {E : Nat → va_E} (hk : k0 < n) : eb_Dr cA b n k0 E n = .inl (cA 0, 10, .inl (fun _ => 0)) := by
  unfold eb_Dr
  repeat first | exact va_up_self _ _ _ | rw [va_up_ne _ _ (by omega)]
theorem eb_Ba_lo {cA : Nat → ClassId} {b n k0 : Nat} {E : Nat → va_E} (hk : k0 < n) {k : Nat} (h : k < n) (hne : k ≠ k0) : eb_Ba cA b n k0 E k = E k := by
  unfold eb_Ba
  repeat rw [va_up_ne _ _ (by omega)]
theorem eb_Ba_ob {cA : Nat → ClassId} {b n k0 : Nat} {E : Nat → va_E} (hk : k0 < n) : eb_Ba cA b n k0 E k0 = .inr (4, [.ref (b + n), .ref (b + (n + 1)), .ref (b + (n + 2)), .ref (b + (n + 3)), .ref (b + (n + 4)), .ref (b + (n + 5)), .ref (b + (n + 6)), .ref (b + (n + 7)), .ref (b + (n + 8)), .ref (b + (n + 9))]) := by
  unfold eb_Ba
  exact va_up_self _ _ _
theorem eb_Ba_0 {cA : Nat → ClassId} {b n k0 : Nat} {E : Nat → va_E} (hk : k0 < n) : eb_Ba cA b n k0 E n = .inl (cA 0, 42, .inl (fun _ => 0)) := by
  unfold eb_Ba
  repeat first | exact va_up_self _ _ _ | rw [va_up_ne _ _ (by omega)]
theorem eb_Ba_1 {cA : Nat → ClassId} {b n k0 : Nat} {E : Nat → va_E} (hk : k0 < n) : eb_Ba cA b n k0 E (n + 1) = .inl (cA 0, 42, .inl (fun _ => 0)) := by
  unfold eb_Ba
  repeat first | exact va_up_self _ _ _ | rw [va_up_ne _ _ (by omega)]
theorem eb_Ba_2 {cA : Nat → ClassId} {b n k0 : Nat} {E : Nat → va_E} (hk : k0 < n) : eb_Ba cA b n k0 E (n + 2) = .inl (cA 0, 42, .inl (fun _ => 0)) := by
  unfold eb_Ba
  repeat first | exact va_up_self _ _ _ | rw [va_up_ne _ _ (by omega)]
theorem eb_Ba_3 {cA : Nat → ClassId} {b n k0 : Nat} {E : Nat → va_E} (hk : k0 < n) : eb_Ba cA b n k0 E (n + 3) = .inl (cA 0, 42, .inl (fun _ => 0)) := by
  unfold eb_Ba
  repeat first | exact va_up_self _ _ _ | rw [va_up_ne _ _ (by omega)]
theorem eb_Ba_4 {cA : Nat → ClassId} {b n k0 : Nat} {E : Nat → va_E} (hk : k0 < n) : eb_Ba cA b n k0 E (n + 4) = .inl (cA 1, 42, .inl (fun _ => 0)) := by
  unfold eb_Ba
  repeat first | exact va_up_self _ _ _ | rw [va_up_ne _ _ (by omega)]
theorem eb_Ba_5 {cA : Nat → ClassId} {b n k0 : Nat} {E : Nat → va_E} (hk : k0 < n) : eb_Ba cA b n k0 E (n + 5) = .inl (cA 0, 42, .inl (fun _ => 0)) := by
  unfold eb_Ba
  repeat first | exact va_up_self _ _ _ | rw [va_up_ne _ _ (by omega)]
theorem eb_Ba_6 {cA : Nat → ClassId} {b n k0 : Nat} {E : Nat → va_E} (hk : k0 < n) : eb_Ba cA b n k0 E (n + 6) = .inl (cA 0, 42, .inl (fun _ => 0)) := by
  unfold eb_Ba
  repeat first | exact va_up_self _ _ _ | rw [va_up_ne _ _ (by omega)]
theorem eb_Ba_7 {cA : Nat → ClassId} {b n k0 : Nat} {E : Nat → va_E} (hk : k0 < n) : eb_Ba cA b n k0 E (n + 7) = .inl (cA 0, 420, .inl (fun _ => 0)) := by
  unfold eb_Ba
  repeat first | exact va_up_self _ _ _ | rw [va_up_ne _ _ (by omega)]
theorem eb_Ba_8 {cA : Nat → ClassId} {b n k0 : Nat} {E : Nat → va_E} (hk : k0 < n) : eb_Ba cA b n k0 E (n + 8) = .inl (cA 0, 42, .inl (fun _ => 0)) := by
  unfold eb_Ba
  repeat first | exact va_up_self _ _ _ | rw [va_up_ne _ _ (by omega)]
theorem eb_Ba_9 {cA : Nat → ClassId} {b n k0 : Nat} {E : Nat → va_E} (hk : k0 < n) : eb_Ba cA b n k0 E (n + 9) = .inl (cA 0, 42, .inl (fun _ => 0)) := by
  unfold eb_Ba
  repeat first | exact va_up_self _ _ _ | rw [va_up_ne _ _ (by omega)]
theorem eb_Wa_lo {cA : Nat → ClassId} {b n k0 : Nat} {E : Nat → va_E} (hk : k0 < n) {k : Nat} (h : k < n) (hne : k ≠ k0) : eb_Wa cA b n k0 E k = E k := by
  unfold eb_Wa
  repeat rw [va_up_ne _ _ (by omega)]
theorem eb_Wa_ob {cA : Nat → ClassId} {b n k0 : Nat} {E : Nat → va_E} (hk : k0 < n) : eb_Wa cA b n k0 E k0 = .inr (5, [.ref (b + n), .ref (b + (n + 1)), .ref (b + (n + 2))]) := by
  unfold eb_Wa
  exact va_up_self _ _ _
theorem eb_Wa_0 {cA : Nat → ClassId} {b n k0 : Nat} {E : Nat → va_E} (hk : k0 < n) : eb_Wa cA b n k0 E n = .inl (cA 0, 42, .inl (fun _ => 0)) := by
  unfold eb_Wa
  repeat first | exact va_up_self _ _ _ | rw [va_up_ne _ _ (by omega)]
theorem eb_Wa_1 {cA : Nat → ClassId} {b n k0 : Nat} {E : Nat → va_E} (hk : k0 < n) : eb_Wa cA b n k0 E (n + 1) = .inl (cA 0, 42, .inl (fun _ => 0)) := by
  unfold eb_Wa
  repeat first | exact va_up_self _ _ _ | rw [va_up_ne _ _ (by omega)]
theorem eb_Wa_2 {cA : Nat → ClassId} {b n k0 : Nat} {E : Nat → va_E} (hk : k0 < n) : eb_Wa cA b n k0 E (n + 2) = .inl (cA 1, 42, .inl (fun _ => 0)) := by
  unfold eb_Wa
  repeat first | exact va_up_self _ _ _ | rw [va_up_ne _ _ (by omega)]
theorem eb_Mo_lo {cA : Nat → ClassId} {b n k0 : Nat} {E : Nat → va_E} (hk : k0 < n) {k : Nat} (h : k < n) (hne : k ≠ k0) : eb_Mo cA b n k0 E k = E k := by
  unfold eb_Mo
  repeat rw [va_up_ne _ _ (by omega)]
theorem eb_Mo_ob {cA : Nat → ClassId} {b n k0 : Nat} {E : Nat → va_E} (hk : k0 < n) : eb_Mo cA b n k0 E k0 = .inr (6, [.int 0, .ref (b + n), .ref (b + (n + 1)), .ref (b + (n + 2)), .ref (b + (n + 3)), .ref (b + (n + 4)), .ref (b + (n + 5)), .ref (b + (n + 6)), .ref (b + (n + 7)), .ref (b + (n + 8)), .ref (b + (n + 9)), .ref (b + (n + 10)), .ref (b + (n + 11)), .ref (b + (n + 12)), .ref (b + (n + 13)), .ref (b + (n + 14)), .ref (b + (n + 15)), .ref (b + (n + 16)), .int 0, .ref (b + (n + 17)), .ref (b + (n + 18)), .ref (b + (n + 19))]) := by
  unfold eb_Mo
  exact va_up_self _ _ _
theorem eb_Mo_0 {cA : Nat → ClassId} {b n k0 : Nat} {E : Nat → va_E} (hk : k0 < n) : eb_Mo cA b n k0 E n = .inl (cA 0, 6, .inl (fun _ => 0)) := by
  unfold eb_Mo
  repeat first | exact va_up_self _ _ _ | rw [va_up_ne _ _ (by omega)]
theorem eb_Mo_1 {cA : Nat → ClassId} {b n k0 : Nat} {E : Nat → va_E} (hk : k0 < n) : eb_Mo cA b n k0 E (n + 1) = .inl (cA 0, 6, .inl (upd (upd (upd (upd (upd (upd (fun _ => 0) 0 1) 1 1) 2 1) 3 1) 4 1) 5 1)) := by
  unfold eb_Mo
  repeat first | exact va_up_self _ _ _ | rw [va_up_ne _ _ (by omega)]
theorem eb_Mo_2 {cA : Nat → ClassId} {b n k0 : Nat} {E : Nat → va_E} (hk : k0 < n) : eb_Mo cA b n k0 E (n + 2) = .inl (cA 1, 6, .inl (fun _ => 0)) := by
  unfold eb_Mo
  repeat first | exact va_up_self _ _ _ | rw [va_up_ne _ _ (by omega)]
theorem eb_Mo_3 {cA : Nat → ClassId} {b n k0 : Nat} {E : Nat → va_E} (hk : k0 < n) : eb_Mo cA b n k0 E (n + 3) = .inl (cA 0, 36, .inl (fun _ => 0)) := by
  unfold eb_Mo
  repeat first | exact va_up_self _ _ _ | rw [va_up_ne _ _ (by omega)]
theorem eb_Mo_4 {cA : Nat → ClassId} {b n k0 : Nat} {E : Nat → va_E} (hk : k0 < n) : eb_Mo cA b n k0 E (n + 4) = .inl (cA 0, 36, .inl (fun _ => 0)) := by
  unfold eb_Mo
  repeat first | exact va_up_self _ _ _ | rw [va_up_ne _ _ (by omega)]
theorem eb_Mo_5 {cA : Nat → ClassId} {b n k0 : Nat} {E : Nat → va_E} (hk : k0 < n) : eb_Mo cA b n k0 E (n + 5) = .inl (cA 0, 432, .inl (fun _ => 0)) := by
  unfold eb_Mo
  repeat first | exact va_up_self _ _ _ | rw [va_up_ne _ _ (by omega)]
theorem eb_Mo_6 {cA : Nat → ClassId} {b n k0 : Nat} {E : Nat → va_E} (hk : k0 < n) : eb_Mo cA b n k0 E (n + 6) = .inl (cA 1, 432, .inl (fun _ => 0)) := by
  unfold eb_Mo
  repeat first | exact va_up_self _ _ _ | rw [va_up_ne _ _ (by omega)]
theorem eb_Mo_7 {cA : Nat → ClassId} {b n k0 : Nat} {E : Nat → va_E} (hk : k0 < n) : eb_Mo cA b n k0 E (n + 7) = .inl (cA 0, 504, .inl (fun _ => 0)) := by
  unfold eb_Mo
  repeat first | exact va_up_self _ _ _ | rw [va_up_ne _ _ (by omega)]
theorem eb_Mo_8 {cA : Nat → ClassId} {b n k0 : Nat} {E : Nat → va_E} (hk : k0 < n) : eb_Mo cA b n k0 E (n + 8) = .inl (cA 0, 504, .inl (fun _ => 0)) := by
  unfold eb_Mo
  repeat first | exact va_up_self _ _ _ | rw [va_up_ne _ _ (by omega)]
theorem eb_Mo_9 {cA : Nat → ClassId} {b n k0 : Nat} {E : Nat → va_E} (hk : k0 < n) : eb_Mo cA b n k0 E (n + 9) = .inl (cA 0, 504, .inl (fun _ => 0)) := by
  unfold eb_Mo
  repeat first | exact va_up_self _ _ _ | rw [va_up_ne _ _ (by omega)]
theorem eb_Mo_10 {cA : Nat → ClassId} {b n k0 : Nat} {E : Nat → va_E} (hk : k0 < n) : eb_Mo cA b n k0 E (n + 10) = .inl (cA 0, 504, .inl (fun _ => 0)) := by
  unfold eb_Mo
  repeat first | exact va_up_self _ _ _ | rw [va_up_ne _ _ (by omega)]
theorem eb_Mo_11 {cA : Nat → ClassId} {b n k0 : Nat} {E : Nat → va_E} (hk : k0 < n) : eb_Mo cA b n k0 E (n + 11) = .inl (cA 1, 504, .inl (fun _ => 0)) := by
  unfold eb_Mo
  repeat first | exact va_up_self _ _ _ | rw [va_up_ne _ _ (by omega)]
theorem eb_Mo_12 {cA : Nat → ClassId} {b n k0 : Nat} {E : Nat → va_E} (hk : k0 < n) : eb_Mo cA b n k0 E (n + 12) = .inl (cA 0, 504, .inl (fun _ => 0)) := by
  unfold eb_Mo
  repeat first | exact va_up_self _ _ _ | rw [va_up_ne _ _ (by omega)]
theorem eb_Mo_13 {cA : Nat → ClassId} {b n k0 : Nat} {E : Nat → va_E} (hk : k0 < n) : eb_Mo cA b n k0 E (n + 13) = .inl (cA 0, 504, .inl (fun _ => 0)) := by
  unfold eb_Mo
  repeat first | exact va_up_self _ _ _ | rw [va_up_ne _ _ (by omega)]
theorem eb_Mo_14 {cA : Nat → ClassId} {b n k0 : Nat} {E : Nat → va_E} (hk : k0 < n) : eb_Mo cA b n k0 E (n + 14) = .inl (cA 0, 5040, .inl (fun _ => 0)) := by
  unfold eb_Mo
  repeat first | exact va_up_self _ _ _ | rw [va_up_ne _ _ (by omega)]
theorem eb_Mo_15 {cA : Nat → ClassId} {b n k0 : Nat} {E : Nat → va_E} (hk : k0 < n) : eb_Mo cA b n k0 E (n + 15) = .inl (cA 0, 504, .inl (fun _ => 0)) := by
  unfold eb_Mo
  repeat first | exact va_up_self _ _ _ | rw [va_up_ne _ _ (by omega)]
theorem eb_Mo_16 {cA : Nat → ClassId} {b n k0 : Nat} {E : Nat → va_E} (hk : k0 < n) : eb_Mo cA b n k0 E (n + 16) = .inl (cA 0, 504, .inl (fun _ => 0)) := by
  unfold eb_Mo
  repeat first | exact va_up_self _ _ _ | rw [va_up_ne _ _ (by omega)]
theorem eb_Mo_17 {cA : Nat → ClassId} {b n k0 : Nat} {E : Nat → va_E} (hk : k0 < n) : eb_Mo cA b n k0 E (n + 17) = .inl (cA 0, 10, .inl (fun _ => 0)) := by
  unfold eb_Mo
  repeat first | exact va_up_self _ _ _ | rw [va_up_ne _ _ (by omega)]
theorem eb_Mo_18 {cA : Nat → ClassId} {b n k0 : Nat} {E : Nat → va_E} (hk : k0 < n) : eb_Mo cA b n k0 E (n + 18) = .inl (cA 0, 42, .inl (fun _ => 0)) := by
  unfold eb_Mo
  repeat first | exact va_up_self _ _ _ | rw [va_up_ne _ _ (by omega)]
theorem eb_Mo_19 {cA : Nat → ClassId} {b n k0 : Nat} {E : Nat → va_E} (hk : k0 < n) : eb_Mo cA b n k0 E (n + 19) = .inl (cA 0, 42, .inl (fun _ => 0)) := by
  unfold eb_Mo
  repeat first | exact va_up_self _ _ _ | rw [va_up_ne _ _ (by omega)]
