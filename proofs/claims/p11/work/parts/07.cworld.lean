/-! the class: the cells of an object in the order in which its constructor makes them -/
abbrev cz_Z : Type := va_G × (Nat → Nat) × (Nat → ClassId)
def fz_AR (Z : cz_Z) (k : Nat) (f : Nat → Int32) : List Value := [.ref (Z.2.1 1), .ref (Z.2.1 2), .ref (Z.2.1 3), .ref (Z.2.1 6), .ref (Z.2.1 13), .ref (Z.2.1 146), .ref (Z.2.1 148)]
def fz_Wi (Z : cz_Z) (k : Nat) (f : Nat → Int32) : List Value := [.ref (Z.2.1 4), .ref (Z.2.1 5)]
def fz_He (Z : cz_Z) (k : Nat) (f : Nat → Int32) : List Value := [.ref (Z.2.1 (k + 1)), .ref (Z.2.1 (k + 2))]
def fz_Dr (Z : cz_Z) (k : Nat) (f : Nat → Int32) : List Value := [.ref (Z.2.1 147), .int (f 0), .int (f 1), .int (f 2)]
def fz_Ba (Z : cz_Z) (k : Nat) (f : Nat → Int32) : List Value := [.ref (Z.2.1 (k + 1)), .ref (Z.2.1 (k + 2)), .ref (Z.2.1 (k + 3)), .ref (Z.2.1 (k + 4)), .ref (Z.2.1 (k + 5)), .ref (Z.2.1 (k + 6)), .ref (Z.2.1 (k + 7)), .ref (Z.2.1 (k + 8)), .ref (Z.2.1 (k + 9)), .ref (Z.2.1 (k + 10))]
def fz_Wa (Z : cz_Z) (k : Nat) (f : Nat → Int32) : List Value := [.ref (Z.2.1 149), .ref (Z.2.1 150), .ref (Z.2.1 151)]
def ez_C (Z : cz_Z) (k : Nat) (f : Nat → Int32) : va_E :=
  if k < 14 then
    if k = 0 then .inr (0, fz_AR Z k f) else if k = 1 then .inl (Z.2.2 0, 6, .inl f) else if k = 2 then .inl (Z.2.2 0, 6, .inl f) else if k = 3 then .inr (1, fz_Wi Z k f) else if k = 4 then .inl (Z.2.2 0, 36, .inl f) else if k = 5 then .inl (Z.2.2 0, 36, .inl f)
    else if k = 6 then .inl (Z.2.2 2, 2, .inr (.inr (.inr (.inr (fun j => some (Z.2.1 (7 + 3 * j))))))) else if k = 7 then .inr (2, fz_He Z k f) else if k = 8 then .inl (Z.2.2 0, 216, .inl f) else if k = 9 then .inl (Z.2.2 1, 216, .inl f)
    else if k = 10 then .inr (2, fz_He Z k f) else if k = 11 then .inl (Z.2.2 0, 216, .inl f) else if k = 12 then .inl (Z.2.2 1, 216, .inl f) else .inl (Z.2.2 3, 12, .inr (.inr (.inr (.inr (fun j => some (Z.2.1 (14 + 11 * j)))))))
  else if k < 146 then
    if (k - 14) % 11 = 0 then .inr (4, fz_Ba Z k f) else if (k - 14) % 11 = 5 then .inl (Z.2.2 1, 42, .inl f) else if (k - 14) % 11 = 8 then .inl (Z.2.2 0, 420, .inl f) else .inl (Z.2.2 0, 42, .inl f)
  else if k = 146 then .inr (3, fz_Dr Z k f) else if k = 147 then .inl (Z.2.2 0, 10, .inl f) else if k = 148 then .inr (5, fz_Wa Z k f) else if k = 149 then .inl (Z.2.2 0, 42, .inl f) else if k = 150 then .inl (Z.2.2 0, 42, .inl f) else .inl (Z.2.2 1, 42, .inl f)
def tz_C (Z : cz_Z) : List (ClassId × FieldType) := [(Z.2.2 0, .int), (Z.2.2 1, .boolean), (Z.2.2 2, .object "AreaRouters$Hearing"), (Z.2.2 3, .object "AreaRouters$Base")]
def cz_G (Z : cz_Z) : jz_G := (Z.1, kz_cl, tz_C Z, 152, Z.2.1, ez_C Z)
def kz_Ba (o : Nat) : Prop := ∃ i, i < 12 ∧ o = 14 + 11 * i
def kz_He (o : Nat) : Prop := ∃ i, i < 2 ∧ o = 7 + 3 * i
theorem ke_Ba {j : Nat} {i : Int32} (e : jz_ix 12 i = some j) : kz_Ba (14 + 11 * j) := ⟨j, (jz_ix_in e).2.2, rfl⟩
theorem ke_He {j : Nat} {i : Int32} (e : jz_ix 2 i = some j) : kz_He (7 + 3 * j) := ⟨j, (jz_ix_in e).2.2, rfl⟩
theorem oz_AR {Z : cz_Z} : iz_O (cz_G Z) 0 0 (fz_AR Z 0) := ⟨by show (0 : Nat) < 152; decide, fun f => rfl⟩
theorem zk_AR_areas {Z : cz_Z} : iz_I (cz_G Z) 1 6 := ⟨by show (1 : Nat) < 152; decide, 0, Z.2.2 0, rfl, fun f => rfl⟩
theorem zk_AR_levelSets {Z : cz_Z} : iz_I (cz_G Z) 2 6 := ⟨by show (2 : Nat) < 152; decide, 0, Z.2.2 0, rfl, fun f => rfl⟩
theorem zk_AR_hearings {Z : cz_Z} : iz_A (cz_G Z) 6 2 "AreaRouters$Hearing" (fun j => 7 + 3 * j) := ⟨by show (6 : Nat) < 152; decide, 2, Z.2.2 2, rfl, fun f => rfl⟩
theorem zk_AR_bases {Z : cz_Z} : iz_A (cz_G Z) 13 12 "AreaRouters$Base" (fun j => 14 + 11 * j) := ⟨by show (13 : Nat) < 152; decide, 3, Z.2.2 3, rfl, fun f => rfl⟩
theorem oz_Wi {Z : cz_Z} : iz_O (cz_G Z) 3 1 (fz_Wi Z 3) := ⟨by show (3 : Nat) < 152; decide, fun f => rfl⟩
theorem zk_Wi_metrics {Z : cz_Z} : iz_I (cz_G Z) 4 36 := ⟨by show (4 : Nat) < 152; decide, 0, Z.2.2 0, rfl, fun f => rfl⟩
theorem zk_Wi_priorities {Z : cz_Z} : iz_I (cz_G Z) 5 36 := ⟨by show (5 : Nat) < 152; decide, 0, Z.2.2 0, rfl, fun f => rfl⟩
theorem oz_He {Z : cz_Z} {o : Nat} (h : kz_He o) : iz_O (cz_G Z) o 2 (fz_He Z o) := by
  obtain ⟨i, hi, rfl⟩ := h
  rcases (show i = 0 ∨ i = 1 by omega) with rfl | rfl
  · exact ⟨by show (7 : Nat) < 152; decide, fun f => rfl⟩
  · exact ⟨by show (10 : Nat) < 152; decide, fun f => rfl⟩
theorem zk_He_ticksLeft {Z : cz_Z} {o : Nat} (h : kz_He o) : iz_I (cz_G Z) (o + 1) 216 := by
  obtain ⟨i, hi, rfl⟩ := h
  rcases (show i = 0 ∨ i = 1 by omega) with rfl | rfl
  · exact ⟨by show (8 : Nat) < 152; decide, 0, Z.2.2 0, rfl, fun f => rfl⟩
  · exact ⟨by show (11 : Nat) < 152; decide, 0, Z.2.2 0, rfl, fun f => rfl⟩
theorem zk_He_named {Z : cz_Z} {o : Nat} (h : kz_He o) : iz_Z (cz_G Z) (o + 2) 216 := by
  obtain ⟨i, hi, rfl⟩ := h
  rcases (show i = 0 ∨ i = 1 by omega) with rfl | rfl
  · exact ⟨by show (9 : Nat) < 152; decide, 1, Z.2.2 1, rfl, fun f => rfl⟩
  · exact ⟨by show (12 : Nat) < 152; decide, 1, Z.2.2 1, rfl, fun f => rfl⟩
theorem oz_Dr {Z : cz_Z} : iz_O (cz_G Z) 146 3 (fz_Dr Z 146) := ⟨by show (146 : Nat) < 152; decide, fun f => rfl⟩
theorem zk_Dr_links {Z : cz_Z} : iz_I (cz_G Z) 147 10 := ⟨by show (147 : Nat) < 152; decide, 0, Z.2.2 0, rfl, fun f => rfl⟩
theorem oz_Ba {Z : cz_Z} {o : Nat} (h : kz_Ba o) : iz_O (cz_G Z) o 4 (fz_Ba Z o) := by
  obtain ⟨i, hi, rfl⟩ := h
  refine ⟨by show 14 + 11 * i < 152; omega, fun f => ?_⟩
  show ez_C Z (14 + 11 * i) f = _
  unfold ez_C
  rw [if_neg (by omega), if_pos (by omega), if_pos (by omega)]
theorem zk_Ba_sequences {Z : cz_Z} {o : Nat} (h : kz_Ba o) : iz_I (cz_G Z) (o + 1) 42 := by
  obtain ⟨i, hi, rfl⟩ := h
  refine ⟨by show 14 + 11 * i + 1 < 152; omega, 0, Z.2.2 0, rfl, fun f => ?_⟩
  show ez_C Z (14 + 11 * i + 1) f = _
  unfold ez_C
  rw [if_neg (by omega), if_pos (by omega), if_neg (by omega), if_neg (by omega), if_neg (by omega)]
theorem zk_Ba_greatest {Z : cz_Z} {o : Nat} (h : kz_Ba o) : iz_I (cz_G Z) (o + 2) 42 := by
  obtain ⟨i, hi, rfl⟩ := h
  refine ⟨by show 14 + 11 * i + 2 < 152; omega, 0, Z.2.2 0, rfl, fun f => ?_⟩
  show ez_C Z (14 + 11 * i + 2) f = _
  unfold ez_C
  rw [if_neg (by omega), if_pos (by omega), if_neg (by omega), if_neg (by omega), if_neg (by omega)]
theorem zk_Ba_lives {Z : cz_Z} {o : Nat} (h : kz_Ba o) : iz_I (cz_G Z) (o + 3) 42 := by
  obtain ⟨i, hi, rfl⟩ := h
  refine ⟨by show 14 + 11 * i + 3 < 152; omega, 0, Z.2.2 0, rfl, fun f => ?_⟩
  show ez_C Z (14 + 11 * i + 3) f = _
  unfold ez_C
  rw [if_neg (by omega), if_pos (by omega), if_neg (by omega), if_neg (by omega), if_neg (by omega)]
theorem zk_Ba_ticksAtRest {Z : cz_Z} {o : Nat} (h : kz_Ba o) : iz_I (cz_G Z) (o + 4) 42 := by
  obtain ⟨i, hi, rfl⟩ := h
  refine ⟨by show 14 + 11 * i + 4 < 152; omega, 0, Z.2.2 0, rfl, fun f => ?_⟩
  show ez_C Z (14 + 11 * i + 4) f = _
  unfold ez_C
  rw [if_neg (by omega), if_pos (by omega), if_neg (by omega), if_neg (by omega), if_neg (by omega)]
theorem zk_Ba_exits {Z : cz_Z} {o : Nat} (h : kz_Ba o) : iz_Z (cz_G Z) (o + 5) 42 := by
  obtain ⟨i, hi, rfl⟩ := h
  refine ⟨by show 14 + 11 * i + 5 < 152; omega, 1, Z.2.2 1, rfl, fun f => ?_⟩
  show ez_C Z (14 + 11 * i + 5) f = _
  unfold ez_C
  rw [if_neg (by omega), if_pos (by omega), if_neg (by omega), if_pos (by omega)]
theorem zk_Ba_areas {Z : cz_Z} {o : Nat} (h : kz_Ba o) : iz_I (cz_G Z) (o + 6) 42 := by
  obtain ⟨i, hi, rfl⟩ := h
  refine ⟨by show 14 + 11 * i + 6 < 152; omega, 0, Z.2.2 0, rfl, fun f => ?_⟩
  show ez_C Z (14 + 11 * i + 6) f = _
  unfold ez_C
  rw [if_neg (by omega), if_pos (by omega), if_neg (by omega), if_neg (by omega), if_neg (by omega)]
theorem zk_Ba_linkCounts {Z : cz_Z} {o : Nat} (h : kz_Ba o) : iz_I (cz_G Z) (o + 7) 42 := by
  obtain ⟨i, hi, rfl⟩ := h
  refine ⟨by show 14 + 11 * i + 7 < 152; omega, 0, Z.2.2 0, rfl, fun f => ?_⟩
  show ez_C Z (14 + 11 * i + 7) f = _
  unfold ez_C
  rw [if_neg (by omega), if_pos (by omega), if_neg (by omega), if_neg (by omega), if_neg (by omega)]
theorem zk_Ba_links {Z : cz_Z} {o : Nat} (h : kz_Ba o) : iz_I (cz_G Z) (o + 8) 420 := by
  obtain ⟨i, hi, rfl⟩ := h
  refine ⟨by show 14 + 11 * i + 8 < 152; omega, 0, Z.2.2 0, rfl, fun f => ?_⟩
  show ez_C Z (14 + 11 * i + 8) f = _
  unfold ez_C
  rw [if_neg (by omega), if_pos (by omega), if_neg (by omega), if_neg (by omega), if_pos (by omega)]
theorem zk_Ba_due {Z : cz_Z} {o : Nat} (h : kz_Ba o) : iz_I (cz_G Z) (o + 9) 42 := by
  obtain ⟨i, hi, rfl⟩ := h
  refine ⟨by show 14 + 11 * i + 9 < 152; omega, 0, Z.2.2 0, rfl, fun f => ?_⟩
  show ez_C Z (14 + 11 * i + 9) f = _
  unfold ez_C
  rw [if_neg (by omega), if_pos (by omega), if_neg (by omega), if_neg (by omega), if_neg (by omega)]
theorem zk_Ba_asked {Z : cz_Z} {o : Nat} (h : kz_Ba o) : iz_I (cz_G Z) (o + 10) 42 := by
  obtain ⟨i, hi, rfl⟩ := h
  refine ⟨by show 14 + 11 * i + 10 < 152; omega, 0, Z.2.2 0, rfl, fun f => ?_⟩
  show ez_C Z (14 + 11 * i + 10) f = _
  unfold ez_C
  rw [if_neg (by omega), if_pos (by omega), if_neg (by omega), if_neg (by omega), if_neg (by omega)]
theorem oz_Wa {Z : cz_Z} : iz_O (cz_G Z) 148 5 (fz_Wa Z 148) := ⟨by show (148 : Nat) < 152; decide, fun f => rfl⟩
theorem zk_Wa_costs {Z : cz_Z} : iz_I (cz_G Z) 149 42 := ⟨by show (149 : Nat) < 152; decide, 0, Z.2.2 0, rfl, fun f => rfl⟩
theorem zk_Wa_firstHops {Z : cz_Z} : iz_I (cz_G Z) 150 42 := ⟨by show (150 : Nat) < 152; decide, 0, Z.2.2 0, rfl, fun f => rfl⟩
theorem zk_Wa_settled {Z : cz_Z} : iz_Z (cz_G Z) 151 42 := ⟨by show (151 : Nat) < 152; decide, 1, Z.2.2 1, rfl, fun f => rfl⟩
theorem gf_Ba_15 {X : jz_X} {nL : Nat} {cc : ByteArray} {ret : Option FieldType} {rm0 : Room} {Q : State → Prop} {m : jz_M} {lv : List (Nat × Value)} {st : List Value} {Z : cz_Z} (pc : Nat) (C : jz_C X nL cc R_Ba ret rm0 (cz_G Z)) (d : decode cc pc = .ok (.getfield 15, 3)) {o : Nat} (ko : kz_Ba o) (kk : jz_J X nL (cz_G Z) Q m lv (pc + 3) (.ref (gz_ad (cz_G Z) (o + 2)) :: st)) : jz_J X nL (cz_G Z) Q m lv pc (.ref (gz_ad (cz_G Z) o) :: st) := jr_get pc (ref := R_Ba) C d (oz_Ba ko) rfl in_Ba (j := 1) (by decide) (lt_1 (i := 60) (by decide +kernel)) rfl rfl kk
theorem gf_Ba_18 {X : jz_X} {nL : Nat} {cc : ByteArray} {ret : Option FieldType} {rm0 : Room} {Q : State → Prop} {m : jz_M} {lv : List (Nat × Value)} {st : List Value} {Z : cz_Z} (pc : Nat) (C : jz_C X nL cc R_Ba ret rm0 (cz_G Z)) (d : decode cc pc = .ok (.getfield 18, 3)) {o : Nat} (ko : kz_Ba o) (kk : jz_J X nL (cz_G Z) Q m lv (pc + 3) (.ref (gz_ad (cz_G Z) (o + 3)) :: st)) : jz_J X nL (cz_G Z) Q m lv pc (.ref (gz_ad (cz_G Z) o) :: st) := jr_get pc (ref := R_Ba) C d (oz_Ba ko) rfl in_Ba (j := 2) (by decide) (lt_1 (i := 61) (by decide +kernel)) rfl rfl kk
theorem gf_Ba_21 {X : jz_X} {nL : Nat} {cc : ByteArray} {ret : Option FieldType} {rm0 : Room} {Q : State → Prop} {m : jz_M} {lv : List (Nat × Value)} {st : List Value} {Z : cz_Z} (pc : Nat) (C : jz_C X nL cc R_Ba ret rm0 (cz_G Z)) (d : decode cc pc = .ok (.getfield 21, 3)) {o : Nat} (ko : kz_Ba o) (kk : jz_J X nL (cz_G Z) Q m lv (pc + 3) (.ref (gz_ad (cz_G Z) (o + 4)) :: st)) : jz_J X nL (cz_G Z) Q m lv pc (.ref (gz_ad (cz_G Z) o) :: st) := jr_get pc (ref := R_Ba) C d (oz_Ba ko) rfl in_Ba (j := 3) (by decide) (lt_1 (i := 62) (by decide +kernel)) rfl rfl kk
theorem gf_Ba_24 {X : jz_X} {nL : Nat} {cc : ByteArray} {ret : Option FieldType} {rm0 : Room} {Q : State → Prop} {m : jz_M} {lv : List (Nat × Value)} {st : List Value} {Z : cz_Z} (pc : Nat) (C : jz_C X nL cc R_Ba ret rm0 (cz_G Z)) (d : decode cc pc = .ok (.getfield 24, 3)) {o : Nat} (ko : kz_Ba o) (kk : jz_J X nL (cz_G Z) Q m lv (pc + 3) (.ref (gz_ad (cz_G Z) (o + 5)) :: st)) : jz_J X nL (cz_G Z) Q m lv pc (.ref (gz_ad (cz_G Z) o) :: st) := jr_get pc (ref := R_Ba) C d (oz_Ba ko) rfl in_Ba (j := 4) (by decide) (lt_1 (i := 63) (by decide +kernel)) rfl rfl kk
theorem gf_Ba_28 {X : jz_X} {nL : Nat} {cc : ByteArray} {ret : Option FieldType} {rm0 : Room} {Q : State → Prop} {m : jz_M} {lv : List (Nat × Value)} {st : List Value} {Z : cz_Z} (pc : Nat) (C : jz_C X nL cc R_Ba ret rm0 (cz_G Z)) (d : decode cc pc = .ok (.getfield 28, 3)) {o : Nat} (ko : kz_Ba o) (kk : jz_J X nL (cz_G Z) Q m lv (pc + 3) (.ref (gz_ad (cz_G Z) (o + 6)) :: st)) : jz_J X nL (cz_G Z) Q m lv pc (.ref (gz_ad (cz_G Z) o) :: st) := jr_get pc (ref := R_Ba) C d (oz_Ba ko) rfl in_Ba (j := 5) (by decide) (lt_1 (i := 65) (by decide +kernel)) rfl rfl kk
theorem gf_Ba_31 {X : jz_X} {nL : Nat} {cc : ByteArray} {ret : Option FieldType} {rm0 : Room} {Q : State → Prop} {m : jz_M} {lv : List (Nat × Value)} {st : List Value} {Z : cz_Z} (pc : Nat) (C : jz_C X nL cc R_Ba ret rm0 (cz_G Z)) (d : decode cc pc = .ok (.getfield 31, 3)) {o : Nat} (ko : kz_Ba o) (kk : jz_J X nL (cz_G Z) Q m lv (pc + 3) (.ref (gz_ad (cz_G Z) (o + 7)) :: st)) : jz_J X nL (cz_G Z) Q m lv pc (.ref (gz_ad (cz_G Z) o) :: st) := jr_get pc (ref := R_Ba) C d (oz_Ba ko) rfl in_Ba (j := 6) (by decide) (lt_1 (i := 67) (by decide +kernel)) rfl rfl kk
theorem gf_Ba_34 {X : jz_X} {nL : Nat} {cc : ByteArray} {ret : Option FieldType} {rm0 : Room} {Q : State → Prop} {m : jz_M} {lv : List (Nat × Value)} {st : List Value} {Z : cz_Z} (pc : Nat) (C : jz_C X nL cc R_Ba ret rm0 (cz_G Z)) (d : decode cc pc = .ok (.getfield 34, 3)) {o : Nat} (ko : kz_Ba o) (kk : jz_J X nL (cz_G Z) Q m lv (pc + 3) (.ref (gz_ad (cz_G Z) (o + 8)) :: st)) : jz_J X nL (cz_G Z) Q m lv pc (.ref (gz_ad (cz_G Z) o) :: st) := jr_get pc (ref := R_Ba) C d (oz_Ba ko) rfl in_Ba (j := 7) (by decide) (lt_1 (i := 69) (by decide +kernel)) rfl rfl kk
theorem gf_Ba_37 {X : jz_X} {nL : Nat} {cc : ByteArray} {ret : Option FieldType} {rm0 : Room} {Q : State → Prop} {m : jz_M} {lv : List (Nat × Value)} {st : List Value} {Z : cz_Z} (pc : Nat) (C : jz_C X nL cc R_Ba ret rm0 (cz_G Z)) (d : decode cc pc = .ok (.getfield 37, 3)) {o : Nat} (ko : kz_Ba o) (kk : jz_J X nL (cz_G Z) Q m lv (pc + 3) (.ref (gz_ad (cz_G Z) (o + 9)) :: st)) : jz_J X nL (cz_G Z) Q m lv pc (.ref (gz_ad (cz_G Z) o) :: st) := jr_get pc (ref := R_Ba) C d (oz_Ba ko) rfl in_Ba (j := 8) (by decide) (lt_1 (i := 70) (by decide +kernel)) rfl rfl kk
theorem gf_Ba_40 {X : jz_X} {nL : Nat} {cc : ByteArray} {ret : Option FieldType} {rm0 : Room} {Q : State → Prop} {m : jz_M} {lv : List (Nat × Value)} {st : List Value} {Z : cz_Z} (pc : Nat) (C : jz_C X nL cc R_Ba ret rm0 (cz_G Z)) (d : decode cc pc = .ok (.getfield 40, 3)) {o : Nat} (ko : kz_Ba o) (kk : jz_J X nL (cz_G Z) Q m lv (pc + 3) (.ref (gz_ad (cz_G Z) (o + 10)) :: st)) : jz_J X nL (cz_G Z) Q m lv pc (.ref (gz_ad (cz_G Z) o) :: st) := jr_get pc (ref := R_Ba) C d (oz_Ba ko) rfl in_Ba (j := 9) (by decide) (lt_1 (i := 71) (by decide +kernel)) rfl rfl kk
theorem gf_Ba_69 {X : jz_X} {nL : Nat} {cc : ByteArray} {ret : Option FieldType} {rm0 : Room} {Q : State → Prop} {m : jz_M} {lv : List (Nat × Value)} {st : List Value} {Z : cz_Z} (pc : Nat) (C : jz_C X nL cc R_Ba ret rm0 (cz_G Z)) (d : decode cc pc = .ok (.getfield 69, 3)) (kk : jz_J X nL (cz_G Z) Q m lv (pc + 3) (.int (m 146 2) :: st)) : jz_J X nL (cz_G Z) Q m lv pc (.ref (gz_ad (cz_G Z) 146) :: st) := jr_getN pc (host := "AreaRouters") (ref := R_Dr) C d oz_Dr rfl in_Dr (j := 3) (by decide) (lt_1 (i := 106) (by decide +kernel)) rfl rfl kk
theorem gf_Ba_75 {X : jz_X} {nL : Nat} {cc : ByteArray} {ret : Option FieldType} {rm0 : Room} {Q : State → Prop} {m : jz_M} {lv : List (Nat × Value)} {st : List Value} {Z : cz_Z} (pc : Nat) (C : jz_C X nL cc R_Ba ret rm0 (cz_G Z)) (d : decode cc pc = .ok (.getfield 75, 3)) (kk : jz_J X nL (cz_G Z) Q m lv (pc + 3) (.int (m 146 0) :: st)) : jz_J X nL (cz_G Z) Q m lv pc (.ref (gz_ad (cz_G Z) 146) :: st) := jr_getN pc (host := "AreaRouters") (ref := R_Dr) C d oz_Dr rfl in_Dr (j := 1) (by decide) (lt_1 (i := 102) (by decide +kernel)) rfl rfl kk
theorem gf_Ba_79 {X : jz_X} {nL : Nat} {cc : ByteArray} {ret : Option FieldType} {rm0 : Room} {Q : State → Prop} {m : jz_M} {lv : List (Nat × Value)} {st : List Value} {Z : cz_Z} (pc : Nat) (C : jz_C X nL cc R_Ba ret rm0 (cz_G Z)) (d : decode cc pc = .ok (.getfield 79, 3)) (kk : jz_J X nL (cz_G Z) Q m lv (pc + 3) (.ref (gz_ad (cz_G Z) 147) :: st)) : jz_J X nL (cz_G Z) Q m lv pc (.ref (gz_ad (cz_G Z) 146) :: st) := jr_getN pc (host := "AreaRouters") (ref := R_Dr) C d oz_Dr rfl in_Dr (j := 0) (by decide) (lt_1 (i := 100) (by decide +kernel)) rfl rfl kk
theorem gf_Ba_80 {X : jz_X} {nL : Nat} {cc : ByteArray} {ret : Option FieldType} {rm0 : Room} {Q : State → Prop} {m : jz_M} {lv : List (Nat × Value)} {st : List Value} {Z : cz_Z} (pc : Nat) (C : jz_C X nL cc R_Ba ret rm0 (cz_G Z)) (d : decode cc pc = .ok (.getfield 80, 3)) (kk : jz_J X nL (cz_G Z) Q m lv (pc + 3) (.int (m 146 1) :: st)) : jz_J X nL (cz_G Z) Q m lv pc (.ref (gz_ad (cz_G Z) 146) :: st) := jr_getN pc (host := "AreaRouters") (ref := R_Dr) C d oz_Dr rfl in_Dr (j := 2) (by decide) (lt_1 (i := 104) (by decide +kernel)) rfl rfl kk
theorem gf_Ba_9 {X : jz_X} {nL : Nat} {cc : ByteArray} {ret : Option FieldType} {rm0 : Room} {Q : State → Prop} {m : jz_M} {lv : List (Nat × Value)} {st : List Value} {Z : cz_Z} (pc : Nat) (C : jz_C X nL cc R_Ba ret rm0 (cz_G Z)) (d : decode cc pc = .ok (.getfield 9, 3)) {o : Nat} (ko : kz_Ba o) (kk : jz_J X nL (cz_G Z) Q m lv (pc + 3) (.ref (gz_ad (cz_G Z) (o + 1)) :: st)) : jz_J X nL (cz_G Z) Q m lv pc (.ref (gz_ad (cz_G Z) o) :: st) := jr_get pc (ref := R_Ba) C d (oz_Ba ko) rfl in_Ba (j := 0) (by decide) (lt_1 (i := 59) (by decide +kernel)) rfl rfl kk
theorem gf_Dr_15 {X : jz_X} {nL : Nat} {cc : ByteArray} {ret : Option FieldType} {rm0 : Room} {Q : State → Prop} {m : jz_M} {lv : List (Nat × Value)} {st : List Value} {Z : cz_Z} (pc : Nat) (C : jz_C X nL cc R_Dr ret rm0 (cz_G Z)) (d : decode cc pc = .ok (.getfield 15, 3)) (kk : jz_J X nL (cz_G Z) Q m lv (pc + 3) (.int (m 146 0) :: st)) : jz_J X nL (cz_G Z) Q m lv pc (.ref (gz_ad (cz_G Z) 146) :: st) := jr_get pc (ref := R_Dr) C d oz_Dr rfl in_Dr (j := 1) (by decide) (lt_1 (i := 101) (by decide +kernel)) rfl rfl kk
theorem gf_Dr_9 {X : jz_X} {nL : Nat} {cc : ByteArray} {ret : Option FieldType} {rm0 : Room} {Q : State → Prop} {m : jz_M} {lv : List (Nat × Value)} {st : List Value} {Z : cz_Z} (pc : Nat) (C : jz_C X nL cc R_Dr ret rm0 (cz_G Z)) (d : decode cc pc = .ok (.getfield 9, 3)) (kk : jz_J X nL (cz_G Z) Q m lv (pc + 3) (.ref (gz_ad (cz_G Z) 147) :: st)) : jz_J X nL (cz_G Z) Q m lv pc (.ref (gz_ad (cz_G Z) 146) :: st) := jr_get pc (ref := R_Dr) C d oz_Dr rfl in_Dr (j := 0) (by decide) (lt_1 (i := 99) (by decide +kernel)) rfl rfl kk
theorem gf_He_11 {X : jz_X} {nL : Nat} {cc : ByteArray} {ret : Option FieldType} {rm0 : Room} {Q : State → Prop} {m : jz_M} {lv : List (Nat × Value)} {st : List Value} {Z : cz_Z} (pc : Nat) (C : jz_C X nL cc R_He ret rm0 (cz_G Z)) (d : decode cc pc = .ok (.getfield 11, 3)) {o : Nat} (ko : kz_He o) (kk : jz_J X nL (cz_G Z) Q m lv (pc + 3) (.ref (gz_ad (cz_G Z) (o + 1)) :: st)) : jz_J X nL (cz_G Z) Q m lv pc (.ref (gz_ad (cz_G Z) o) :: st) := jr_get pc (ref := R_He) C d (oz_He ko) rfl in_He (j := 0) (by decide) (lt_1 (i := 44) (by decide +kernel)) rfl rfl kk
theorem gf_He_15 {X : jz_X} {nL : Nat} {cc : ByteArray} {ret : Option FieldType} {rm0 : Room} {Q : State → Prop} {m : jz_M} {lv : List (Nat × Value)} {st : List Value} {Z : cz_Z} (pc : Nat) (C : jz_C X nL cc R_He ret rm0 (cz_G Z)) (d : decode cc pc = .ok (.getfield 15, 3)) {o : Nat} (ko : kz_He o) (kk : jz_J X nL (cz_G Z) Q m lv (pc + 3) (.ref (gz_ad (cz_G Z) (o + 2)) :: st)) : jz_J X nL (cz_G Z) Q m lv pc (.ref (gz_ad (cz_G Z) o) :: st) := jr_get pc (ref := R_He) C d (oz_He ko) rfl in_He (j := 1) (by decide) (lt_1 (i := 45) (by decide +kernel)) rfl rfl kk
theorem gf_Wa_15 {X : jz_X} {nL : Nat} {cc : ByteArray} {ret : Option FieldType} {rm0 : Room} {Q : State → Prop} {m : jz_M} {lv : List (Nat × Value)} {st : List Value} {Z : cz_Z} (pc : Nat) (C : jz_C X nL cc R_Wa ret rm0 (cz_G Z)) (d : decode cc pc = .ok (.getfield 15, 3)) (kk : jz_J X nL (cz_G Z) Q m lv (pc + 3) (.ref (gz_ad (cz_G Z) 150) :: st)) : jz_J X nL (cz_G Z) Q m lv pc (.ref (gz_ad (cz_G Z) 148) :: st) := jr_get pc (ref := R_Wa) C d oz_Wa rfl in_Wa (j := 1) (by decide) (lt_1 (i := 124) (by decide +kernel)) rfl rfl kk
theorem gf_Wa_18 {X : jz_X} {nL : Nat} {cc : ByteArray} {ret : Option FieldType} {rm0 : Room} {Q : State → Prop} {m : jz_M} {lv : List (Nat × Value)} {st : List Value} {Z : cz_Z} (pc : Nat) (C : jz_C X nL cc R_Wa ret rm0 (cz_G Z)) (d : decode cc pc = .ok (.getfield 18, 3)) (kk : jz_J X nL (cz_G Z) Q m lv (pc + 3) (.ref (gz_ad (cz_G Z) 151) :: st)) : jz_J X nL (cz_G Z) Q m lv pc (.ref (gz_ad (cz_G Z) 148) :: st) := jr_get pc (ref := R_Wa) C d oz_Wa rfl in_Wa (j := 2) (by decide) (lt_1 (i := 125) (by decide +kernel)) rfl rfl kk
theorem gf_Wa_41 {X : jz_X} {nL : Nat} {cc : ByteArray} {ret : Option FieldType} {rm0 : Room} {Q : State → Prop} {m : jz_M} {lv : List (Nat × Value)} {st : List Value} {Z : cz_Z} (pc : Nat) (C : jz_C X nL cc R_Wa ret rm0 (cz_G Z)) (d : decode cc pc = .ok (.getfield 41, 3)) {o : Nat} (ko : kz_Ba o) (kk : jz_J X nL (cz_G Z) Q m lv (pc + 3) (.ref (gz_ad (cz_G Z) (o + 7)) :: st)) : jz_J X nL (cz_G Z) Q m lv pc (.ref (gz_ad (cz_G Z) o) :: st) := jr_getN pc (host := "AreaRouters") (ref := R_Ba) C d (oz_Ba ko) rfl in_Ba (j := 6) (by decide) (lt_1 (i := 68) (by decide +kernel)) rfl rfl kk
theorem gf_Wa_9 {X : jz_X} {nL : Nat} {cc : ByteArray} {ret : Option FieldType} {rm0 : Room} {Q : State → Prop} {m : jz_M} {lv : List (Nat × Value)} {st : List Value} {Z : cz_Z} (pc : Nat) (C : jz_C X nL cc R_Wa ret rm0 (cz_G Z)) (d : decode cc pc = .ok (.getfield 9, 3)) (kk : jz_J X nL (cz_G Z) Q m lv (pc + 3) (.ref (gz_ad (cz_G Z) 149) :: st)) : jz_J X nL (cz_G Z) Q m lv pc (.ref (gz_ad (cz_G Z) 148) :: st) := jr_get pc (ref := R_Wa) C d oz_Wa rfl in_Wa (j := 0) (by decide) (lt_1 (i := 123) (by decide +kernel)) rfl rfl kk
theorem gf_Wi_15 {X : jz_X} {nL : Nat} {cc : ByteArray} {ret : Option FieldType} {rm0 : Room} {Q : State → Prop} {m : jz_M} {lv : List (Nat × Value)} {st : List Value} {Z : cz_Z} (pc : Nat) (C : jz_C X nL cc R_Wi ret rm0 (cz_G Z)) (d : decode cc pc = .ok (.getfield 15, 3)) (kk : jz_J X nL (cz_G Z) Q m lv (pc + 3) (.ref (gz_ad (cz_G Z) 5) :: st)) : jz_J X nL (cz_G Z) Q m lv pc (.ref (gz_ad (cz_G Z) 3) :: st) := jr_get pc (ref := R_Wi) C d oz_Wi rfl in_Wi (j := 1) (by decide) (lt_1 (i := 30) (by decide +kernel)) rfl rfl kk
theorem gf_Wi_9 {X : jz_X} {nL : Nat} {cc : ByteArray} {ret : Option FieldType} {rm0 : Room} {Q : State → Prop} {m : jz_M} {lv : List (Nat × Value)} {st : List Value} {Z : cz_Z} (pc : Nat) (C : jz_C X nL cc R_Wi ret rm0 (cz_G Z)) (d : decode cc pc = .ok (.getfield 9, 3)) (kk : jz_J X nL (cz_G Z) Q m lv (pc + 3) (.ref (gz_ad (cz_G Z) 4) :: st)) : jz_J X nL (cz_G Z) Q m lv pc (.ref (gz_ad (cz_G Z) 3) :: st) := jr_get pc (ref := R_Wi) C d oz_Wi rfl in_Wi (j := 0) (by decide) (lt_1 (i := 29) (by decide +kernel)) rfl rfl kk
theorem gf_AR_13 {X : jz_X} {nL : Nat} {cc : ByteArray} {ret : Option FieldType} {rm0 : Room} {Q : State → Prop} {m : jz_M} {lv : List (Nat × Value)} {st : List Value} {Z : cz_Z} (pc : Nat) (C : jz_C X nL cc R_AR ret rm0 (cz_G Z)) (d : decode cc pc = .ok (.getfield 13, 3)) (kk : jz_J X nL (cz_G Z) Q m lv (pc + 3) (.ref (gz_ad (cz_G Z) 2) :: st)) : jz_J X nL (cz_G Z) Q m lv pc (.ref (gz_ad (cz_G Z) 0) :: st) := jr_get pc (ref := R_AR) C d oz_AR rfl in_AR (j := 1) (by decide) (lt_1 (i := 134) (by decide +kernel)) rfl rfl kk
theorem gf_AR_19 {X : jz_X} {nL : Nat} {cc : ByteArray} {ret : Option FieldType} {rm0 : Room} {Q : State → Prop} {m : jz_M} {lv : List (Nat × Value)} {st : List Value} {Z : cz_Z} (pc : Nat) (C : jz_C X nL cc R_AR ret rm0 (cz_G Z)) (d : decode cc pc = .ok (.getfield 19, 3)) (kk : jz_J X nL (cz_G Z) Q m lv (pc + 3) (.ref (gz_ad (cz_G Z) 3) :: st)) : jz_J X nL (cz_G Z) Q m lv pc (.ref (gz_ad (cz_G Z) 0) :: st) := jr_get pc (ref := R_AR) C d oz_AR rfl in_AR (j := 2) (by decide) (lt_1 (i := 135) (by decide +kernel)) rfl rfl kk
theorem gf_AR_25 {X : jz_X} {nL : Nat} {cc : ByteArray} {ret : Option FieldType} {rm0 : Room} {Q : State → Prop} {m : jz_M} {lv : List (Nat × Value)} {st : List Value} {Z : cz_Z} (pc : Nat) (C : jz_C X nL cc R_AR ret rm0 (cz_G Z)) (d : decode cc pc = .ok (.getfield 25, 3)) (kk : jz_J X nL (cz_G Z) Q m lv (pc + 3) (.ref (gz_ad (cz_G Z) 6) :: st)) : jz_J X nL (cz_G Z) Q m lv pc (.ref (gz_ad (cz_G Z) 0) :: st) := jr_get pc (ref := R_AR) C d oz_AR rfl in_AR (j := 3) (by decide) (lt_1 (i := 136) (by decide +kernel)) rfl rfl kk
theorem gf_AR_275 {X : jz_X} {nL : Nat} {cc : ByteArray} {ret : Option FieldType} {rm0 : Room} {Q : State → Prop} {m : jz_M} {lv : List (Nat × Value)} {st : List Value} {Z : cz_Z} (pc : Nat) (C : jz_C X nL cc R_AR ret rm0 (cz_G Z)) (d : decode cc pc = .ok (.getfield 275, 3)) {o : Nat} (ko : kz_Ba o) (kk : jz_J X nL (cz_G Z) Q m lv (pc + 3) (.ref (gz_ad (cz_G Z) (o + 6)) :: st)) : jz_J X nL (cz_G Z) Q m lv pc (.ref (gz_ad (cz_G Z) o) :: st) := jr_getN pc (host := "AreaRouters") (ref := R_Ba) C d (oz_Ba ko) rfl in_Ba (j := 5) (by decide) (lt_1 (i := 66) (by decide +kernel)) rfl rfl kk
theorem gf_AR_279 {X : jz_X} {nL : Nat} {cc : ByteArray} {ret : Option FieldType} {rm0 : Room} {Q : State → Prop} {m : jz_M} {lv : List (Nat × Value)} {st : List Value} {Z : cz_Z} (pc : Nat) (C : jz_C X nL cc R_AR ret rm0 (cz_G Z)) (d : decode cc pc = .ok (.getfield 279, 3)) {o : Nat} (ko : kz_Ba o) (kk : jz_J X nL (cz_G Z) Q m lv (pc + 3) (.ref (gz_ad (cz_G Z) (o + 5)) :: st)) : jz_J X nL (cz_G Z) Q m lv pc (.ref (gz_ad (cz_G Z) o) :: st) := jr_getN pc (host := "AreaRouters") (ref := R_Ba) C d (oz_Ba ko) rfl in_Ba (j := 4) (by decide) (lt_1 (i := 64) (by decide +kernel)) rfl rfl kk
theorem gf_AR_32 {X : jz_X} {nL : Nat} {cc : ByteArray} {ret : Option FieldType} {rm0 : Room} {Q : State → Prop} {m : jz_M} {lv : List (Nat × Value)} {st : List Value} {Z : cz_Z} (pc : Nat) (C : jz_C X nL cc R_AR ret rm0 (cz_G Z)) (d : decode cc pc = .ok (.getfield 32, 3)) (kk : jz_J X nL (cz_G Z) Q m lv (pc + 3) (.ref (gz_ad (cz_G Z) 13) :: st)) : jz_J X nL (cz_G Z) Q m lv pc (.ref (gz_ad (cz_G Z) 0) :: st) := jr_get pc (ref := R_AR) C d oz_AR rfl in_AR (j := 4) (by decide) (lt_1 (i := 137) (by decide +kernel)) rfl rfl kk
theorem gf_AR_40 {X : jz_X} {nL : Nat} {cc : ByteArray} {ret : Option FieldType} {rm0 : Room} {Q : State → Prop} {m : jz_M} {lv : List (Nat × Value)} {st : List Value} {Z : cz_Z} (pc : Nat) (C : jz_C X nL cc R_AR ret rm0 (cz_G Z)) (d : decode cc pc = .ok (.getfield 40, 3)) (kk : jz_J X nL (cz_G Z) Q m lv (pc + 3) (.ref (gz_ad (cz_G Z) 146) :: st)) : jz_J X nL (cz_G Z) Q m lv pc (.ref (gz_ad (cz_G Z) 0) :: st) := jr_get pc (ref := R_AR) C d oz_AR rfl in_AR (j := 5) (by decide) (lt_1 (i := 138) (by decide +kernel)) rfl rfl kk
theorem gf_AR_47 {X : jz_X} {nL : Nat} {cc : ByteArray} {ret : Option FieldType} {rm0 : Room} {Q : State → Prop} {m : jz_M} {lv : List (Nat × Value)} {st : List Value} {Z : cz_Z} (pc : Nat) (C : jz_C X nL cc R_AR ret rm0 (cz_G Z)) (d : decode cc pc = .ok (.getfield 47, 3)) (kk : jz_J X nL (cz_G Z) Q m lv (pc + 3) (.ref (gz_ad (cz_G Z) 148) :: st)) : jz_J X nL (cz_G Z) Q m lv pc (.ref (gz_ad (cz_G Z) 0) :: st) := jr_get pc (ref := R_AR) C d oz_AR rfl in_AR (j := 6) (by decide) (lt_1 (i := 139) (by decide +kernel)) rfl rfl kk
theorem gf_AR_9 {X : jz_X} {nL : Nat} {cc : ByteArray} {ret : Option FieldType} {rm0 : Room} {Q : State → Prop} {m : jz_M} {lv : List (Nat × Value)} {st : List Value} {Z : cz_Z} (pc : Nat) (C : jz_C X nL cc R_AR ret rm0 (cz_G Z)) (d : decode cc pc = .ok (.getfield 9, 3)) (kk : jz_J X nL (cz_G Z) Q m lv (pc + 3) (.ref (gz_ad (cz_G Z) 1) :: st)) : jz_J X nL (cz_G Z) Q m lv pc (.ref (gz_ad (cz_G Z) 0) :: st) := jr_get pc (ref := R_AR) C d oz_AR rfl in_AR (j := 0) (by decide) (lt_1 (i := 133) (by decide +kernel)) rfl rfl kk
theorem mx_Ba_87 {X : jz_X} {nL : Nat} {cc : ByteArray} {ret : Option FieldType} {rm0 : Room} {Q : State → Prop} {m : jz_M} {lv : List (Nat × Value)} {st : List Value} {Z : cz_Z} (pc : Nat) {x y : Int32} (C : jz_C X nL cc R_Ba ret rm0 (cz_G Z)) (d : decode cc pc = .ok (.invokestatic 87, 3)) (hf : 1 ≤ rm0.frames) (hwt : (st.map fun v => v.category).sum + 13 ≤ rm0.locals) (k : jz_J X nL (cz_G Z) Q m lv (pc + 3) (.int (jz_max x y) :: st)) : jz_J X nL (cz_G Z) Q m lv pc (.int y :: .int x :: st) := jr_max pc C d (lt_3 (i := 23) (by decide +kernel)) (lt_3 (i := 24) (by decide +kernel)) (lt_1 (i := 14) (by decide +kernel)) (lt_3 (i := 25) (by decide +kernel)) hf hwt k
theorem pf_Dr_15 {X : jz_X} {nL : Nat} {cc : ByteArray} {ret : Option FieldType} {rm0 : Room} {Q : State → Prop} {m : jz_M} {lv : List (Nat × Value)} {st : List Value} {Z : cz_Z} (pc : Nat) {x : Int32} (C : jz_C X nL cc R_Dr ret rm0 (cz_G Z)) (d : decode cc pc = .ok (.putfield 15, 3)) (kk : jz_J X nL (cz_G Z) Q (jz_up m 146 0 x) lv (pc + 3) st) : jz_J X nL (cz_G Z) Q m lv pc (.int x :: .ref (gz_ad (cz_G Z) 146) :: st) := jr_put pc (ref := R_Dr) (ty := .int) C d oz_Dr rfl in_Dr tt_Dr tn_Dr (j := 1) (by decide) (lt_1 (i := 101) (by decide +kernel)) rfl rfl (by decide +kernel) rfl rfl (by show 1 < 4; decide) (by simp [fz_Dr, upd]) kk
theorem pf_Dr_19 {X : jz_X} {nL : Nat} {cc : ByteArray} {ret : Option FieldType} {rm0 : Room} {Q : State → Prop} {m : jz_M} {lv : List (Nat × Value)} {st : List Value} {Z : cz_Z} (pc : Nat) {x : Int32} (C : jz_C X nL cc R_Dr ret rm0 (cz_G Z)) (d : decode cc pc = .ok (.putfield 19, 3)) (kk : jz_J X nL (cz_G Z) Q (jz_up m 146 1 x) lv (pc + 3) st) : jz_J X nL (cz_G Z) Q m lv pc (.int x :: .ref (gz_ad (cz_G Z) 146) :: st) := jr_put pc (ref := R_Dr) (ty := .int) C d oz_Dr rfl in_Dr tt_Dr tn_Dr (j := 2) (by decide) (lt_1 (i := 103) (by decide +kernel)) rfl rfl (by decide +kernel) rfl rfl (by show 2 < 4; decide) (by simp [fz_Dr, upd]) kk
theorem pf_Dr_22 {X : jz_X} {nL : Nat} {cc : ByteArray} {ret : Option FieldType} {rm0 : Room} {Q : State → Prop} {m : jz_M} {lv : List (Nat × Value)} {st : List Value} {Z : cz_Z} (pc : Nat) {x : Int32} (C : jz_C X nL cc R_Dr ret rm0 (cz_G Z)) (d : decode cc pc = .ok (.putfield 22, 3)) (hb : narrow .boolean (.int x) = .int x ∧ fits .boolean (.int x) = true) (kk : jz_J X nL (cz_G Z) Q (jz_up m 146 2 x) lv (pc + 3) st) : jz_J X nL (cz_G Z) Q m lv pc (.int x :: .ref (gz_ad (cz_G Z) 146) :: st) := jr_put pc (ref := R_Dr) (ty := .boolean) C d oz_Dr rfl in_Dr tt_Dr tn_Dr (j := 3) (by decide) (lt_1 (i := 105) (by decide +kernel)) rfl rfl (by decide +kernel) hb.1 hb.2 (by show 3 < 4; decide) (by simp [fz_Dr, upd]) kk
theorem pf_AR_208 {X : jz_X} {nL : Nat} {cc : ByteArray} {ret : Option FieldType} {rm0 : Room} {Q : State → Prop} {m : jz_M} {lv : List (Nat × Value)} {st : List Value} {Z : cz_Z} (pc : Nat) {x : Int32} (C : jz_C X nL cc R_AR ret rm0 (cz_G Z)) (d : decode cc pc = .ok (.putfield 208, 3)) (hb : narrow .boolean (.int x) = .int x ∧ fits .boolean (.int x) = true) (kk : jz_J X nL (cz_G Z) Q (jz_up m 146 2 x) lv (pc + 3) st) : jz_J X nL (cz_G Z) Q m lv pc (.int x :: .ref (gz_ad (cz_G Z) 146) :: st) := jr_putN pc (host := "AreaRouters") (ref := R_Dr) (ty := .boolean) C d oz_Dr rfl in_Dr tt_Dr tn_Dr (j := 3) (by decide) (lt_1 (i := 107) (by decide +kernel)) rfl rfl (by decide +kernel) hb.1 hb.2 (by show 3 < 4; decide) (by simp [fz_Dr, upd]) kk
theorem tz_out_0_4 {x : Int32} (h0 : ¬ x = 0) (h1 : ¬ x = 1) (h2 : ¬ x = 2) (h3 : ¬ x = 3) (h4 : ¬ x = 4) : x.toInt < 0 ∨ 4 < x.toInt := by
  have k0 := lv_neT (a := 0) h0 (by decide)
  have k1 := lv_neT (a := 1) h1 (by decide)
  have k2 := lv_neT (a := 2) h2 (by decide)
  have k3 := lv_neT (a := 3) h3 (by decide)
  have k4 := lv_neT (a := 4) h4 (by decide)
  omega
