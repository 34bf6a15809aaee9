abbrev rm_Mo_raise : Room := { frames := 0, cells := 0, slots := 0, locals := 0 }
abbrev cd_Mo_raise : Cond := .code y_Mo_raise b_Mo_raise 2 (some .int)
def f_Mo_raise (a1 : Int32) (m : jz_M) : Option (Int32 × jz_M) :=
  jz_n (jz_up m 0 0 a1) fun m1_ =>
  some (0, m1_)
set_option maxHeartbeats 4000000 in
set_option maxRecDepth 100000 in
theorem c_Mo_raise {Z : cz_Z} (l : Launch) (hI : jz_I (mz_G Z)) {a1 : Int32} {m : jz_M} {r : Int32 × jz_M} (h : f_Mo_raise a1 m = some r) : jz_m l y_Mo_raise cd_Mo_raise rm_Mo_raise (mz_G Z) [.ref (gz_ad (mz_G Z) 0), .int a1] m (some (.int r.1)) r.2 := by
  refine jz_met (own := R_Mo) (by decide) rfl hI (Nat.le_of_ble_eq_true rfl) (fun X hX C => ?_)
  subst hX
  show jz_J X 2 (mz_G Z) _ m [(0, .ref (gz_ad (mz_G Z) 0)), (1, .int a1)] 0 []
  unfold f_Mo_raise at h
  refine jr_aload_n 0 C d_Mo_raise_0 rfl ?_
  refine jr_iload_n 1 C d_Mo_raise_1 rfl ?_
  obtain ⟨m1_, em1_, h⟩ := jz_ne h
  refine pf_Mo_71 2 C d_Mo_raise_2 ?_
  refine jr_mem em1_ ?_
  refine jr_iconst 5 0 C d_Mo_raise_5 (by decide) ?_
  obtain rfl := Option.some.inj h
  exact jr_iret 6 (v := 0) C d_Mo_raise_6 rfl
abbrev rm_Mo_isOne : Room := { frames := 0, cells := 0, slots := 0, locals := 0 }
abbrev cd_Mo_isOne : Cond := .code y_Mo_isOne b_Mo_isOne 1 (some .boolean)
def f_Mo_isOne (a0 : Int32) (m : jz_M) : Option (Int32) :=
  if a0 < 0 then
    some 0
  else
    if 5 < a0 then
      some 0
    else
      some 1
set_option maxHeartbeats 4000000 in
set_option maxRecDepth 100000 in
theorem c_Mo_isOne {Z : cz_Z} (l : Launch) (hI : jz_I (mz_G Z)) {a0 : Int32} {m : jz_M} {r : Int32} (h : f_Mo_isOne a0 m = some r) : jz_m l y_Mo_isOne cd_Mo_isOne rm_Mo_isOne (mz_G Z) [.int a0] m (some (.int r)) m := by
  refine jz_met (own := R_Mo) (by decide) rfl hI (Nat.le_of_ble_eq_true rfl) (fun X hX C => ?_)
  subst hX
  show jz_J X 1 (mz_G Z) _ m [(0, .int a0)] 0 []
  unfold f_Mo_isOne at h
  refine jr_iload_n 0 C d_Mo_isOne_0 rfl ?_
  refine jr_if_lt 1 13 C d_Mo_isOne_1 (by decide) (fun c1_ => ?_) (fun c1_ => ?_)
  · have h := jz_t c1_ h
    refine jr_iconst 13 0 C d_Mo_isOne_13 (by decide) ?_
    obtain rfl := Option.some.inj h
    exact jr_zret 14 (v := 0) C d_Mo_isOne_14 rfl nb_0
  · have h := jz_f c1_ h
    refine jr_iload_n 4 C d_Mo_isOne_4 rfl ?_
    refine jr_iconst 5 5 C d_Mo_isOne_5 (by decide) ?_
    refine jr_icmp_gt 6 13 C d_Mo_isOne_6 (by decide) (fun c2_ => ?_) (fun c2_ => ?_)
    · have h := jz_t c2_ h
      refine jr_iconst 13 0 C d_Mo_isOne_13 (by decide) ?_
      obtain rfl := Option.some.inj h
      exact jr_zret 14 (v := 0) C d_Mo_isOne_14 rfl nb_0
    · have h := jz_f c2_ h
      refine jr_iconst 9 1 C d_Mo_isOne_9 (by decide) ?_
      refine jr_goto 10 14 C d_Mo_isOne_10 (by decide) ?_
      obtain rfl := Option.some.inj h
      exact jr_zret 14 (v := 1) C d_Mo_isOne_14 rfl nb_1
abbrev rm_Mo_has : Room := { frames := 0, cells := 0, slots := 0, locals := 0 }
abbrev cd_Mo_has : Cond := .code y_Mo_has b_Mo_has 3 (some .boolean)
def f_Mo_has_10 (m : jz_M) (x1 : Int32) (x2 : Int32) : Option (Int32) :=
  (jz_ix 6 x1).bind fun j1_ =>
  if ((m 2 j1_) &&& x2) = 0 then
    some 0
  else
    some 1
set_option maxHeartbeats 4000000 in
set_option maxRecDepth 100000 in
theorem t_Mo_has_10 {Z : cz_Z} {X : jz_X} {m : jz_M} {r : Int32} (C : jz_C X 3 b_Mo_has R_Mo (some .boolean) rm_Mo_has (mz_G Z)) : ∀ (x1 : Int32) (x2 : Int32) , f_Mo_has_10 m x1 x2 = some r → jz_J X 3 (mz_G Z) (jz_q X (mz_G Z) (some (.int r)) m) m [(0, .ref (gz_ad (mz_G Z) 0)), (1, .int x1), (2, .int x2)] 10 [] := by
  intro x1 x2 h
  unfold f_Mo_has_10 at h
  refine jr_aload_n 10 C d_Mo_has_10 rfl ?_
  refine gf_Mo_13 11 C d_Mo_has_11 ?_
  refine jr_iload_n 14 C d_Mo_has_14 rfl ?_
  obtain ⟨j1_, ej1_, h⟩ := jz_b h
  refine jr_iald 15 C d_Mo_has_15 zk_Mo_levels ej1_ ?_
  refine jr_iload_n 16 C d_Mo_has_16 rfl ?_
  refine jr_iand 17 C d_Mo_has_17 ?_
  refine jr_if_eq 18 25 C d_Mo_has_18 (by decide) (fun c2_ => ?_) (fun c2_ => ?_)
  · have h := jz_t c2_ h
    refine jr_iconst 25 0 C d_Mo_has_25 (by decide) ?_
    obtain rfl := Option.some.inj h
    exact jr_zret 26 (v := 0) C d_Mo_has_26 rfl nb_0
  · have h := jz_f c2_ h
    refine jr_iconst 21 1 C d_Mo_has_21 (by decide) ?_
    refine jr_goto 22 26 C d_Mo_has_22 (by decide) ?_
    obtain rfl := Option.some.inj h
    exact jr_zret 26 (v := 1) C d_Mo_has_26 rfl nb_1
def f_Mo_has (a1 : Int32) (a2 : Int32) (m : jz_M) : Option (Int32) :=
  if a2 = 1 then
    f_Mo_has_10 m a1 a2
  else
    if ¬ a2 = 2 then
      some 0
    else
      f_Mo_has_10 m a1 a2
set_option maxHeartbeats 4000000 in
set_option maxRecDepth 100000 in
theorem c_Mo_has {Z : cz_Z} (l : Launch) (hI : jz_I (mz_G Z)) {a1 : Int32} {a2 : Int32} {m : jz_M} {r : Int32} (h : f_Mo_has a1 a2 m = some r) : jz_m l y_Mo_has cd_Mo_has rm_Mo_has (mz_G Z) [.ref (gz_ad (mz_G Z) 0), .int a1, .int a2] m (some (.int r)) m := by
  refine jz_met (own := R_Mo) (by decide) rfl hI (Nat.le_of_ble_eq_true rfl) (fun X hX C => ?_)
  subst hX
  show jz_J X 3 (mz_G Z) _ m [(0, .ref (gz_ad (mz_G Z) 0)), (1, .int a1), (2, .int a2)] 0 []
  unfold f_Mo_has at h
  refine jr_iload_n 0 C d_Mo_has_0 rfl ?_
  refine jr_iconst 1 1 C d_Mo_has_1 (by decide) ?_
  refine jr_icmp_eq 2 10 C d_Mo_has_2 (by decide) (fun c1_ => ?_) (fun c1_ => ?_)
  · have h := jz_t c1_ h
    refine jr_sub [0, 1, 2] rfl ?_
    exact t_Mo_has_10 C  a1 a2 h
  · have h := jz_f c1_ h
    refine jr_iload_n 5 C d_Mo_has_5 rfl ?_
    refine jr_iconst 6 2 C d_Mo_has_6 (by decide) ?_
    refine jr_icmp_ne 7 25 C d_Mo_has_7 (by decide) (fun c2_ => ?_) (fun c2_ => ?_)
    · have h := jz_t c2_ h
      refine jr_iconst 25 0 C d_Mo_has_25 (by decide) ?_
      obtain rfl := Option.some.inj h
      exact jr_zret 26 (v := 0) C d_Mo_has_26 rfl nb_0
    · have h := jz_f c2_ h
      refine jr_sub [0, 1, 2] rfl ?_
      exact t_Mo_has_10 C  a1 a2 h
abbrev rm_Mo_isOn : Room := { frames := 0, cells := 0, slots := 0, locals := 0 }
abbrev cd_Mo_isOn : Cond := .code y_Mo_isOn b_Mo_isOn 3 (some .boolean)
def f_Mo_isOn (a1 : Int32) (a2 : Int32) (m : jz_M) : Option (Int32) :=
  (jz_ix 36 (((6 : Int32) * a1) + a2)).bind fun j1_ =>
  if (m 4 j1_) ≤ 0 then
    some 0
  else
    some 1
set_option maxHeartbeats 4000000 in
set_option maxRecDepth 100000 in
theorem c_Mo_isOn {Z : cz_Z} (l : Launch) (hI : jz_I (mz_G Z)) {a1 : Int32} {a2 : Int32} {m : jz_M} {r : Int32} (h : f_Mo_isOn a1 a2 m = some r) : jz_m l y_Mo_isOn cd_Mo_isOn rm_Mo_isOn (mz_G Z) [.ref (gz_ad (mz_G Z) 0), .int a1, .int a2] m (some (.int r)) m := by
  refine jz_met (own := R_Mo) (by decide) rfl hI (Nat.le_of_ble_eq_true rfl) (fun X hX C => ?_)
  subst hX
  show jz_J X 3 (mz_G Z) _ m [(0, .ref (gz_ad (mz_G Z) 0)), (1, .int a1), (2, .int a2)] 0 []
  unfold f_Mo_isOn at h
  refine jr_aload_n 0 C d_Mo_isOn_0 rfl ?_
  refine gf_Mo_20 1 C d_Mo_isOn_1 ?_
  refine jr_bipush 4 6 C d_Mo_isOn_4 (by decide) ?_
  refine jr_iload_n 6 C d_Mo_isOn_6 rfl ?_
  refine jr_imul 7 C d_Mo_isOn_7 ?_
  refine jr_iload_n 8 C d_Mo_isOn_8 rfl ?_
  refine jr_iadd 9 C d_Mo_isOn_9 ?_
  obtain ⟨j1_, ej1_, h⟩ := jz_b h
  refine jr_iald 10 C d_Mo_isOn_10 zk_Mo_metric ej1_ ?_
  refine jr_if_le 11 18 C d_Mo_isOn_11 (by decide) (fun c2_ => ?_) (fun c2_ => ?_)
  · have h := jz_t c2_ h
    refine jr_iconst 18 0 C d_Mo_isOn_18 (by decide) ?_
    obtain rfl := Option.some.inj h
    exact jr_zret 19 (v := 0) C d_Mo_isOn_19 rfl nb_0
  · have h := jz_f c2_ h
    refine jr_iconst 14 1 C d_Mo_isOn_14 (by decide) ?_
    refine jr_goto 15 19 C d_Mo_isOn_15 (by decide) ?_
    obtain rfl := Option.some.inj h
    exact jr_zret 19 (v := 1) C d_Mo_isOn_19 rfl nb_1
abbrev rm_Mo_circuits : Room := { frames := 1, cells := 0, slots := 0, locals := 22 }
abbrev cd_Mo_circuits : Cond := .code y_Mo_circuits b_Mo_circuits 4 (some .int)
def f_Mo_circuits_4 (m : jz_M) : Nat → Int32 → Int32 → Int32 → Option (Int32)
  | 0, _, _, _ => none
  | fu + 1, x1, x2, x3 =>
    if 6 ≤ x3 then
      some x2
    else
      (f_Mo_isOn x1 x3 m).bind fun v2_ =>
      if v2_ = 0 then
        jz_n (x2 ||| 0) fun x4_ =>
        jz_n (x3 + 1) fun x5_ =>
        f_Mo_circuits_4 m fu x1 x4_ x5_
      else
        jz_n (x2 ||| ((1 : Int32) <<< (x3 &&& 31))) fun x6_ =>
        jz_n (x3 + 1) fun x7_ =>
        f_Mo_circuits_4 m fu x1 x6_ x7_
set_option maxHeartbeats 4000000 in
set_option maxRecDepth 100000 in
theorem t_Mo_circuits_4 {Z : cz_Z} {X : jz_X} {m : jz_M} {r : Int32} (C : jz_C X 4 b_Mo_circuits R_Mo (some .int) rm_Mo_circuits (mz_G Z)) : ∀ (fu : Nat) (x1 : Int32) (x2 : Int32) (x3 : Int32) , f_Mo_circuits_4 m fu x1 x2 x3 = some r → jz_J X 4 (mz_G Z) (jz_q X (mz_G Z) (some (.int r)) m) m [(0, .ref (gz_ad (mz_G Z) 0)), (1, .int x1), (2, .int x2), (3, .int x3)] 4 [] := by
  intro fu
  induction fu with
  | zero => intro x1 x2 x3 h; cases h
  | succ fu ih =>
    intro x1 x2 x3 h
    rw [f_Mo_circuits_4] at h
    refine jr_iload_n 4 C d_Mo_circuits_4 rfl ?_
    refine jr_bipush 5 6 C d_Mo_circuits_5 (by decide) ?_
    refine jr_icmp_ge 7 35 C d_Mo_circuits_7 (by decide) (fun c1_ => ?_) (fun c1_ => ?_)
    · have h := jz_t c1_ h
      refine jr_iload_n 35 C d_Mo_circuits_35 rfl ?_
      obtain rfl := Option.some.inj h
      exact jr_iret 36 (v := x2) C d_Mo_circuits_36 rfl
    · have h := jz_f c1_ h
      refine jr_iload_n 10 C d_Mo_circuits_10 rfl ?_
      refine jr_aload_n 11 C d_Mo_circuits_11 rfl ?_
      refine jr_iload_n 12 C d_Mo_circuits_12 rfl ?_
      refine jr_iload_n 13 C d_Mo_circuits_13 rfl ?_
      obtain ⟨v2_, ev2_, h⟩ := jz_b h
      refine jr_callV 14 [.int x1, .int x3] C d_Mo_circuits_14 (c_Mo_isOn (xz_l X) C.2.2.2.2.2.2.1  ev2_) sz_Mo_isOn tz_Mo_isOn lk_Mo_75 oz_Mo rfl (by decide) rfl rfl (Nat.le_of_ble_eq_true rfl) rfl ?_
      refine jr_if_eq 17 26 C d_Mo_circuits_17 (by decide) (fun c3_ => ?_) (fun c3_ => ?_)
      · have h := jz_t c3_ h
        refine jr_iconst 26 0 C d_Mo_circuits_26 (by decide) ?_
        refine jr_ior 27 C d_Mo_circuits_27 ?_
        obtain ⟨x4_, ex4_, h⟩ := jz_ne h
        refine jr_top ex4_ ?_
        refine jr_istore_n 28 [(0, .ref (gz_ad (mz_G Z) 0)), (1, .int x1), (2, .int x4_), (3, .int x3)] C d_Mo_circuits_28 rfl (by decide) rfl ?_
        obtain ⟨x5_, ex5_, h⟩ := jz_ne h
        refine jr_iinc 29 [(0, .ref (gz_ad (mz_G Z) 0)), (1, .int x1), (2, .int x4_), (3, .int x5_)] C d_Mo_circuits_29 rfl (by decide) rfl (by rw [ex5_]; rfl) rfl ?_
        refine jr_goto 32 4 C d_Mo_circuits_32 (by decide) ?_
        refine jr_sub [0, 1, 2, 3] rfl ?_
        exact ih x1 x4_ x5_  h
      · have h := jz_f c3_ h
        refine jr_iconst 20 1 C d_Mo_circuits_20 (by decide) ?_
        refine jr_iload_n 21 C d_Mo_circuits_21 rfl ?_
        refine jr_ishl 22 C d_Mo_circuits_22 ?_
        refine jr_goto 23 27 C d_Mo_circuits_23 (by decide) ?_
        refine jr_ior 27 C d_Mo_circuits_27 ?_
        obtain ⟨x6_, ex6_, h⟩ := jz_ne h
        refine jr_top ex6_ ?_
        refine jr_istore_n 28 [(0, .ref (gz_ad (mz_G Z) 0)), (1, .int x1), (2, .int x6_), (3, .int x3)] C d_Mo_circuits_28 rfl (by decide) rfl ?_
        obtain ⟨x7_, ex7_, h⟩ := jz_ne h
        refine jr_iinc 29 [(0, .ref (gz_ad (mz_G Z) 0)), (1, .int x1), (2, .int x6_), (3, .int x7_)] C d_Mo_circuits_29 rfl (by decide) rfl (by rw [ex7_]; rfl) rfl ?_
        refine jr_goto 32 4 C d_Mo_circuits_32 (by decide) ?_
        refine jr_sub [0, 1, 2, 3] rfl ?_
        exact ih x1 x6_ x7_  h
def f_Mo_circuits (a1 : Int32) (m : jz_M) : Option (Int32) :=
  f_Mo_circuits_4 m 1000000 a1 0 0
set_option maxHeartbeats 4000000 in
set_option maxRecDepth 100000 in
theorem c_Mo_circuits {Z : cz_Z} (l : Launch) (hI : jz_I (mz_G Z)) {a1 : Int32} {m : jz_M} {r : Int32} (h : f_Mo_circuits a1 m = some r) : jz_m l y_Mo_circuits cd_Mo_circuits rm_Mo_circuits (mz_G Z) [.ref (gz_ad (mz_G Z) 0), .int a1] m (some (.int r)) m := by
  refine jz_met (own := R_Mo) (by decide) rfl hI (Nat.le_of_ble_eq_true rfl) (fun X hX C => ?_)
  subst hX
  show jz_J X 4 (mz_G Z) _ m [(0, .ref (gz_ad (mz_G Z) 0)), (1, .int a1)] 0 []
  unfold f_Mo_circuits at h
  refine jr_iconst 0 0 C d_Mo_circuits_0 (by decide) ?_
  refine jr_istore_n 1 [(0, .ref (gz_ad (mz_G Z) 0)), (1, .int a1), (2, .int 0)] C d_Mo_circuits_1 rfl (by decide) rfl ?_
  refine jr_iconst 2 0 C d_Mo_circuits_2 (by decide) ?_
  refine jr_istore_n 3 [(0, .ref (gz_ad (mz_G Z) 0)), (1, .int a1), (2, .int 0), (3, .int 0)] C d_Mo_circuits_3 rfl (by decide) rfl ?_
  refine jr_sub [0, 1, 2, 3] rfl ?_
  exact t_Mo_circuits_4 C 1000000 a1 0 0 h
abbrev rm_Mo_attached : Room := { frames := 1, cells := 0, slots := 0, locals := 22 }
abbrev cd_Mo_attached : Cond := .code y_Mo_attached b_Mo_attached 4 (some .int)
def f_Mo_attached_4 (m : jz_M) : Nat → Int32 → Int32 → Int32 → Option (Int32)
  | 0, _, _, _ => none
  | fu + 1, x1, x2, x3 =>
    if 6 ≤ x3 then
      some x2
    else
      (f_Mo_isOn x3 x1 m).bind fun v2_ =>
      if v2_ = 0 then
        jz_n (x2 + 0) fun x4_ =>
        jz_n (x3 + 1) fun x5_ =>
        f_Mo_attached_4 m fu x1 x4_ x5_
      else
        jz_n (x2 + 1) fun x6_ =>
        jz_n (x3 + 1) fun x7_ =>
        f_Mo_attached_4 m fu x1 x6_ x7_
set_option maxHeartbeats 4000000 in
set_option maxRecDepth 100000 in
theorem t_Mo_attached_4 {Z : cz_Z} {X : jz_X} {m : jz_M} {r : Int32} (C : jz_C X 4 b_Mo_attached R_Mo (some .int) rm_Mo_attached (mz_G Z)) : ∀ (fu : Nat) (x1 : Int32) (x2 : Int32) (x3 : Int32) , f_Mo_attached_4 m fu x1 x2 x3 = some r → jz_J X 4 (mz_G Z) (jz_q X (mz_G Z) (some (.int r)) m) m [(0, .ref (gz_ad (mz_G Z) 0)), (1, .int x1), (2, .int x2), (3, .int x3)] 4 [] := by
  intro fu
  induction fu with
  | zero => intro x1 x2 x3 h; cases h
  | succ fu ih =>
    intro x1 x2 x3 h
    rw [f_Mo_attached_4] at h
    refine jr_iload_n 4 C d_Mo_attached_4 rfl ?_
    refine jr_bipush 5 6 C d_Mo_attached_5 (by decide) ?_
    refine jr_icmp_ge 7 33 C d_Mo_attached_7 (by decide) (fun c1_ => ?_) (fun c1_ => ?_)
    · have h := jz_t c1_ h
      refine jr_iload_n 33 C d_Mo_attached_33 rfl ?_
      obtain rfl := Option.some.inj h
      exact jr_iret 34 (v := x2) C d_Mo_attached_34 rfl
    · have h := jz_f c1_ h
      refine jr_iload_n 10 C d_Mo_attached_10 rfl ?_
      refine jr_aload_n 11 C d_Mo_attached_11 rfl ?_
      refine jr_iload_n 12 C d_Mo_attached_12 rfl ?_
      refine jr_iload_n 13 C d_Mo_attached_13 rfl ?_
      obtain ⟨v2_, ev2_, h⟩ := jz_b h
      refine jr_callV 14 [.int x3, .int x1] C d_Mo_attached_14 (c_Mo_isOn (xz_l X) C.2.2.2.2.2.2.1  ev2_) sz_Mo_isOn tz_Mo_isOn lk_Mo_75 oz_Mo rfl (by decide) rfl rfl (Nat.le_of_ble_eq_true rfl) rfl ?_
      refine jr_if_eq 17 24 C d_Mo_attached_17 (by decide) (fun c3_ => ?_) (fun c3_ => ?_)
      · have h := jz_t c3_ h
        refine jr_iconst 24 0 C d_Mo_attached_24 (by decide) ?_
        refine jr_iadd 25 C d_Mo_attached_25 ?_
        obtain ⟨x4_, ex4_, h⟩ := jz_ne h
        refine jr_top ex4_ ?_
        refine jr_istore_n 26 [(0, .ref (gz_ad (mz_G Z) 0)), (1, .int x1), (2, .int x4_), (3, .int x3)] C d_Mo_attached_26 rfl (by decide) rfl ?_
        obtain ⟨x5_, ex5_, h⟩ := jz_ne h
        refine jr_iinc 27 [(0, .ref (gz_ad (mz_G Z) 0)), (1, .int x1), (2, .int x4_), (3, .int x5_)] C d_Mo_attached_27 rfl (by decide) rfl (by rw [ex5_]; rfl) rfl ?_
        refine jr_goto 30 4 C d_Mo_attached_30 (by decide) ?_
        refine jr_sub [0, 1, 2, 3] rfl ?_
        exact ih x1 x4_ x5_  h
      · have h := jz_f c3_ h
        refine jr_iconst 20 1 C d_Mo_attached_20 (by decide) ?_
        refine jr_goto 21 25 C d_Mo_attached_21 (by decide) ?_
        refine jr_iadd 25 C d_Mo_attached_25 ?_
        obtain ⟨x6_, ex6_, h⟩ := jz_ne h
        refine jr_top ex6_ ?_
        refine jr_istore_n 26 [(0, .ref (gz_ad (mz_G Z) 0)), (1, .int x1), (2, .int x6_), (3, .int x3)] C d_Mo_attached_26 rfl (by decide) rfl ?_
        obtain ⟨x7_, ex7_, h⟩ := jz_ne h
        refine jr_iinc 27 [(0, .ref (gz_ad (mz_G Z) 0)), (1, .int x1), (2, .int x6_), (3, .int x7_)] C d_Mo_attached_27 rfl (by decide) rfl (by rw [ex7_]; rfl) rfl ?_
        refine jr_goto 30 4 C d_Mo_attached_30 (by decide) ?_
        refine jr_sub [0, 1, 2, 3] rfl ?_
        exact ih x1 x6_ x7_  h
def f_Mo_attached (a1 : Int32) (m : jz_M) : Option (Int32) :=
  f_Mo_attached_4 m 1000000 a1 0 0
set_option maxHeartbeats 4000000 in
set_option maxRecDepth 100000 in
theorem c_Mo_attached {Z : cz_Z} (l : Launch) (hI : jz_I (mz_G Z)) {a1 : Int32} {m : jz_M} {r : Int32} (h : f_Mo_attached a1 m = some r) : jz_m l y_Mo_attached cd_Mo_attached rm_Mo_attached (mz_G Z) [.ref (gz_ad (mz_G Z) 0), .int a1] m (some (.int r)) m := by
  refine jz_met (own := R_Mo) (by decide) rfl hI (Nat.le_of_ble_eq_true rfl) (fun X hX C => ?_)
  subst hX
  show jz_J X 4 (mz_G Z) _ m [(0, .ref (gz_ad (mz_G Z) 0)), (1, .int a1)] 0 []
  unfold f_Mo_attached at h
  refine jr_iconst 0 0 C d_Mo_attached_0 (by decide) ?_
  refine jr_istore_n 1 [(0, .ref (gz_ad (mz_G Z) 0)), (1, .int a1), (2, .int 0)] C d_Mo_attached_1 rfl (by decide) rfl ?_
  refine jr_iconst 2 0 C d_Mo_attached_2 (by decide) ?_
  refine jr_istore_n 3 [(0, .ref (gz_ad (mz_G Z) 0)), (1, .int a1), (2, .int 0), (3, .int 0)] C d_Mo_attached_3 rfl (by decide) rfl ?_
  refine jr_sub [0, 1, 2, 3] rfl ?_
  exact t_Mo_attached_4 C 1000000 a1 0 0 h
abbrev rm_Mo_isShared : Room := { frames := 2, cells := 0, slots := 0, locals := 45 }
abbrev cd_Mo_isShared : Cond := .code y_Mo_isShared b_Mo_isShared 2 (some .boolean)
def f_Mo_isShared (a1 : Int32) (m : jz_M) : Option (Int32) :=
  (f_Mo_attached a1 m).bind fun v1_ =>
  if v1_ ≤ 2 then
    some 0
  else
    some 1
set_option maxHeartbeats 4000000 in
set_option maxRecDepth 100000 in
theorem c_Mo_isShared {Z : cz_Z} (l : Launch) (hI : jz_I (mz_G Z)) {a1 : Int32} {m : jz_M} {r : Int32} (h : f_Mo_isShared a1 m = some r) : jz_m l y_Mo_isShared cd_Mo_isShared rm_Mo_isShared (mz_G Z) [.ref (gz_ad (mz_G Z) 0), .int a1] m (some (.int r)) m := by
  refine jz_met (own := R_Mo) (by decide) rfl hI (Nat.le_of_ble_eq_true rfl) (fun X hX C => ?_)
  subst hX
  show jz_J X 2 (mz_G Z) _ m [(0, .ref (gz_ad (mz_G Z) 0)), (1, .int a1)] 0 []
  unfold f_Mo_isShared at h
  refine jr_aload_n 0 C d_Mo_isShared_0 rfl ?_
  refine jr_iload_n 1 C d_Mo_isShared_1 rfl ?_
  obtain ⟨v1_, ev1_, h⟩ := jz_b h
  refine jr_callV 2 [.int a1] C d_Mo_isShared_2 (c_Mo_attached (xz_l X) C.2.2.2.2.2.2.1 ev1_) sz_Mo_attached tz_Mo_attached lk_Mo_79 oz_Mo rfl (by decide) rfl rfl (Nat.le_of_ble_eq_true rfl) rfl ?_
  refine jr_iconst 5 2 C d_Mo_isShared_5 (by decide) ?_
  refine jr_icmp_le 6 13 C d_Mo_isShared_6 (by decide) (fun c2_ => ?_) (fun c2_ => ?_)
  · have h := jz_t c2_ h
    refine jr_iconst 13 0 C d_Mo_isShared_13 (by decide) ?_
    obtain rfl := Option.some.inj h
    exact jr_zret 14 (v := 0) C d_Mo_isShared_14 rfl nb_0
  · have h := jz_f c2_ h
    refine jr_iconst 9 1 C d_Mo_isShared_9 (by decide) ?_
    refine jr_goto 10 14 C d_Mo_isShared_10 (by decide) ?_
    obtain rfl := Option.some.inj h
    exact jr_zret 14 (v := 1) C d_Mo_isShared_14 rfl nb_1
abbrev rm_Mo_ear : Room := { frames := 0, cells := 0, slots := 0, locals := 0 }
abbrev cd_Mo_ear : Cond := .code y_Mo_ear b_Mo_ear 4 (some .int)
def f_Mo_ear (a0 : Int32) (a1 : Int32) (a2 : Int32) (a3 : Int32) (m : jz_M) : Option (Int32) :=
  some (((((216 : Int32) * (a2 - 1)) + ((36 : Int32) * a0)) + ((6 : Int32) * a1)) + a3)
set_option maxHeartbeats 4000000 in
set_option maxRecDepth 100000 in
theorem c_Mo_ear {Z : cz_Z} (l : Launch) (hI : jz_I (mz_G Z)) {a0 : Int32} {a1 : Int32} {a2 : Int32} {a3 : Int32} {m : jz_M} {r : Int32} (h : f_Mo_ear a0 a1 a2 a3 m = some r) : jz_m l y_Mo_ear cd_Mo_ear rm_Mo_ear (mz_G Z) [.int a0, .int a1, .int a2, .int a3] m (some (.int r)) m := by
  refine jz_met (own := R_Mo) (by decide) rfl hI (Nat.le_of_ble_eq_true rfl) (fun X hX C => ?_)
  subst hX
  show jz_J X 4 (mz_G Z) _ m [(0, .int a0), (1, .int a1), (2, .int a2), (3, .int a3)] 0 []
  unfold f_Mo_ear at h
  refine jr_sipush 0 216 C d_Mo_ear_0 (by decide) ?_
  refine jr_iload_n 3 C d_Mo_ear_3 rfl ?_
  refine jr_iconst 4 1 C d_Mo_ear_4 (by decide) ?_
  refine jr_isub 5 C d_Mo_ear_5 ?_
  refine jr_imul 6 C d_Mo_ear_6 ?_
  refine jr_bipush 7 36 C d_Mo_ear_7 (by decide) ?_
  refine jr_iload_n 9 C d_Mo_ear_9 rfl ?_
  refine jr_imul 10 C d_Mo_ear_10 ?_
  refine jr_iadd 11 C d_Mo_ear_11 ?_
  refine jr_bipush 12 6 C d_Mo_ear_12 (by decide) ?_
  refine jr_iload_n 14 C d_Mo_ear_14 rfl ?_
  refine jr_imul 15 C d_Mo_ear_15 ?_
  refine jr_iadd 16 C d_Mo_ear_16 ?_
  refine jr_iload_n 17 C d_Mo_ear_17 rfl ?_
  refine jr_iadd 18 C d_Mo_ear_18 ?_
  obtain rfl := Option.some.inj h
  exact jr_iret 19 (v := (((((216 : Int32) * (a2 - 1)) + ((36 : Int32) * a0)) + ((6 : Int32) * a1)) + a3)) C d_Mo_ear_19 rfl
abbrev rm_Mo_near : Room := { frames := 1, cells := 0, slots := 0, locals := 23 }
abbrev cd_Mo_near : Cond := .code y_Mo_near b_Mo_near 6 (some .boolean)
def f_Mo_near (a1 : Int32) (a2 : Int32) (a3 : Int32) (a4 : Int32) (m : jz_M) : Option (Int32) :=
  (f_Mo_ear a1 a2 a3 a4 m).bind fun v1_ =>
  (jz_ix 432 v1_).bind fun j2_ =>
  if (m 6 j2_) ≤ 0 then
    some 0
  else
    (jz_ix 432 v1_).bind fun j4_ =>
    if (m 7 j4_) = 0 then
      some 0
    else
      some 1
set_option maxHeartbeats 4000000 in
set_option maxRecDepth 100000 in
theorem c_Mo_near {Z : cz_Z} (l : Launch) (hI : jz_I (mz_G Z)) {a1 : Int32} {a2 : Int32} {a3 : Int32} {a4 : Int32} {m : jz_M} {r : Int32} (h : f_Mo_near a1 a2 a3 a4 m = some r) : jz_m l y_Mo_near cd_Mo_near rm_Mo_near (mz_G Z) [.ref (gz_ad (mz_G Z) 0), .int a1, .int a2, .int a3, .int a4] m (some (.int r)) m := by
  refine jz_met (own := R_Mo) (by decide) rfl hI (Nat.le_of_ble_eq_true rfl) (fun X hX C => ?_)
  subst hX
  show jz_J X 6 (mz_G Z) _ m [(0, .ref (gz_ad (mz_G Z) 0)), (1, .int a1), (2, .int a2), (3, .int a3), (4, .int a4)] 0 []
  unfold f_Mo_near at h
  refine jr_iload_n 0 C d_Mo_near_0 rfl ?_
  refine jr_iload_n 1 C d_Mo_near_1 rfl ?_
  refine jr_iload_n 2 C d_Mo_near_2 rfl ?_
  refine jr_iload 3 C d_Mo_near_3 rfl ?_
  obtain ⟨v1_, ev1_, h⟩ := jz_b h
  refine jr_callS 5 [.int a1, .int a2, .int a3, .int a4] C d_Mo_near_5 (c_Mo_ear (xz_l X) C.2.2.2.2.2.2.1 ev1_) sz_Mo_ear tz_Mo_ear lk_Mo_83 (by decide) rfl rfl (Nat.le_of_ble_eq_true rfl) rfl ?_
  refine jr_istore 8 [(0, .ref (gz_ad (mz_G Z) 0)), (1, .int a1), (2, .int a2), (3, .int a3), (4, .int a4), (5, .int v1_)] C d_Mo_near_8 rfl (by decide) rfl ?_
  refine jr_aload_n 10 C d_Mo_near_10 rfl ?_
  refine gf_Mo_26 11 C d_Mo_near_11 ?_
  refine jr_iload 14 C d_Mo_near_14 rfl ?_
  obtain ⟨j2_, ej2_, h⟩ := jz_b h
  refine jr_iald 16 C d_Mo_near_16 zk_Mo_heard ej2_ ?_
  refine jr_if_le 17 34 C d_Mo_near_17 (by decide) (fun c3_ => ?_) (fun c3_ => ?_)
  · have h := jz_t c3_ h
    refine jr_iconst 34 0 C d_Mo_near_34 (by decide) ?_
    obtain rfl := Option.some.inj h
    exact jr_zret 35 (v := 0) C d_Mo_near_35 rfl nb_0
  · have h := jz_f c3_ h
    refine jr_aload_n 20 C d_Mo_near_20 rfl ?_
    refine gf_Mo_29 21 C d_Mo_near_21 ?_
    refine jr_iload 24 C d_Mo_near_24 rfl ?_
    obtain ⟨j4_, ej4_, h⟩ := jz_b h
    refine jr_zald 26 C d_Mo_near_26 zk_Mo_named ej4_ ?_
    refine jr_if_eq 27 34 C d_Mo_near_27 (by decide) (fun c5_ => ?_) (fun c5_ => ?_)
    · have h := jz_t c5_ h
      refine jr_iconst 34 0 C d_Mo_near_34 (by decide) ?_
      obtain rfl := Option.some.inj h
      exact jr_zret 35 (v := 0) C d_Mo_near_35 rfl nb_0
    · have h := jz_f c5_ h
      refine jr_iconst 30 1 C d_Mo_near_30 (by decide) ?_
      refine jr_goto 31 35 C d_Mo_near_31 (by decide) ?_
      obtain rfl := Option.some.inj h
      exact jr_zret 35 (v := 1) C d_Mo_near_35 rfl nb_1
abbrev rm_Mo_anyNear : Room := { frames := 2, cells := 0, slots := 0, locals := 48 }
abbrev cd_Mo_anyNear : Cond := .code y_Mo_anyNear b_Mo_anyNear 6 (some .boolean)
def f_Mo_anyNear_30 (m : jz_M) (k6 : Int32 → Int32 → Int32 → Int32 → Int32 → Option (Int32)) (x1 : Int32) (x2 : Int32) (x3 : Int32) (x5 : Int32) : Option (Int32) :=
  jz_n (x5 + 1) fun x1_ =>
  k6 x1 x2 x3 1 x1_
set_option maxHeartbeats 4000000 in
set_option maxRecDepth 100000 in
theorem t_Mo_anyNear_30 {Z : cz_Z} {X : jz_X} {m : jz_M} {r : Int32} (C : jz_C X 6 b_Mo_anyNear R_Mo (some .boolean) rm_Mo_anyNear (mz_G Z)) (k6 : Int32 → Int32 → Int32 → Int32 → Int32 → Option (Int32)) (hk6 : ∀ (x1 : Int32) (x2 : Int32) (x3 : Int32) (x4 : Int32) (x5 : Int32), k6 x1 x2 x3 x4 x5 = some r → jz_J X 6 (mz_G Z) (jz_q X (mz_G Z) (some (.int r)) m) m [(0, .ref (gz_ad (mz_G Z) 0)), (1, .int x1), (2, .int x2), (3, .int x3), (4, .int x4), (5, .int x5)] 6 []) : ∀ (x1 : Int32) (x2 : Int32) (x3 : Int32) (x5 : Int32) , f_Mo_anyNear_30 m k6 x1 x2 x3 x5 = some r → jz_J X 6 (mz_G Z) (jz_q X (mz_G Z) (some (.int r)) m) m [(0, .ref (gz_ad (mz_G Z) 0)), (1, .int x1), (2, .int x2), (3, .int x3), (5, .int x5)] 30 [] := by
  intro x1 x2 x3 x5 h
  unfold f_Mo_anyNear_30 at h
  refine jr_iconst 30 1 C d_Mo_anyNear_30 (by decide) ?_
  refine jr_goto 31 35 C d_Mo_anyNear_31 (by decide) ?_
  refine jr_istore 35 [(0, .ref (gz_ad (mz_G Z) 0)), (1, .int x1), (2, .int x2), (3, .int x3), (5, .int x5), (4, .int 1)] C d_Mo_anyNear_35 rfl (by decide) rfl ?_
  obtain ⟨x1_, ex1_, h⟩ := jz_ne h
  refine jr_iinc 37 [(0, .ref (gz_ad (mz_G Z) 0)), (1, .int x1), (2, .int x2), (3, .int x3), (5, .int x1_), (4, .int 1)] C d_Mo_anyNear_37 rfl (by decide) rfl (by rw [ex1_]; rfl) rfl ?_
  refine jr_goto 40 6 C d_Mo_anyNear_40 (by decide) ?_
  refine jr_sub [0, 1, 2, 3, 5, 4] rfl ?_
  exact hk6 x1 x2 x3 1 x1_ h
def f_Mo_anyNear_6 (m : jz_M) : Nat → Int32 → Int32 → Int32 → Int32 → Int32 → Option (Int32)
  | 0, _, _, _, _, _ => none
  | fu + 1, x1, x2, x3, x4, x5 =>
    if 6 ≤ x5 then
      (jz_bo x4).bind fun b2_ =>
      some b2_
    else
      if ¬ x4 = 0 then
        f_Mo_anyNear_30 m (f_Mo_anyNear_6 m fu) x1 x2 x3 x5
      else
        (f_Mo_near x1 x2 x3 x5 m).bind fun v4_ =>
        if v4_ = 0 then
          jz_n (x5 + 1) fun x6_ =>
          f_Mo_anyNear_6 m fu x1 x2 x3 0 x6_
        else
          f_Mo_anyNear_30 m (f_Mo_anyNear_6 m fu) x1 x2 x3 x5
set_option maxHeartbeats 4000000 in
set_option maxRecDepth 100000 in
theorem t_Mo_anyNear_6 {Z : cz_Z} {X : jz_X} {m : jz_M} {r : Int32} (C : jz_C X 6 b_Mo_anyNear R_Mo (some .boolean) rm_Mo_anyNear (mz_G Z)) : ∀ (fu : Nat) (x1 : Int32) (x2 : Int32) (x3 : Int32) (x4 : Int32) (x5 : Int32) , f_Mo_anyNear_6 m fu x1 x2 x3 x4 x5 = some r → jz_J X 6 (mz_G Z) (jz_q X (mz_G Z) (some (.int r)) m) m [(0, .ref (gz_ad (mz_G Z) 0)), (1, .int x1), (2, .int x2), (3, .int x3), (4, .int x4), (5, .int x5)] 6 [] := by
  intro fu
  induction fu with
  | zero => intro x1 x2 x3 x4 x5 h; cases h
  | succ fu ih =>
    intro x1 x2 x3 x4 x5 h
    rw [f_Mo_anyNear_6] at h
    refine jr_iload 6 C d_Mo_anyNear_6 rfl ?_
    refine jr_bipush 8 6 C d_Mo_anyNear_8 (by decide) ?_
    refine jr_icmp_ge 10 43 C d_Mo_anyNear_10 (by decide) (fun c1_ => ?_) (fun c1_ => ?_)
    · have h := jz_t c1_ h
      refine jr_iload 43 C d_Mo_anyNear_43 rfl ?_
      obtain ⟨b2_, eb2_, h⟩ := jz_b h
      refine jr_top (jz_bo_eq eb2_) ?_
      obtain rfl := Option.some.inj h
      exact jr_zret 45 (v := b2_) C d_Mo_anyNear_45 rfl (jz_bo_n eb2_).1
    · have h := jz_f c1_ h
      refine jr_iload 13 C d_Mo_anyNear_13 rfl ?_
      refine jr_if_ne 15 30 C d_Mo_anyNear_15 (by decide) (fun c3_ => ?_) (fun c3_ => ?_)
      · have h := jz_t c3_ h
        refine jr_sub [0, 1, 2, 3, 5] rfl ?_
        exact t_Mo_anyNear_30 C (f_Mo_anyNear_6 m fu) ih x1 x2 x3 x5 h
      · have h := jz_f c3_ h
        refine jr_aload_n 18 C d_Mo_anyNear_18 rfl ?_
        refine jr_iload_n 19 C d_Mo_anyNear_19 rfl ?_
        refine jr_iload_n 20 C d_Mo_anyNear_20 rfl ?_
        refine jr_iload_n 21 C d_Mo_anyNear_21 rfl ?_
        refine jr_iload 22 C d_Mo_anyNear_22 rfl ?_
        obtain ⟨v4_, ev4_, h⟩ := jz_b h
        refine jr_callV 24 [.int x1, .int x2, .int x3, .int x5] C d_Mo_anyNear_24 (c_Mo_near (xz_l X) C.2.2.2.2.2.2.1  ev4_) sz_Mo_near tz_Mo_near lk_Mo_87 oz_Mo rfl (by decide) rfl rfl (Nat.le_of_ble_eq_true rfl) rfl ?_
        refine jr_if_eq 27 34 C d_Mo_anyNear_27 (by decide) (fun c5_ => ?_) (fun c5_ => ?_)
        · have h := jz_t c5_ h
          refine jr_iconst 34 0 C d_Mo_anyNear_34 (by decide) ?_
          refine jr_istore 35 [(0, .ref (gz_ad (mz_G Z) 0)), (1, .int x1), (2, .int x2), (3, .int x3), (4, .int 0), (5, .int x5)] C d_Mo_anyNear_35 rfl (by decide) rfl ?_
          obtain ⟨x6_, ex6_, h⟩ := jz_ne h
          refine jr_iinc 37 [(0, .ref (gz_ad (mz_G Z) 0)), (1, .int x1), (2, .int x2), (3, .int x3), (4, .int 0), (5, .int x6_)] C d_Mo_anyNear_37 rfl (by decide) rfl (by rw [ex6_]; rfl) rfl ?_
          refine jr_goto 40 6 C d_Mo_anyNear_40 (by decide) ?_
          refine jr_sub [0, 1, 2, 3, 4, 5] rfl ?_
          exact ih x1 x2 x3 0 x6_  h
        · have h := jz_f c5_ h
          refine jr_sub [0, 1, 2, 3, 5] rfl ?_
          exact t_Mo_anyNear_30 C (f_Mo_anyNear_6 m fu) ih x1 x2 x3 x5 h
def f_Mo_anyNear (a1 : Int32) (a2 : Int32) (a3 : Int32) (m : jz_M) : Option (Int32) :=
  f_Mo_anyNear_6 m 1000000 a1 a2 a3 0 0
set_option maxHeartbeats 4000000 in
set_option maxRecDepth 100000 in
theorem c_Mo_anyNear {Z : cz_Z} (l : Launch) (hI : jz_I (mz_G Z)) {a1 : Int32} {a2 : Int32} {a3 : Int32} {m : jz_M} {r : Int32} (h : f_Mo_anyNear a1 a2 a3 m = some r) : jz_m l y_Mo_anyNear cd_Mo_anyNear rm_Mo_anyNear (mz_G Z) [.ref (gz_ad (mz_G Z) 0), .int a1, .int a2, .int a3] m (some (.int r)) m := by
  refine jz_met (own := R_Mo) (by decide) rfl hI (Nat.le_of_ble_eq_true rfl) (fun X hX C => ?_)
  subst hX
  show jz_J X 6 (mz_G Z) _ m [(0, .ref (gz_ad (mz_G Z) 0)), (1, .int a1), (2, .int a2), (3, .int a3)] 0 []
  unfold f_Mo_anyNear at h
  refine jr_iconst 0 0 C d_Mo_anyNear_0 (by decide) ?_
  refine jr_istore 1 [(0, .ref (gz_ad (mz_G Z) 0)), (1, .int a1), (2, .int a2), (3, .int a3), (4, .int 0)] C d_Mo_anyNear_1 rfl (by decide) rfl ?_
  refine jr_iconst 3 0 C d_Mo_anyNear_3 (by decide) ?_
  refine jr_istore 4 [(0, .ref (gz_ad (mz_G Z) 0)), (1, .int a1), (2, .int a2), (3, .int a3), (4, .int 0), (5, .int 0)] C d_Mo_anyNear_4 rfl (by decide) rfl ?_
  refine jr_sub [0, 1, 2, 3, 4, 5] rfl ?_
  exact t_Mo_anyNear_6 C 1000000 a1 a2 a3 0 0 h
abbrev rm_Mo_speakerOf : Room := { frames := 2, cells := 0, slots := 0, locals := 48 }
abbrev cd_Mo_speakerOf : Cond := .code y_Mo_speakerOf b_Mo_speakerOf 8 (some .int)
def f_Mo_speakerOf_74 (m : jz_M) (k6 : Int32 → Int32 → Int32 → Int32 → Int32 → Option (Int32)) (x1 : Int32) (x2 : Int32) (x3 : Int32) (x5 : Int32) : Option (Int32) :=
  jz_n (x5 + 1) fun x1_ =>
  k6 x1 x2 x3 x5 x1_
set_option maxHeartbeats 4000000 in
set_option maxRecDepth 100000 in
theorem t_Mo_speakerOf_74 {Z : cz_Z} {X : jz_X} {m : jz_M} {r : Int32} (C : jz_C X 8 b_Mo_speakerOf R_Mo (some .int) rm_Mo_speakerOf (mz_G Z)) (k6 : Int32 → Int32 → Int32 → Int32 → Int32 → Option (Int32)) (hk6 : ∀ (x1 : Int32) (x2 : Int32) (x3 : Int32) (x4 : Int32) (x5 : Int32), k6 x1 x2 x3 x4 x5 = some r → jz_J X 8 (mz_G Z) (jz_q X (mz_G Z) (some (.int r)) m) m [(0, .ref (gz_ad (mz_G Z) 0)), (1, .int x1), (2, .int x2), (3, .int x3), (4, .int x4), (5, .int x5)] 6 []) : ∀ (x1 : Int32) (x2 : Int32) (x3 : Int32) (x5 : Int32) , f_Mo_speakerOf_74 m k6 x1 x2 x3 x5 = some r → jz_J X 8 (mz_G Z) (jz_q X (mz_G Z) (some (.int r)) m) m [(0, .ref (gz_ad (mz_G Z) 0)), (1, .int x1), (2, .int x2), (3, .int x3), (5, .int x5)] 74 [] := by
  intro x1 x2 x3 x5 h
  unfold f_Mo_speakerOf_74 at h
  refine jr_iload 74 C d_Mo_speakerOf_74 rfl ?_
  refine jr_goto 76 81 C d_Mo_speakerOf_76 (by decide) ?_
  refine jr_istore 81 [(0, .ref (gz_ad (mz_G Z) 0)), (1, .int x1), (2, .int x2), (3, .int x3), (5, .int x5), (4, .int x5)] C d_Mo_speakerOf_81 rfl (by decide) rfl ?_
  obtain ⟨x1_, ex1_, h⟩ := jz_ne h
  refine jr_iinc 83 [(0, .ref (gz_ad (mz_G Z) 0)), (1, .int x1), (2, .int x2), (3, .int x3), (5, .int x1_), (4, .int x5)] C d_Mo_speakerOf_83 rfl (by decide) rfl (by rw [ex1_]; rfl) rfl ?_
  refine jr_goto 86 6 C d_Mo_speakerOf_86 (by decide) ?_
  refine jr_sub [0, 1, 2, 3, 5, 4] rfl ?_
  exact hk6 x1 x2 x3 x5 x1_ h
def f_Mo_speakerOf_6 (m : jz_M) : Nat → Int32 → Int32 → Int32 → Int32 → Int32 → Option (Int32)
  | 0, _, _, _, _, _ => none
  | fu + 1, x1, x2, x3, x4, x5 =>
    if 6 ≤ x5 then
      some x4
    else
      (f_Mo_near x1 x2 x3 x5 m).bind fun v2_ =>
      if v2_ = 0 then
        jz_n (x5 + 1) fun x4_ =>
        f_Mo_speakerOf_6 m fu x1 x2 x3 x4 x4_
      else
        (jz_ix 36 (((6 : Int32) * x5) + x2)).bind fun j5_ =>
        jz_n (m 5 j5_) fun x6_ =>
        (jz_ix 36 (((6 : Int32) * x4) + x2)).bind fun j7_ =>
        jz_n (m 5 j7_) fun x8_ =>
        if x8_ < x6_ then
          f_Mo_speakerOf_74 m (f_Mo_speakerOf_6 m fu) x1 x2 x3 x5
        else
          if ¬ x6_ = x8_ then
            jz_n (x5 + 1) fun x11_ =>
            f_Mo_speakerOf_6 m fu x1 x2 x3 x4 x11_
          else
            if x5 ≤ x4 then
              jz_n (x5 + 1) fun x13_ =>
              f_Mo_speakerOf_6 m fu x1 x2 x3 x4 x13_
            else
              f_Mo_speakerOf_74 m (f_Mo_speakerOf_6 m fu) x1 x2 x3 x5
set_option maxHeartbeats 4000000 in
set_option maxRecDepth 100000 in
theorem t_Mo_speakerOf_6 {Z : cz_Z} {X : jz_X} {m : jz_M} {r : Int32} (C : jz_C X 8 b_Mo_speakerOf R_Mo (some .int) rm_Mo_speakerOf (mz_G Z)) : ∀ (fu : Nat) (x1 : Int32) (x2 : Int32) (x3 : Int32) (x4 : Int32) (x5 : Int32) , f_Mo_speakerOf_6 m fu x1 x2 x3 x4 x5 = some r → jz_J X 8 (mz_G Z) (jz_q X (mz_G Z) (some (.int r)) m) m [(0, .ref (gz_ad (mz_G Z) 0)), (1, .int x1), (2, .int x2), (3, .int x3), (4, .int x4), (5, .int x5)] 6 [] := by
  intro fu
  induction fu with
  | zero => intro x1 x2 x3 x4 x5 h; cases h
  | succ fu ih =>
    intro x1 x2 x3 x4 x5 h
    rw [f_Mo_speakerOf_6] at h
    refine jr_iload 6 C d_Mo_speakerOf_6 rfl ?_
    refine jr_bipush 8 6 C d_Mo_speakerOf_8 (by decide) ?_
    refine jr_icmp_ge 10 89 C d_Mo_speakerOf_10 (by decide) (fun c1_ => ?_) (fun c1_ => ?_)
    · have h := jz_t c1_ h
      refine jr_iload 89 C d_Mo_speakerOf_89 rfl ?_
      obtain rfl := Option.some.inj h
      exact jr_iret 91 (v := x4) C d_Mo_speakerOf_91 rfl
    · have h := jz_f c1_ h
      refine jr_aload_n 13 C d_Mo_speakerOf_13 rfl ?_
      refine jr_iload_n 14 C d_Mo_speakerOf_14 rfl ?_
      refine jr_iload_n 15 C d_Mo_speakerOf_15 rfl ?_
      refine jr_iload_n 16 C d_Mo_speakerOf_16 rfl ?_
      refine jr_iload 17 C d_Mo_speakerOf_17 rfl ?_
      obtain ⟨v2_, ev2_, h⟩ := jz_b h
      refine jr_callV 19 [.int x1, .int x2, .int x3, .int x5] C d_Mo_speakerOf_19 (c_Mo_near (xz_l X) C.2.2.2.2.2.2.1  ev2_) sz_Mo_near tz_Mo_near lk_Mo_87 oz_Mo rfl (by decide) rfl rfl (Nat.le_of_ble_eq_true rfl) rfl ?_
      refine jr_if_eq 22 83 C d_Mo_speakerOf_22 (by decide) (fun c3_ => ?_) (fun c3_ => ?_)
      · have h := jz_t c3_ h
        obtain ⟨x4_, ex4_, h⟩ := jz_ne h
        refine jr_iinc 83 [(0, .ref (gz_ad (mz_G Z) 0)), (1, .int x1), (2, .int x2), (3, .int x3), (4, .int x4), (5, .int x4_)] C d_Mo_speakerOf_83 rfl (by decide) rfl (by rw [ex4_]; rfl) rfl ?_
        refine jr_goto 86 6 C d_Mo_speakerOf_86 (by decide) ?_
        refine jr_sub [0, 1, 2, 3, 4, 5] rfl ?_
        exact ih x1 x2 x3 x4 x4_  h
      · have h := jz_f c3_ h
        refine jr_aload_n 25 C d_Mo_speakerOf_25 rfl ?_
        refine gf_Mo_23 26 C d_Mo_speakerOf_26 ?_
        refine jr_bipush 29 6 C d_Mo_speakerOf_29 (by decide) ?_
        refine jr_iload 31 C d_Mo_speakerOf_31 rfl ?_
        refine jr_imul 33 C d_Mo_speakerOf_33 ?_
        refine jr_iload_n 34 C d_Mo_speakerOf_34 rfl ?_
        refine jr_iadd 35 C d_Mo_speakerOf_35 ?_
        obtain ⟨j5_, ej5_, h⟩ := jz_b h
        refine jr_iald 36 C d_Mo_speakerOf_36 zk_Mo_priority ej5_ ?_
        obtain ⟨x6_, ex6_, h⟩ := jz_ne h
        refine jr_top ex6_ ?_
        refine jr_istore 37 [(0, .ref (gz_ad (mz_G Z) 0)), (1, .int x1), (2, .int x2), (3, .int x3), (4, .int x4), (5, .int x5), (6, .int x6_)] C d_Mo_speakerOf_37 rfl (by decide) rfl ?_
        refine jr_aload_n 39 C d_Mo_speakerOf_39 rfl ?_
        refine gf_Mo_23 40 C d_Mo_speakerOf_40 ?_
        refine jr_bipush 43 6 C d_Mo_speakerOf_43 (by decide) ?_
        refine jr_iload 45 C d_Mo_speakerOf_45 rfl ?_
        refine jr_imul 47 C d_Mo_speakerOf_47 ?_
        refine jr_iload_n 48 C d_Mo_speakerOf_48 rfl ?_
        refine jr_iadd 49 C d_Mo_speakerOf_49 ?_
        obtain ⟨j7_, ej7_, h⟩ := jz_b h
        refine jr_iald 50 C d_Mo_speakerOf_50 zk_Mo_priority ej7_ ?_
        obtain ⟨x8_, ex8_, h⟩ := jz_ne h
        refine jr_top ex8_ ?_
        refine jr_istore 51 [(0, .ref (gz_ad (mz_G Z) 0)), (1, .int x1), (2, .int x2), (3, .int x3), (4, .int x4), (5, .int x5), (6, .int x6_), (7, .int x8_)] C d_Mo_speakerOf_51 rfl (by decide) rfl ?_
        refine jr_iload 53 C d_Mo_speakerOf_53 rfl ?_
        refine jr_iload 55 C d_Mo_speakerOf_55 rfl ?_
        refine jr_icmp_gt 57 74 C d_Mo_speakerOf_57 (by decide) (fun c9_ => ?_) (fun c9_ => ?_)
        · have h := jz_t c9_ h
          refine jr_sub [0, 1, 2, 3, 5] rfl ?_
          exact t_Mo_speakerOf_74 C (f_Mo_speakerOf_6 m fu) ih x1 x2 x3 x5 h
        · have h := jz_f c9_ h
          refine jr_iload 60 C d_Mo_speakerOf_60 rfl ?_
          refine jr_iload 62 C d_Mo_speakerOf_62 rfl ?_
          refine jr_icmp_ne 64 79 C d_Mo_speakerOf_64 (by decide) (fun c10_ => ?_) (fun c10_ => ?_)
          · have h := jz_t c10_ h
            refine jr_iload 79 C d_Mo_speakerOf_79 rfl ?_
            refine jr_istore 81 [(0, .ref (gz_ad (mz_G Z) 0)), (1, .int x1), (2, .int x2), (3, .int x3), (4, .int x4), (5, .int x5), (6, .int x6_), (7, .int x8_)] C d_Mo_speakerOf_81 rfl (by decide) rfl ?_
            obtain ⟨x11_, ex11_, h⟩ := jz_ne h
            refine jr_iinc 83 [(0, .ref (gz_ad (mz_G Z) 0)), (1, .int x1), (2, .int x2), (3, .int x3), (4, .int x4), (5, .int x11_), (6, .int x6_), (7, .int x8_)] C d_Mo_speakerOf_83 rfl (by decide) rfl (by rw [ex11_]; rfl) rfl ?_
            refine jr_goto 86 6 C d_Mo_speakerOf_86 (by decide) ?_
            refine jr_sub [0, 1, 2, 3, 4, 5] rfl ?_
            exact ih x1 x2 x3 x4 x11_  h
          · have h := jz_f c10_ h
            refine jr_iload 67 C d_Mo_speakerOf_67 rfl ?_
            refine jr_iload 69 C d_Mo_speakerOf_69 rfl ?_
            refine jr_icmp_le 71 79 C d_Mo_speakerOf_71 (by decide) (fun c12_ => ?_) (fun c12_ => ?_)
            · have h := jz_t c12_ h
              refine jr_iload 79 C d_Mo_speakerOf_79 rfl ?_
              refine jr_istore 81 [(0, .ref (gz_ad (mz_G Z) 0)), (1, .int x1), (2, .int x2), (3, .int x3), (4, .int x4), (5, .int x5), (6, .int x6_), (7, .int x8_)] C d_Mo_speakerOf_81 rfl (by decide) rfl ?_
              obtain ⟨x13_, ex13_, h⟩ := jz_ne h
              refine jr_iinc 83 [(0, .ref (gz_ad (mz_G Z) 0)), (1, .int x1), (2, .int x2), (3, .int x3), (4, .int x4), (5, .int x13_), (6, .int x6_), (7, .int x8_)] C d_Mo_speakerOf_83 rfl (by decide) rfl (by rw [ex13_]; rfl) rfl ?_
              refine jr_goto 86 6 C d_Mo_speakerOf_86 (by decide) ?_
              refine jr_sub [0, 1, 2, 3, 4, 5] rfl ?_
              exact ih x1 x2 x3 x4 x13_  h
            · have h := jz_f c12_ h
              refine jr_sub [0, 1, 2, 3, 5] rfl ?_
              exact t_Mo_speakerOf_74 C (f_Mo_speakerOf_6 m fu) ih x1 x2 x3 x5 h
def f_Mo_speakerOf (a1 : Int32) (a2 : Int32) (a3 : Int32) (m : jz_M) : Option (Int32) :=
  f_Mo_speakerOf_6 m 1000000 a1 a2 a3 a1 0
set_option maxHeartbeats 4000000 in
set_option maxRecDepth 100000 in
theorem c_Mo_speakerOf {Z : cz_Z} (l : Launch) (hI : jz_I (mz_G Z)) {a1 : Int32} {a2 : Int32} {a3 : Int32} {m : jz_M} {r : Int32} (h : f_Mo_speakerOf a1 a2 a3 m = some r) : jz_m l y_Mo_speakerOf cd_Mo_speakerOf rm_Mo_speakerOf (mz_G Z) [.ref (gz_ad (mz_G Z) 0), .int a1, .int a2, .int a3] m (some (.int r)) m := by
  refine jz_met (own := R_Mo) (by decide) rfl hI (Nat.le_of_ble_eq_true rfl) (fun X hX C => ?_)
  subst hX
  show jz_J X 8 (mz_G Z) _ m [(0, .ref (gz_ad (mz_G Z) 0)), (1, .int a1), (2, .int a2), (3, .int a3)] 0 []
  unfold f_Mo_speakerOf at h
  refine jr_iload_n 0 C d_Mo_speakerOf_0 rfl ?_
  refine jr_istore 1 [(0, .ref (gz_ad (mz_G Z) 0)), (1, .int a1), (2, .int a2), (3, .int a3), (4, .int a1)] C d_Mo_speakerOf_1 rfl (by decide) rfl ?_
  refine jr_iconst 3 0 C d_Mo_speakerOf_3 (by decide) ?_
  refine jr_istore 4 [(0, .ref (gz_ad (mz_G Z) 0)), (1, .int a1), (2, .int a2), (3, .int a3), (4, .int a1), (5, .int 0)] C d_Mo_speakerOf_4 rfl (by decide) rfl ?_
  refine jr_sub [0, 1, 2, 3, 4, 5] rfl ?_
  exact t_Mo_speakerOf_6 C 1000000 a1 a2 a3 a1 0 h
abbrev rm_Mo_barred : Room := { frames := 1, cells := 0, slots := 0, locals := 22 }
abbrev cd_Mo_barred : Cond := .code y_Mo_barred b_Mo_barred 3 (some .int)
def f_Mo_barred_14 (m : jz_M) : Option (Int32) :=
  some 1
set_option maxHeartbeats 4000000 in
set_option maxRecDepth 100000 in
theorem t_Mo_barred_14 {Z : cz_Z} {X : jz_X} {m : jz_M} {r : Int32} (C : jz_C X 3 b_Mo_barred R_Mo (some .int) rm_Mo_barred (mz_G Z)) : f_Mo_barred_14 m = some r → jz_J X 3 (mz_G Z) (jz_q X (mz_G Z) (some (.int r)) m) m [] 14 [] := by
  intro h
  unfold f_Mo_barred_14 at h
  refine jr_iconst 14 1 C d_Mo_barred_14 (by decide) ?_
  refine jr_goto 15 32 C d_Mo_barred_15 (by decide) ?_
  obtain rfl := Option.some.inj h
  exact jr_iret 32 (v := 1) C d_Mo_barred_32 rfl
def f_Mo_barred (a1 : Int32) (a2 : Int32) (m : jz_M) : Option (Int32) :=
  (f_Mo_isOne a1 m).bind fun v1_ =>
  if v1_ = 0 then
    f_Mo_barred_14 m
  else
    (f_Mo_isOne a2 m).bind fun v3_ =>
    if ¬ v3_ = 0 then
      (f_Mo_isOn a1 a2 m).bind fun v5_ =>
      if ¬ v5_ = 0 then
        some 0
      else
        some 2
    else
      f_Mo_barred_14 m
set_option maxHeartbeats 4000000 in
set_option maxRecDepth 100000 in
theorem c_Mo_barred {Z : cz_Z} (l : Launch) (hI : jz_I (mz_G Z)) {a1 : Int32} {a2 : Int32} {m : jz_M} {r : Int32} (h : f_Mo_barred a1 a2 m = some r) : jz_m l y_Mo_barred cd_Mo_barred rm_Mo_barred (mz_G Z) [.ref (gz_ad (mz_G Z) 0), .int a1, .int a2] m (some (.int r)) m := by
  refine jz_met (own := R_Mo) (by decide) rfl hI (Nat.le_of_ble_eq_true rfl) (fun X hX C => ?_)
  subst hX
  show jz_J X 3 (mz_G Z) _ m [(0, .ref (gz_ad (mz_G Z) 0)), (1, .int a1), (2, .int a2)] 0 []
  unfold f_Mo_barred at h
  refine jr_iload_n 0 C d_Mo_barred_0 rfl ?_
  obtain ⟨v1_, ev1_, h⟩ := jz_b h
  refine jr_callS 1 [.int a1] C d_Mo_barred_1 (c_Mo_isOne (xz_l X) C.2.2.2.2.2.2.1 ev1_) sz_Mo_isOne tz_Mo_isOne lk_Mo_91 (by decide) rfl rfl (Nat.le_of_ble_eq_true rfl) rfl ?_
  refine jr_if_eq 4 14 C d_Mo_barred_4 (by decide) (fun c2_ => ?_) (fun c2_ => ?_)
  · have h := jz_t c2_ h
    refine jr_sub [] rfl ?_
    exact t_Mo_barred_14 C   h
  · have h := jz_f c2_ h
    refine jr_iload_n 7 C d_Mo_barred_7 rfl ?_
    obtain ⟨v3_, ev3_, h⟩ := jz_b h
    refine jr_callS 8 [.int a2] C d_Mo_barred_8 (c_Mo_isOne (xz_l X) C.2.2.2.2.2.2.1  ev3_) sz_Mo_isOne tz_Mo_isOne lk_Mo_91 (by decide) rfl rfl (Nat.le_of_ble_eq_true rfl) rfl ?_
    refine jr_if_ne 11 18 C d_Mo_barred_11 (by decide) (fun c4_ => ?_) (fun c4_ => ?_)
    · have h := jz_t c4_ h
      refine jr_aload_n 18 C d_Mo_barred_18 rfl ?_
      refine jr_iload_n 19 C d_Mo_barred_19 rfl ?_
      refine jr_iload_n 20 C d_Mo_barred_20 rfl ?_
      obtain ⟨v5_, ev5_, h⟩ := jz_b h
      refine jr_callV 21 [.int a1, .int a2] C d_Mo_barred_21 (c_Mo_isOn (xz_l X) C.2.2.2.2.2.2.1  ev5_) sz_Mo_isOn tz_Mo_isOn lk_Mo_75 oz_Mo rfl (by decide) rfl rfl (Nat.le_of_ble_eq_true rfl) rfl ?_
      refine jr_if_ne 24 31 C d_Mo_barred_24 (by decide) (fun c6_ => ?_) (fun c6_ => ?_)
      · have h := jz_t c6_ h
        refine jr_iconst 31 0 C d_Mo_barred_31 (by decide) ?_
        obtain rfl := Option.some.inj h
        exact jr_iret 32 (v := 0) C d_Mo_barred_32 rfl
      · have h := jz_f c6_ h
        refine jr_iconst 27 2 C d_Mo_barred_27 (by decide) ?_
        refine jr_goto 28 32 C d_Mo_barred_28 (by decide) ?_
        obtain rfl := Option.some.inj h
        exact jr_iret 32 (v := 2) C d_Mo_barred_32 rfl
    · have h := jz_f c4_ h
      refine jr_sub [] rfl ?_
      exact t_Mo_barred_14 C   h
