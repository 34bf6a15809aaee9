abbrev rm_Mo_leavesArea : Room := { frames := 2, cells := 0, slots := 0, locals := 48 }
abbrev cd_Mo_leavesArea : Cond := .code y_Mo_leavesArea b_Mo_leavesArea 5 (some .boolean)
def f_Mo_leavesArea_52 (m : jz_M) (k4 : Int32 → Int32 → Int32 → Option (Int32)) (k13 : Int32 → Int32 → Int32 → Int32 → Option (Int32)) (x1 : Int32) (x3 : Int32) (x4 : Int32) : Option (Int32) :=
  jz_n (x4 + 1) fun x1_ =>
  k13 x1 1 x3 x1_
set_option maxHeartbeats 4000000 in
set_option maxRecDepth 100000 in
theorem t_Mo_leavesArea_52 {Z : cz_Z} {X : jz_X} {m : jz_M} {r : Int32} (C : jz_C X 5 b_Mo_leavesArea R_Mo (some .boolean) rm_Mo_leavesArea (mz_G Z)) (k4 : Int32 → Int32 → Int32 → Option (Int32)) (hk4 : ∀ (x1 : Int32) (x2 : Int32) (x3 : Int32), k4 x1 x2 x3 = some r → jz_J X 5 (mz_G Z) (jz_q X (mz_G Z) (some (.int r)) m) m [(0, .ref (gz_ad (mz_G Z) 0)), (1, .int x1), (2, .int x2), (3, .int x3)] 4 []) (k13 : Int32 → Int32 → Int32 → Int32 → Option (Int32)) (hk13 : ∀ (x1 : Int32) (x2 : Int32) (x3 : Int32) (x4 : Int32), k13 x1 x2 x3 x4 = some r → jz_J X 5 (mz_G Z) (jz_q X (mz_G Z) (some (.int r)) m) m [(0, .ref (gz_ad (mz_G Z) 0)), (1, .int x1), (2, .int x2), (3, .int x3), (4, .int x4)] 13 []) : ∀ (x1 : Int32) (x3 : Int32) (x4 : Int32) , f_Mo_leavesArea_52 m k4 k13 x1 x3 x4 = some r → jz_J X 5 (mz_G Z) (jz_q X (mz_G Z) (some (.int r)) m) m [(0, .ref (gz_ad (mz_G Z) 0)), (1, .int x1), (3, .int x3), (4, .int x4)] 52 [] := by
  intro x1 x3 x4 h
  unfold f_Mo_leavesArea_52 at h
  refine jr_iconst 52 1 C d_Mo_leavesArea_52 (by decide) ?_
  refine jr_goto 53 57 C d_Mo_leavesArea_53 (by decide) ?_
  refine jr_istore_n 57 [(0, .ref (gz_ad (mz_G Z) 0)), (1, .int x1), (3, .int x3), (4, .int x4), (2, .int 1)] C d_Mo_leavesArea_57 rfl (by decide) rfl ?_
  obtain ⟨x1_, ex1_, h⟩ := jz_ne h
  refine jr_iinc 58 [(0, .ref (gz_ad (mz_G Z) 0)), (1, .int x1), (3, .int x3), (4, .int x1_), (2, .int 1)] C d_Mo_leavesArea_58 rfl (by decide) rfl (by rw [ex1_]; rfl) rfl ?_
  refine jr_goto 61 13 C d_Mo_leavesArea_61 (by decide) ?_
  refine jr_sub [0, 1, 4, 2, 3] rfl ?_
  exact hk13 x1 1 x3 x1_ h
def f_Mo_leavesArea_13 (m : jz_M) (k4 : Int32 → Int32 → Int32 → Option (Int32)) : Nat → Int32 → Int32 → Int32 → Int32 → Option (Int32)
  | 0, _, _, _, _ => none
  | fu + 1, x1, x2, x3, x4 =>
    if 6 ≤ x4 then
      jz_n (x3 + 1) fun x2_ =>
      k4 x1 x2 x2_
    else
      if ¬ x2 = 0 then
        f_Mo_leavesArea_52 m k4 (f_Mo_leavesArea_13 m k4 fu) x1 x3 x4
      else
        (f_Mo_near x1 x3 2 x4 m).bind fun v4_ =>
        if v4_ = 0 then
          jz_n (x4 + 1) fun x6_ =>
          f_Mo_leavesArea_13 m k4 fu x1 0 x3 x6_
        else
          (jz_ix 6 x4).bind fun j7_ =>
          (jz_ix 6 x1).bind fun j8_ =>
          if (m 1 j7_) = (m 1 j8_) then
            jz_n (x4 + 1) fun x10_ =>
            f_Mo_leavesArea_13 m k4 fu x1 0 x3 x10_
          else
            f_Mo_leavesArea_52 m k4 (f_Mo_leavesArea_13 m k4 fu) x1 x3 x4
set_option maxHeartbeats 4000000 in
set_option maxRecDepth 100000 in
theorem t_Mo_leavesArea_13 {Z : cz_Z} {X : jz_X} {m : jz_M} {r : Int32} (C : jz_C X 5 b_Mo_leavesArea R_Mo (some .boolean) rm_Mo_leavesArea (mz_G Z)) (k4 : Int32 → Int32 → Int32 → Option (Int32)) (hk4 : ∀ (x1 : Int32) (x2 : Int32) (x3 : Int32), k4 x1 x2 x3 = some r → jz_J X 5 (mz_G Z) (jz_q X (mz_G Z) (some (.int r)) m) m [(0, .ref (gz_ad (mz_G Z) 0)), (1, .int x1), (2, .int x2), (3, .int x3)] 4 []) : ∀ (fu : Nat) (x1 : Int32) (x2 : Int32) (x3 : Int32) (x4 : Int32) , f_Mo_leavesArea_13 m k4 fu x1 x2 x3 x4 = some r → jz_J X 5 (mz_G Z) (jz_q X (mz_G Z) (some (.int r)) m) m [(0, .ref (gz_ad (mz_G Z) 0)), (1, .int x1), (2, .int x2), (3, .int x3), (4, .int x4)] 13 [] := by
  intro fu
  induction fu with
  | zero => intro x1 x2 x3 x4 h; cases h
  | succ fu ih =>
    intro x1 x2 x3 x4 h
    rw [f_Mo_leavesArea_13] at h
    refine jr_iload 13 C d_Mo_leavesArea_13 rfl ?_
    refine jr_bipush 15 6 C d_Mo_leavesArea_15 (by decide) ?_
    refine jr_icmp_ge 17 64 C d_Mo_leavesArea_17 (by decide) (fun c1_ => ?_) (fun c1_ => ?_)
    · have h := jz_t c1_ h
      obtain ⟨x2_, ex2_, h⟩ := jz_ne h
      refine jr_iinc 64 [(0, .ref (gz_ad (mz_G Z) 0)), (1, .int x1), (2, .int x2), (3, .int x2_), (4, .int x4)] C d_Mo_leavesArea_64 rfl (by decide) rfl (by rw [ex2_]; rfl) rfl ?_
      refine jr_goto 67 4 C d_Mo_leavesArea_67 (by decide) ?_
      refine jr_sub [0, 1, 2, 3] rfl ?_
      exact hk4 x1 x2 x2_  h
    · have h := jz_f c1_ h
      refine jr_iload_n 20 C d_Mo_leavesArea_20 rfl ?_
      refine jr_if_ne 21 52 C d_Mo_leavesArea_21 (by decide) (fun c3_ => ?_) (fun c3_ => ?_)
      · have h := jz_t c3_ h
        refine jr_sub [0, 1, 3, 4] rfl ?_
        exact t_Mo_leavesArea_52 C k4 hk4 (f_Mo_leavesArea_13 m k4 fu) ih x1 x3 x4 h
      · have h := jz_f c3_ h
        refine jr_aload_n 24 C d_Mo_leavesArea_24 rfl ?_
        refine jr_iload_n 25 C d_Mo_leavesArea_25 rfl ?_
        refine jr_iload_n 26 C d_Mo_leavesArea_26 rfl ?_
        refine jr_iconst 27 2 C d_Mo_leavesArea_27 (by decide) ?_
        refine jr_iload 28 C d_Mo_leavesArea_28 rfl ?_
        obtain ⟨v4_, ev4_, h⟩ := jz_b h
        refine jr_callV 30 [.int x1, .int x3, .int 2, .int x4] C d_Mo_leavesArea_30 (c_Mo_near (xz_l X) C.2.2.2.2.2.2.1  ev4_) sz_Mo_near tz_Mo_near lk_Mo_87 oz_Mo rfl (by decide) rfl rfl (Nat.le_of_ble_eq_true rfl) rfl ?_
        refine jr_if_eq 33 56 C d_Mo_leavesArea_33 (by decide) (fun c5_ => ?_) (fun c5_ => ?_)
        · have h := jz_t c5_ h
          refine jr_iconst 56 0 C d_Mo_leavesArea_56 (by decide) ?_
          refine jr_istore_n 57 [(0, .ref (gz_ad (mz_G Z) 0)), (1, .int x1), (2, .int 0), (3, .int x3), (4, .int x4)] C d_Mo_leavesArea_57 rfl (by decide) rfl ?_
          obtain ⟨x6_, ex6_, h⟩ := jz_ne h
          refine jr_iinc 58 [(0, .ref (gz_ad (mz_G Z) 0)), (1, .int x1), (2, .int 0), (3, .int x3), (4, .int x6_)] C d_Mo_leavesArea_58 rfl (by decide) rfl (by rw [ex6_]; rfl) rfl ?_
          refine jr_goto 61 13 C d_Mo_leavesArea_61 (by decide) ?_
          refine jr_sub [0, 1, 2, 3, 4] rfl ?_
          exact ih x1 0 x3 x6_  h
        · have h := jz_f c5_ h
          refine jr_aload_n 36 C d_Mo_leavesArea_36 rfl ?_
          refine gf_Mo_7 37 C d_Mo_leavesArea_37 ?_
          refine jr_iload 40 C d_Mo_leavesArea_40 rfl ?_
          obtain ⟨j7_, ej7_, h⟩ := jz_b h
          refine jr_iald 42 C d_Mo_leavesArea_42 zk_Mo_area ej7_ ?_
          refine jr_aload_n 43 C d_Mo_leavesArea_43 rfl ?_
          refine gf_Mo_7 44 C d_Mo_leavesArea_44 ?_
          refine jr_iload_n 47 C d_Mo_leavesArea_47 rfl ?_
          obtain ⟨j8_, ej8_, h⟩ := jz_b h
          refine jr_iald 48 C d_Mo_leavesArea_48 zk_Mo_area ej8_ ?_
          refine jr_icmp_eq 49 56 C d_Mo_leavesArea_49 (by decide) (fun c9_ => ?_) (fun c9_ => ?_)
          · have h := jz_t c9_ h
            refine jr_iconst 56 0 C d_Mo_leavesArea_56 (by decide) ?_
            refine jr_istore_n 57 [(0, .ref (gz_ad (mz_G Z) 0)), (1, .int x1), (2, .int 0), (3, .int x3), (4, .int x4)] C d_Mo_leavesArea_57 rfl (by decide) rfl ?_
            obtain ⟨x10_, ex10_, h⟩ := jz_ne h
            refine jr_iinc 58 [(0, .ref (gz_ad (mz_G Z) 0)), (1, .int x1), (2, .int 0), (3, .int x3), (4, .int x10_)] C d_Mo_leavesArea_58 rfl (by decide) rfl (by rw [ex10_]; rfl) rfl ?_
            refine jr_goto 61 13 C d_Mo_leavesArea_61 (by decide) ?_
            refine jr_sub [0, 1, 2, 3, 4] rfl ?_
            exact ih x1 0 x3 x10_  h
          · have h := jz_f c9_ h
            refine jr_sub [0, 1, 3, 4] rfl ?_
            exact t_Mo_leavesArea_52 C k4 hk4 (f_Mo_leavesArea_13 m k4 fu) ih x1 x3 x4 h
def f_Mo_leavesArea_4 (m : jz_M) : Nat → Int32 → Int32 → Int32 → Option (Int32)
  | 0, _, _, _ => none
  | fu + 1, x1, x2, x3 =>
    if 6 ≤ x3 then
      if x2 = 0 then
        some 0
      else
        (jz_ix 6 x1).bind fun j3_ =>
        if ¬ (m 2 j3_) = 3 then
          some 0
        else
          some 1
    else
      f_Mo_leavesArea_13 m (f_Mo_leavesArea_4 m fu) 1000000 x1 x2 x3 0
set_option maxHeartbeats 4000000 in
set_option maxRecDepth 100000 in
theorem t_Mo_leavesArea_4 {Z : cz_Z} {X : jz_X} {m : jz_M} {r : Int32} (C : jz_C X 5 b_Mo_leavesArea R_Mo (some .boolean) rm_Mo_leavesArea (mz_G Z)) : ∀ (fu : Nat) (x1 : Int32) (x2 : Int32) (x3 : Int32) , f_Mo_leavesArea_4 m fu x1 x2 x3 = some r → jz_J X 5 (mz_G Z) (jz_q X (mz_G Z) (some (.int r)) m) m [(0, .ref (gz_ad (mz_G Z) 0)), (1, .int x1), (2, .int x2), (3, .int x3)] 4 [] := by
  intro fu
  induction fu with
  | zero => intro x1 x2 x3 h; cases h
  | succ fu ih =>
    intro x1 x2 x3 h
    rw [f_Mo_leavesArea_4] at h
    refine jr_iload_n 4 C d_Mo_leavesArea_4 rfl ?_
    refine jr_bipush 5 6 C d_Mo_leavesArea_5 (by decide) ?_
    refine jr_icmp_ge 7 70 C d_Mo_leavesArea_7 (by decide) (fun c1_ => ?_) (fun c1_ => ?_)
    · have h := jz_t c1_ h
      refine jr_iload_n 70 C d_Mo_leavesArea_70 rfl ?_
      refine jr_if_eq 71 88 C d_Mo_leavesArea_71 (by decide) (fun c2_ => ?_) (fun c2_ => ?_)
      · have h := jz_t c2_ h
        refine jr_iconst 88 0 C d_Mo_leavesArea_88 (by decide) ?_
        obtain rfl := Option.some.inj h
        exact jr_zret 89 (v := 0) C d_Mo_leavesArea_89 rfl nb_0
      · have h := jz_f c2_ h
        refine jr_aload_n 74 C d_Mo_leavesArea_74 rfl ?_
        refine gf_Mo_13 75 C d_Mo_leavesArea_75 ?_
        refine jr_iload_n 78 C d_Mo_leavesArea_78 rfl ?_
        obtain ⟨j3_, ej3_, h⟩ := jz_b h
        refine jr_iald 79 C d_Mo_leavesArea_79 zk_Mo_levels ej3_ ?_
        refine jr_iconst 80 3 C d_Mo_leavesArea_80 (by decide) ?_
        refine jr_icmp_ne 81 88 C d_Mo_leavesArea_81 (by decide) (fun c4_ => ?_) (fun c4_ => ?_)
        · have h := jz_t c4_ h
          refine jr_iconst 88 0 C d_Mo_leavesArea_88 (by decide) ?_
          obtain rfl := Option.some.inj h
          exact jr_zret 89 (v := 0) C d_Mo_leavesArea_89 rfl nb_0
        · have h := jz_f c4_ h
          refine jr_iconst 84 1 C d_Mo_leavesArea_84 (by decide) ?_
          refine jr_goto 85 89 C d_Mo_leavesArea_85 (by decide) ?_
          obtain rfl := Option.some.inj h
          exact jr_zret 89 (v := 1) C d_Mo_leavesArea_89 rfl nb_1
    · have h := jz_f c1_ h
      refine jr_iconst 10 0 C d_Mo_leavesArea_10 (by decide) ?_
      refine jr_istore 11 [(0, .ref (gz_ad (mz_G Z) 0)), (1, .int x1), (2, .int x2), (3, .int x3), (4, .int 0)] C d_Mo_leavesArea_11 rfl (by decide) rfl ?_
      refine jr_sub [0, 1, 2, 3, 4] rfl ?_
      exact t_Mo_leavesArea_13 C (f_Mo_leavesArea_4 m fu) ih 1000000 x1 x2 x3 0 h
def f_Mo_leavesArea (a1 : Int32) (m : jz_M) : Option (Int32) :=
  f_Mo_leavesArea_4 m 1000000 a1 0 0
set_option maxHeartbeats 4000000 in
set_option maxRecDepth 100000 in
theorem c_Mo_leavesArea {Z : cz_Z} (l : Launch) (hI : jz_I (mz_G Z)) {a1 : Int32} {m : jz_M} {r : Int32} (h : f_Mo_leavesArea a1 m = some r) : jz_m l y_Mo_leavesArea cd_Mo_leavesArea rm_Mo_leavesArea (mz_G Z) [.ref (gz_ad (mz_G Z) 0), .int a1] m (some (.int r)) m := by
  refine jz_met (own := R_Mo) (by decide) rfl hI (Nat.le_of_ble_eq_true rfl) (fun X hX C => ?_)
  subst hX
  show jz_J X 5 (mz_G Z) _ m [(0, .ref (gz_ad (mz_G Z) 0)), (1, .int a1)] 0 []
  unfold f_Mo_leavesArea at h
  refine jr_iconst 0 0 C d_Mo_leavesArea_0 (by decide) ?_
  refine jr_istore_n 1 [(0, .ref (gz_ad (mz_G Z) 0)), (1, .int a1), (2, .int 0)] C d_Mo_leavesArea_1 rfl (by decide) rfl ?_
  refine jr_iconst 2 0 C d_Mo_leavesArea_2 (by decide) ?_
  refine jr_istore_n 3 [(0, .ref (gz_ad (mz_G Z) 0)), (1, .int a1), (2, .int 0), (3, .int 0)] C d_Mo_leavesArea_3 rfl (by decide) rfl ?_
  refine jr_sub [0, 1, 2, 3] rfl ?_
  exact t_Mo_leavesArea_4 C 1000000 a1 0 0 h
abbrev rm_Mo_exits : Room := { frames := 3, cells := 0, slots := 0, locals := 72 }
abbrev cd_Mo_exits : Cond := .code y_Mo_exits b_Mo_exits 4 (some .boolean)
def f_Mo_exits (a1 : Int32) (a2 : Int32) (a3 : Int32) (m : jz_M) : Option (Int32) :=
  if ¬ a2 = 1 then
    some 0
  else
    if ¬ a3 = 0 then
      some 0
    else
      (f_Mo_leavesArea a1 m).bind fun v3_ =>
      if v3_ = 0 then
        some 0
      else
        some 1
set_option maxHeartbeats 4000000 in
set_option maxRecDepth 100000 in
theorem c_Mo_exits {Z : cz_Z} (l : Launch) (hI : jz_I (mz_G Z)) {a1 : Int32} {a2 : Int32} {a3 : Int32} {m : jz_M} {r : Int32} (h : f_Mo_exits a1 a2 a3 m = some r) : jz_m l y_Mo_exits cd_Mo_exits rm_Mo_exits (mz_G Z) [.ref (gz_ad (mz_G Z) 0), .int a1, .int a2, .int a3] m (some (.int r)) m := by
  refine jz_met (own := R_Mo) (by decide) rfl hI (Nat.le_of_ble_eq_true rfl) (fun X hX C => ?_)
  subst hX
  show jz_J X 4 (mz_G Z) _ m [(0, .ref (gz_ad (mz_G Z) 0)), (1, .int a1), (2, .int a2), (3, .int a3)] 0 []
  unfold f_Mo_exits at h
  refine jr_iload_n 0 C d_Mo_exits_0 rfl ?_
  refine jr_iconst 1 1 C d_Mo_exits_1 (by decide) ?_
  refine jr_icmp_ne 2 21 C d_Mo_exits_2 (by decide) (fun c1_ => ?_) (fun c1_ => ?_)
  · have h := jz_t c1_ h
    refine jr_iconst 21 0 C d_Mo_exits_21 (by decide) ?_
    obtain rfl := Option.some.inj h
    exact jr_zret 22 (v := 0) C d_Mo_exits_22 rfl nb_0
  · have h := jz_f c1_ h
    refine jr_iload_n 5 C d_Mo_exits_5 rfl ?_
    refine jr_if_ne 6 21 C d_Mo_exits_6 (by decide) (fun c2_ => ?_) (fun c2_ => ?_)
    · have h := jz_t c2_ h
      refine jr_iconst 21 0 C d_Mo_exits_21 (by decide) ?_
      obtain rfl := Option.some.inj h
      exact jr_zret 22 (v := 0) C d_Mo_exits_22 rfl nb_0
    · have h := jz_f c2_ h
      refine jr_aload_n 9 C d_Mo_exits_9 rfl ?_
      refine jr_iload_n 10 C d_Mo_exits_10 rfl ?_
      obtain ⟨v3_, ev3_, h⟩ := jz_b h
      refine jr_callV 11 [.int a1] C d_Mo_exits_11 (c_Mo_leavesArea (xz_l X) C.2.2.2.2.2.2.1  ev3_) sz_Mo_leavesArea tz_Mo_leavesArea lk_Mo_130 oz_Mo rfl (by decide) rfl rfl (Nat.le_of_ble_eq_true rfl) rfl ?_
      refine jr_if_eq 14 21 C d_Mo_exits_14 (by decide) (fun c4_ => ?_) (fun c4_ => ?_)
      · have h := jz_t c4_ h
        refine jr_iconst 21 0 C d_Mo_exits_21 (by decide) ?_
        obtain rfl := Option.some.inj h
        exact jr_zret 22 (v := 0) C d_Mo_exits_22 rfl nb_0
      · have h := jz_f c4_ h
        refine jr_iconst 17 1 C d_Mo_exits_17 (by decide) ?_
        refine jr_goto 18 22 C d_Mo_exits_18 (by decide) ?_
        obtain rfl := Option.some.inj h
        exact jr_zret 22 (v := 1) C d_Mo_exits_22 rfl nb_1
abbrev rm_Mo_sameLinks : Room := { frames := 0, cells := 0, slots := 0, locals := 0 }
abbrev cd_Mo_sameLinks : Cond := .code y_Mo_sameLinks b_Mo_sameLinks 4 (some .boolean)
def f_Mo_sameLinks_21 (m : jz_M) : Nat → Int32 → Int32 → Int32 → Option (Int32)
  | 0, _, _, _ => none
  | fu + 1, x1, x2, x3 =>
    if (m 0 1) ≤ x3 then
      (jz_bo x2).bind fun b2_ =>
      some b2_
    else
      if x2 = 0 then
        (jz_bo x2).bind fun b4_ =>
        some b4_
      else
        (jz_ix 5040 (((10 : Int32) * x1) + x3)).bind fun j5_ =>
        (jz_ix 10 x3).bind fun j6_ =>
        if ¬ (m 15 j5_) = (m 18 j6_) then
          jz_n (x3 + 1) fun x8_ =>
          f_Mo_sameLinks_21 m fu x1 0 x8_
        else
          jz_n (x3 + 1) fun x9_ =>
          f_Mo_sameLinks_21 m fu x1 1 x9_
set_option maxHeartbeats 4000000 in
set_option maxRecDepth 100000 in
theorem t_Mo_sameLinks_21 {Z : cz_Z} {X : jz_X} {m : jz_M} {r : Int32} (C : jz_C X 4 b_Mo_sameLinks R_Mo (some .boolean) rm_Mo_sameLinks (mz_G Z)) : ∀ (fu : Nat) (x1 : Int32) (x2 : Int32) (x3 : Int32) , f_Mo_sameLinks_21 m fu x1 x2 x3 = some r → jz_J X 4 (mz_G Z) (jz_q X (mz_G Z) (some (.int r)) m) m [(0, .ref (gz_ad (mz_G Z) 0)), (1, .int x1), (2, .int x2), (3, .int x3)] 21 [] := by
  intro fu
  induction fu with
  | zero => intro x1 x2 x3 h; cases h
  | succ fu ih =>
    intro x1 x2 x3 h
    rw [f_Mo_sameLinks_21] at h
    refine jr_iload_n 21 C d_Mo_sameLinks_21 rfl ?_
    refine jr_aload_n 22 C d_Mo_sameLinks_22 rfl ?_
    refine gf_Mo_108 23 C d_Mo_sameLinks_23 ?_
    refine jr_icmp_ge 26 65 C d_Mo_sameLinks_26 (by decide) (fun c1_ => ?_) (fun c1_ => ?_)
    · have h := jz_t c1_ h
      refine jr_iload_n 65 C d_Mo_sameLinks_65 rfl ?_
      obtain ⟨b2_, eb2_, h⟩ := jz_b h
      refine jr_top (jz_bo_eq eb2_) ?_
      obtain rfl := Option.some.inj h
      exact jr_zret 66 (v := b2_) C d_Mo_sameLinks_66 rfl (jz_bo_n eb2_).1
    · have h := jz_f c1_ h
      refine jr_iload_n 29 C d_Mo_sameLinks_29 rfl ?_
      refine jr_if_eq 30 65 C d_Mo_sameLinks_30 (by decide) (fun c3_ => ?_) (fun c3_ => ?_)
      · have h := jz_t c3_ h
        refine jr_iload_n 65 C d_Mo_sameLinks_65 rfl ?_
        obtain ⟨b4_, eb4_, h⟩ := jz_b h
        refine jr_top (jz_bo_eq eb4_) ?_
        obtain rfl := Option.some.inj h
        exact jr_zret 66 (v := b4_) C d_Mo_sameLinks_66 rfl (jz_bo_n eb4_).1
      · have h := jz_f c3_ h
        refine jr_aload_n 33 C d_Mo_sameLinks_33 rfl ?_
        refine gf_Mo_53 34 C d_Mo_sameLinks_34 ?_
        refine jr_bipush 37 10 C d_Mo_sameLinks_37 (by decide) ?_
        refine jr_iload_n 39 C d_Mo_sameLinks_39 rfl ?_
        refine jr_imul 40 C d_Mo_sameLinks_40 ?_
        refine jr_iload_n 41 C d_Mo_sameLinks_41 rfl ?_
        refine jr_iadd 42 C d_Mo_sameLinks_42 ?_
        obtain ⟨j5_, ej5_, h⟩ := jz_b h
        refine jr_iald 43 C d_Mo_sameLinks_43 zk_Mo_link ej5_ ?_
        refine jr_aload_n 44 C d_Mo_sameLinks_44 rfl ?_
        refine gf_Mo_62 45 C d_Mo_sameLinks_45 ?_
        refine jr_iload_n 48 C d_Mo_sameLinks_48 rfl ?_
        obtain ⟨j6_, ej6_, h⟩ := jz_b h
        refine jr_iald 49 C d_Mo_sameLinks_49 zk_Mo_now ej6_ ?_
        refine jr_icmp_ne 50 57 C d_Mo_sameLinks_50 (by decide) (fun c7_ => ?_) (fun c7_ => ?_)
        · have h := jz_t c7_ h
          refine jr_iconst 57 0 C d_Mo_sameLinks_57 (by decide) ?_
          refine jr_istore_n 58 [(0, .ref (gz_ad (mz_G Z) 0)), (1, .int x1), (2, .int 0), (3, .int x3)] C d_Mo_sameLinks_58 rfl (by decide) rfl ?_
          obtain ⟨x8_, ex8_, h⟩ := jz_ne h
          refine jr_iinc 59 [(0, .ref (gz_ad (mz_G Z) 0)), (1, .int x1), (2, .int 0), (3, .int x8_)] C d_Mo_sameLinks_59 rfl (by decide) rfl (by rw [ex8_]; rfl) rfl ?_
          refine jr_goto 62 21 C d_Mo_sameLinks_62 (by decide) ?_
          refine jr_sub [0, 1, 2, 3] rfl ?_
          exact ih x1 0 x8_  h
        · have h := jz_f c7_ h
          refine jr_iconst 53 1 C d_Mo_sameLinks_53 (by decide) ?_
          refine jr_goto 54 58 C d_Mo_sameLinks_54 (by decide) ?_
          refine jr_istore_n 58 [(0, .ref (gz_ad (mz_G Z) 0)), (1, .int x1), (2, .int 1), (3, .int x3)] C d_Mo_sameLinks_58 rfl (by decide) rfl ?_
          obtain ⟨x9_, ex9_, h⟩ := jz_ne h
          refine jr_iinc 59 [(0, .ref (gz_ad (mz_G Z) 0)), (1, .int x1), (2, .int 1), (3, .int x9_)] C d_Mo_sameLinks_59 rfl (by decide) rfl (by rw [ex9_]; rfl) rfl ?_
          refine jr_goto 62 21 C d_Mo_sameLinks_62 (by decide) ?_
          refine jr_sub [0, 1, 2, 3] rfl ?_
          exact ih x1 1 x9_  h
def f_Mo_sameLinks_18 (m : jz_M) (x1 : Int32) (s0 : Int32) : Option (Int32) :=
  f_Mo_sameLinks_21 m 1000000 x1 s0 0
set_option maxHeartbeats 4000000 in
set_option maxRecDepth 100000 in
theorem t_Mo_sameLinks_18 {Z : cz_Z} {X : jz_X} {m : jz_M} {r : Int32} (C : jz_C X 4 b_Mo_sameLinks R_Mo (some .boolean) rm_Mo_sameLinks (mz_G Z)) : ∀ (x1 : Int32) (s0 : Int32) , f_Mo_sameLinks_18 m x1 s0 = some r → jz_J X 4 (mz_G Z) (jz_q X (mz_G Z) (some (.int r)) m) m [(0, .ref (gz_ad (mz_G Z) 0)), (1, .int x1)] 18 [.int s0] := by
  intro x1 s0 h
  unfold f_Mo_sameLinks_18 at h
  refine jr_istore_n 18 [(0, .ref (gz_ad (mz_G Z) 0)), (1, .int x1), (2, .int s0)] C d_Mo_sameLinks_18 rfl (by decide) rfl ?_
  refine jr_iconst 19 0 C d_Mo_sameLinks_19 (by decide) ?_
  refine jr_istore_n 20 [(0, .ref (gz_ad (mz_G Z) 0)), (1, .int x1), (2, .int s0), (3, .int 0)] C d_Mo_sameLinks_20 rfl (by decide) rfl ?_
  refine jr_sub [0, 1, 2, 3] rfl ?_
  exact t_Mo_sameLinks_21 C 1000000 x1 s0 0 h
def f_Mo_sameLinks (a1 : Int32) (m : jz_M) : Option (Int32) :=
  (jz_ix 504 a1).bind fun j1_ =>
  if ¬ (m 14 j1_) = (m 0 1) then
    f_Mo_sameLinks_18 m a1 0
  else
    f_Mo_sameLinks_18 m a1 1
set_option maxHeartbeats 4000000 in
set_option maxRecDepth 100000 in
theorem c_Mo_sameLinks {Z : cz_Z} (l : Launch) (hI : jz_I (mz_G Z)) {a1 : Int32} {m : jz_M} {r : Int32} (h : f_Mo_sameLinks a1 m = some r) : jz_m l y_Mo_sameLinks cd_Mo_sameLinks rm_Mo_sameLinks (mz_G Z) [.ref (gz_ad (mz_G Z) 0), .int a1] m (some (.int r)) m := by
  refine jz_met (own := R_Mo) (by decide) rfl hI (Nat.le_of_ble_eq_true rfl) (fun X hX C => ?_)
  subst hX
  show jz_J X 4 (mz_G Z) _ m [(0, .ref (gz_ad (mz_G Z) 0)), (1, .int a1)] 0 []
  unfold f_Mo_sameLinks at h
  refine jr_aload_n 0 C d_Mo_sameLinks_0 rfl ?_
  refine gf_Mo_50 1 C d_Mo_sameLinks_1 ?_
  refine jr_iload_n 4 C d_Mo_sameLinks_4 rfl ?_
  obtain ⟨j1_, ej1_, h⟩ := jz_b h
  refine jr_iald 5 C d_Mo_sameLinks_5 zk_Mo_many ej1_ ?_
  refine jr_aload_n 6 C d_Mo_sameLinks_6 rfl ?_
  refine gf_Mo_108 7 C d_Mo_sameLinks_7 ?_
  refine jr_icmp_ne 10 17 C d_Mo_sameLinks_10 (by decide) (fun c2_ => ?_) (fun c2_ => ?_)
  · have h := jz_t c2_ h
    refine jr_iconst 17 0 C d_Mo_sameLinks_17 (by decide) ?_
    refine jr_sub [0, 1] rfl ?_
    exact t_Mo_sameLinks_18 C  a1 0 h
  · have h := jz_f c2_ h
    refine jr_iconst 13 1 C d_Mo_sameLinks_13 (by decide) ?_
    refine jr_goto 14 18 C d_Mo_sameLinks_14 (by decide) ?_
    refine jr_sub [0, 1] rfl ?_
    exact t_Mo_sameLinks_18 C  a1 1 h
abbrev rm_Mo_renew : Room := { frames := 4, cells := 0, slots := 0, locals := 95 }
abbrev cd_Mo_renew : Cond := .code y_Mo_renew b_Mo_renew 6 none
def f_Mo_renew_96 : Nat → Int32 → Int32 → Int32 → jz_M → Option (jz_M)
  | 0, _, _, _, _ => none
  | fu + 1, x1, x4, x5, m =>
    if (m 0 1) ≤ x5 then
      (f_Mo_circuits x1 m).bind fun v2_ =>
      (jz_ix 504 x4).bind fun j3_ =>
      jz_n (jz_up m 16 j3_ v2_) fun m4_ =>
      (jz_ix 504 x4).bind fun j5_ =>
      jz_n (jz_up m4_ 17 j5_ 0) fun m6_ =>
      some m6_
    else
      (jz_ix 10 x5).bind fun j7_ =>
      (jz_ix 5040 (((10 : Int32) * x4) + x5)).bind fun j8_ =>
      jz_n (jz_up m 15 j8_ (m 18 j7_)) fun m9_ =>
      jz_n (x5 + 1) fun x10_ =>
      f_Mo_renew_96 fu x1 x4 x10_ m9_
set_option maxHeartbeats 4000000 in
set_option maxRecDepth 100000 in
theorem t_Mo_renew_96 {Z : cz_Z} {X : jz_X} {r : jz_M} (C : jz_C X 6 b_Mo_renew R_Mo none rm_Mo_renew (mz_G Z)) : ∀ (fu : Nat) (x1 : Int32) (x4 : Int32) (x5 : Int32) (m : jz_M) , f_Mo_renew_96 fu x1 x4 x5 m = some r → jz_J X 6 (mz_G Z) (jz_q X (mz_G Z) none r) m [(0, .ref (gz_ad (mz_G Z) 0)), (1, .int x1), (4, .int x4), (5, .int x5)] 96 [] := by
  intro fu
  induction fu with
  | zero => intro x1 x4 x5 m h; cases h
  | succ fu ih =>
    intro x1 x4 x5 m h
    rw [f_Mo_renew_96] at h
    refine jr_iload 96 C d_Mo_renew_96 rfl ?_
    refine jr_aload_n 98 C d_Mo_renew_98 rfl ?_
    refine gf_Mo_108 99 C d_Mo_renew_99 ?_
    refine jr_icmp_ge 102 131 C d_Mo_renew_102 (by decide) (fun c1_ => ?_) (fun c1_ => ?_)
    · have h := jz_t c1_ h
      refine jr_aload_n 131 C d_Mo_renew_131 rfl ?_
      refine gf_Mo_56 132 C d_Mo_renew_132 ?_
      refine jr_iload 135 C d_Mo_renew_135 rfl ?_
      refine jr_aload_n 137 C d_Mo_renew_137 rfl ?_
      refine jr_iload_n 138 C d_Mo_renew_138 rfl ?_
      obtain ⟨v2_, ev2_, h⟩ := jz_b h
      refine jr_callV 139 [.int x1] C d_Mo_renew_139 (c_Mo_circuits (xz_l X) C.2.2.2.2.2.2.1  ev2_) sz_Mo_circuits tz_Mo_circuits lk_Mo_139 oz_Mo rfl (by decide) rfl rfl (Nat.le_of_ble_eq_true rfl) rfl ?_
      obtain ⟨j3_, ej3_, h⟩ := jz_b h
      obtain ⟨m4_, em4_, h⟩ := jz_ne h
      refine jr_iast 142 C d_Mo_renew_142 zk_Mo_due ej3_ ?_
      refine jr_mem em4_ ?_
      refine jr_aload_n 143 C d_Mo_renew_143 rfl ?_
      refine gf_Mo_59 144 C d_Mo_renew_144 ?_
      refine jr_iload 147 C d_Mo_renew_147 rfl ?_
      refine jr_iconst 149 0 C d_Mo_renew_149 (by decide) ?_
      obtain ⟨j5_, ej5_, h⟩ := jz_b h
      obtain ⟨m6_, em6_, h⟩ := jz_ne h
      refine jr_iast 150 C d_Mo_renew_150 zk_Mo_asked ej5_ ?_
      refine jr_mem em6_ ?_
      obtain rfl := Option.some.inj h
      exact jr_vret 151 C d_Mo_renew_151 rfl
    · have h := jz_f c1_ h
      refine jr_aload_n 105 C d_Mo_renew_105 rfl ?_
      refine gf_Mo_53 106 C d_Mo_renew_106 ?_
      refine jr_bipush 109 10 C d_Mo_renew_109 (by decide) ?_
      refine jr_iload 111 C d_Mo_renew_111 rfl ?_
      refine jr_imul 113 C d_Mo_renew_113 ?_
      refine jr_iload 114 C d_Mo_renew_114 rfl ?_
      refine jr_iadd 116 C d_Mo_renew_116 ?_
      refine jr_aload_n 117 C d_Mo_renew_117 rfl ?_
      refine gf_Mo_62 118 C d_Mo_renew_118 ?_
      refine jr_iload 121 C d_Mo_renew_121 rfl ?_
      obtain ⟨j7_, ej7_, h⟩ := jz_b h
      refine jr_iald 123 C d_Mo_renew_123 zk_Mo_now ej7_ ?_
      obtain ⟨j8_, ej8_, h⟩ := jz_b h
      obtain ⟨m9_, em9_, h⟩ := jz_ne h
      refine jr_iast 124 C d_Mo_renew_124 zk_Mo_link ej8_ ?_
      refine jr_mem em9_ ?_
      obtain ⟨x10_, ex10_, h⟩ := jz_ne h
      refine jr_iinc 125 [(0, .ref (gz_ad (mz_G Z) 0)), (1, .int x1), (4, .int x4), (5, .int x10_)] C d_Mo_renew_125 rfl (by decide) rfl (by rw [ex10_]; rfl) rfl ?_
      refine jr_goto 128 96 C d_Mo_renew_128 (by decide) ?_
      refine jr_sub [0, 1, 2, 3] rfl ?_
      exact ih x1 x4 x10_ m9_  h
def f_Mo_renew (a1 : Int32) (a2 : Int32) (a3 : Int32) (m : jz_M) : Option (jz_M) :=
  (f_Mo_at a1 a2 (((7 : Int32) * a1) + a3) m).bind fun v1_ =>
  (jz_ix 504 v1_).bind fun j2_ =>
  (jz_ix 504 v1_).bind fun j3_ =>
  jz_n (jz_up m 9 j3_ ((m 9 j2_) + 1)) fun m4_ =>
  (jz_ix 504 v1_).bind fun j5_ =>
  (jz_ix 504 v1_).bind fun j6_ =>
  jz_n (jz_up m4_ 8 j6_ (m4_ 9 j5_)) fun m7_ =>
  (jz_ix 504 v1_).bind fun j8_ =>
  jz_n (jz_up m7_ 10 j8_ 20) fun m9_ =>
  (jz_ix 504 v1_).bind fun j10_ =>
  jz_n (jz_up m9_ 11 j10_ 0) fun m11_ =>
  (f_Mo_exits a1 a2 a3 m11_).bind fun v12_ =>
  (jz_ix 504 v1_).bind fun j13_ =>
  jz_n (jz_up m11_ 12 j13_ (vp_nar .boolean v12_)) fun m14_ =>
  (jz_ix 6 a1).bind fun j15_ =>
  (jz_ix 504 v1_).bind fun j16_ =>
  jz_n (jz_up m14_ 13 j16_ (m14_ 1 j15_)) fun m17_ =>
  (jz_ix 504 v1_).bind fun j18_ =>
  jz_n (jz_up m17_ 14 j18_ (m17_ 0 1)) fun m19_ =>
  f_Mo_renew_96 1000000 a1 v1_ 0 m19_
set_option maxHeartbeats 4000000 in
set_option maxRecDepth 100000 in
theorem c_Mo_renew {Z : cz_Z} (l : Launch) (hI : jz_I (mz_G Z)) {a1 : Int32} {a2 : Int32} {a3 : Int32} {m : jz_M} {r : jz_M} (h : f_Mo_renew a1 a2 a3 m = some r) : jz_m l y_Mo_renew cd_Mo_renew rm_Mo_renew (mz_G Z) [.ref (gz_ad (mz_G Z) 0), .int a1, .int a2, .int a3] m none r := by
  refine jz_met (own := R_Mo) (by decide) rfl hI (Nat.le_of_ble_eq_true rfl) (fun X hX C => ?_)
  subst hX
  show jz_J X 6 (mz_G Z) _ m [(0, .ref (gz_ad (mz_G Z) 0)), (1, .int a1), (2, .int a2), (3, .int a3)] 0 []
  unfold f_Mo_renew at h
  refine jr_iload_n 0 C d_Mo_renew_0 rfl ?_
  refine jr_iload_n 1 C d_Mo_renew_1 rfl ?_
  refine jr_bipush 2 7 C d_Mo_renew_2 (by decide) ?_
  refine jr_iload_n 4 C d_Mo_renew_4 rfl ?_
  refine jr_imul 5 C d_Mo_renew_5 ?_
  refine jr_iload_n 6 C d_Mo_renew_6 rfl ?_
  refine jr_iadd 7 C d_Mo_renew_7 ?_
  obtain ⟨v1_, ev1_, h⟩ := jz_b h
  refine jr_callS 8 [.int a1, .int a2, .int (((7 : Int32) * a1) + a3)] C d_Mo_renew_8 (c_Mo_at (xz_l X) C.2.2.2.2.2.2.1 ev1_) sz_Mo_at tz_Mo_at lk_Mo_133 (by decide) rfl rfl (Nat.le_of_ble_eq_true rfl) rfl ?_
  refine jr_istore 11 [(0, .ref (gz_ad (mz_G Z) 0)), (1, .int a1), (2, .int a2), (3, .int a3), (4, .int v1_)] C d_Mo_renew_11 rfl (by decide) rfl ?_
  refine jr_aload_n 13 C d_Mo_renew_13 rfl ?_
  refine gf_Mo_35 14 C d_Mo_renew_14 ?_
  refine jr_iload 17 C d_Mo_renew_17 rfl ?_
  refine jr_dup2 19 C d_Mo_renew_19 rfl rfl ?_
  obtain ⟨j2_, ej2_, h⟩ := jz_b h
  refine jr_iald 20 C d_Mo_renew_20 zk_Mo_most ej2_ ?_
  refine jr_iconst 21 1 C d_Mo_renew_21 (by decide) ?_
  refine jr_iadd 22 C d_Mo_renew_22 ?_
  obtain ⟨j3_, ej3_, h⟩ := jz_b h
  obtain ⟨m4_, em4_, h⟩ := jz_ne h
  refine jr_iast 23 C d_Mo_renew_23 zk_Mo_most ej3_ ?_
  refine jr_mem em4_ ?_
  refine jr_aload_n 24 C d_Mo_renew_24 rfl ?_
  refine gf_Mo_32 25 C d_Mo_renew_25 ?_
  refine jr_iload 28 C d_Mo_renew_28 rfl ?_
  refine jr_aload_n 30 C d_Mo_renew_30 rfl ?_
  refine gf_Mo_35 31 C d_Mo_renew_31 ?_
  refine jr_iload 34 C d_Mo_renew_34 rfl ?_
  obtain ⟨j5_, ej5_, h⟩ := jz_b h
  refine jr_iald 36 C d_Mo_renew_36 zk_Mo_most ej5_ ?_
  obtain ⟨j6_, ej6_, h⟩ := jz_b h
  obtain ⟨m7_, em7_, h⟩ := jz_ne h
  refine jr_iast 37 C d_Mo_renew_37 zk_Mo_sequence ej6_ ?_
  refine jr_mem em7_ ?_
  refine jr_aload_n 38 C d_Mo_renew_38 rfl ?_
  refine gf_Mo_38 39 C d_Mo_renew_39 ?_
  refine jr_iload 42 C d_Mo_renew_42 rfl ?_
  refine jr_bipush 44 20 C d_Mo_renew_44 (by decide) ?_
  obtain ⟨j8_, ej8_, h⟩ := jz_b h
  obtain ⟨m9_, em9_, h⟩ := jz_ne h
  refine jr_iast 46 C d_Mo_renew_46 zk_Mo_life ej8_ ?_
  refine jr_mem em9_ ?_
  refine jr_aload_n 47 C d_Mo_renew_47 rfl ?_
  refine gf_Mo_41 48 C d_Mo_renew_48 ?_
  refine jr_iload 51 C d_Mo_renew_51 rfl ?_
  refine jr_iconst 53 0 C d_Mo_renew_53 (by decide) ?_
  obtain ⟨j10_, ej10_, h⟩ := jz_b h
  obtain ⟨m11_, em11_, h⟩ := jz_ne h
  refine jr_iast 54 C d_Mo_renew_54 zk_Mo_gone ej10_ ?_
  refine jr_mem em11_ ?_
  refine jr_aload_n 55 C d_Mo_renew_55 rfl ?_
  refine gf_Mo_44 56 C d_Mo_renew_56 ?_
  refine jr_iload 59 C d_Mo_renew_59 rfl ?_
  refine jr_aload_n 61 C d_Mo_renew_61 rfl ?_
  refine jr_iload_n 62 C d_Mo_renew_62 rfl ?_
  refine jr_iload_n 63 C d_Mo_renew_63 rfl ?_
  refine jr_iload_n 64 C d_Mo_renew_64 rfl ?_
  obtain ⟨v12_, ev12_, h⟩ := jz_b h
  refine jr_callV 65 [.int a1, .int a2, .int a3] C d_Mo_renew_65 (c_Mo_exits (xz_l X) C.2.2.2.2.2.2.1 ev12_) sz_Mo_exits tz_Mo_exits lk_Mo_136 oz_Mo rfl (by decide) rfl rfl (Nat.le_of_ble_eq_true rfl) rfl ?_
  obtain ⟨j13_, ej13_, h⟩ := jz_b h
  obtain ⟨m14_, em14_, h⟩ := jz_ne h
  refine jr_zast 68 C d_Mo_renew_68 zk_Mo_exit ej13_ ?_
  refine jr_mem em14_ ?_
  refine jr_aload_n 69 C d_Mo_renew_69 rfl ?_
  refine gf_Mo_47 70 C d_Mo_renew_70 ?_
  refine jr_iload 73 C d_Mo_renew_73 rfl ?_
  refine jr_aload_n 75 C d_Mo_renew_75 rfl ?_
  refine gf_Mo_7 76 C d_Mo_renew_76 ?_
  refine jr_iload_n 79 C d_Mo_renew_79 rfl ?_
  obtain ⟨j15_, ej15_, h⟩ := jz_b h
  refine jr_iald 80 C d_Mo_renew_80 zk_Mo_area ej15_ ?_
  obtain ⟨j16_, ej16_, h⟩ := jz_b h
  obtain ⟨m17_, em17_, h⟩ := jz_ne h
  refine jr_iast 81 C d_Mo_renew_81 zk_Mo_where ej16_ ?_
  refine jr_mem em17_ ?_
  refine jr_aload_n 82 C d_Mo_renew_82 rfl ?_
  refine gf_Mo_50 83 C d_Mo_renew_83 ?_
  refine jr_iload 86 C d_Mo_renew_86 rfl ?_
  refine jr_aload_n 88 C d_Mo_renew_88 rfl ?_
  refine gf_Mo_108 89 C d_Mo_renew_89 ?_
  obtain ⟨j18_, ej18_, h⟩ := jz_b h
  obtain ⟨m19_, em19_, h⟩ := jz_ne h
  refine jr_iast 92 C d_Mo_renew_92 zk_Mo_many ej18_ ?_
  refine jr_mem em19_ ?_
  refine jr_iconst 93 0 C d_Mo_renew_93 (by decide) ?_
  refine jr_istore 94 [(0, .ref (gz_ad (mz_G Z) 0)), (1, .int a1), (2, .int a2), (3, .int a3), (4, .int v1_), (5, .int 0)] C d_Mo_renew_94 rfl (by decide) rfl ?_
  refine jr_sub [0, 1, 4, 5] rfl ?_
  exact t_Mo_renew_96 C 1000000 a1 v1_ 0 m19_ h
abbrev rm_Mo_die : Room := { frames := 2, cells := 0, slots := 0, locals := 45 }
abbrev cd_Mo_die : Cond := .code y_Mo_die b_Mo_die 3 none
def f_Mo_die (a1 : Int32) (a2 : Int32) (m : jz_M) : Option (jz_M) :=
  (jz_ix 504 a2).bind fun j1_ =>
  jz_n (jz_up m 10 j1_ 0) fun m2_ =>
  (jz_ix 504 a2).bind fun j3_ =>
  jz_n (jz_up m2_ 11 j3_ 0) fun m4_ =>
  (f_Mo_circuits a1 m4_).bind fun v5_ =>
  (jz_ix 504 a2).bind fun j6_ =>
  jz_n (jz_up m4_ 16 j6_ v5_) fun m7_ =>
  some m7_
set_option maxHeartbeats 4000000 in
set_option maxRecDepth 100000 in
theorem c_Mo_die {Z : cz_Z} (l : Launch) (hI : jz_I (mz_G Z)) {a1 : Int32} {a2 : Int32} {m : jz_M} {r : jz_M} (h : f_Mo_die a1 a2 m = some r) : jz_m l y_Mo_die cd_Mo_die rm_Mo_die (mz_G Z) [.ref (gz_ad (mz_G Z) 0), .int a1, .int a2] m none r := by
  refine jz_met (own := R_Mo) (by decide) rfl hI (Nat.le_of_ble_eq_true rfl) (fun X hX C => ?_)
  subst hX
  show jz_J X 3 (mz_G Z) _ m [(0, .ref (gz_ad (mz_G Z) 0)), (1, .int a1), (2, .int a2)] 0 []
  unfold f_Mo_die at h
  refine jr_aload_n 0 C d_Mo_die_0 rfl ?_
  refine gf_Mo_38 1 C d_Mo_die_1 ?_
  refine jr_iload_n 4 C d_Mo_die_4 rfl ?_
  refine jr_iconst 5 0 C d_Mo_die_5 (by decide) ?_
  obtain ⟨j1_, ej1_, h⟩ := jz_b h
  obtain ⟨m2_, em2_, h⟩ := jz_ne h
  refine jr_iast 6 C d_Mo_die_6 zk_Mo_life ej1_ ?_
  refine jr_mem em2_ ?_
  refine jr_aload_n 7 C d_Mo_die_7 rfl ?_
  refine gf_Mo_41 8 C d_Mo_die_8 ?_
  refine jr_iload_n 11 C d_Mo_die_11 rfl ?_
  refine jr_iconst 12 0 C d_Mo_die_12 (by decide) ?_
  obtain ⟨j3_, ej3_, h⟩ := jz_b h
  obtain ⟨m4_, em4_, h⟩ := jz_ne h
  refine jr_iast 13 C d_Mo_die_13 zk_Mo_gone ej3_ ?_
  refine jr_mem em4_ ?_
  refine jr_aload_n 14 C d_Mo_die_14 rfl ?_
  refine gf_Mo_56 15 C d_Mo_die_15 ?_
  refine jr_iload_n 18 C d_Mo_die_18 rfl ?_
  refine jr_aload_n 19 C d_Mo_die_19 rfl ?_
  refine jr_iload_n 20 C d_Mo_die_20 rfl ?_
  obtain ⟨v5_, ev5_, h⟩ := jz_b h
  refine jr_callV 21 [.int a1] C d_Mo_die_21 (c_Mo_circuits (xz_l X) C.2.2.2.2.2.2.1 ev5_) sz_Mo_circuits tz_Mo_circuits lk_Mo_139 oz_Mo rfl (by decide) rfl rfl (Nat.le_of_ble_eq_true rfl) rfl ?_
  obtain ⟨j6_, ej6_, h⟩ := jz_b h
  obtain ⟨m7_, em7_, h⟩ := jz_ne h
  refine jr_iast 24 C d_Mo_die_24 zk_Mo_due ej6_ ?_
  refine jr_mem em7_ ?_
  obtain rfl := Option.some.inj h
  exact jr_vret 25 C d_Mo_die_25 rfl
abbrev rm_Mo_part : Room := { frames := 5, cells := 0, slots := 0, locals := 124 }
abbrev cd_Mo_part : Cond := .code y_Mo_part b_Mo_part 6 (some .boolean)
def f_Mo_part_75 (x1 : Int32) (x2 : Int32) (x3 : Int32) (s0 : Int32) (m : jz_M) : Option (Int32 × jz_M) :=
  if s0 = 0 then
    (jz_bo s0).bind fun b2_ =>
    some (b2_, m)
  else
    (f_Mo_renew x1 x2 x3 m).bind fun v3_ =>
    (jz_bo s0).bind fun b4_ =>
    some (b4_, v3_)
set_option maxHeartbeats 4000000 in
set_option maxRecDepth 100000 in
theorem t_Mo_part_75 {Z : cz_Z} {X : jz_X} {r : Int32 × jz_M} (C : jz_C X 6 b_Mo_part R_Mo (some .boolean) rm_Mo_part (mz_G Z)) : ∀ (x1 : Int32) (x2 : Int32) (x3 : Int32) (s0 : Int32) (m : jz_M) , f_Mo_part_75 x1 x2 x3 s0 m = some r → jz_J X 6 (mz_G Z) (jz_q X (mz_G Z) (some (.int r.1)) r.2) m [(0, .ref (gz_ad (mz_G Z) 0)), (1, .int x1), (2, .int x2), (3, .int x3)] 75 [.int s0] := by
  intro x1 x2 x3 s0 m h
  unfold f_Mo_part_75 at h
  refine jr_istore 75 [(0, .ref (gz_ad (mz_G Z) 0)), (1, .int x1), (2, .int x2), (3, .int x3), (5, .int s0)] C d_Mo_part_75 rfl (by decide) rfl ?_
  refine jr_iload 77 C d_Mo_part_77 rfl ?_
  refine jr_if_eq 79 89 C d_Mo_part_79 (by decide) (fun c1_ => ?_) (fun c1_ => ?_)
  · have h := jz_t c1_ h
    refine jr_iload 89 C d_Mo_part_89 rfl ?_
    obtain ⟨b2_, eb2_, h⟩ := jz_b h
    refine jr_top (jz_bo_eq eb2_) ?_
    obtain rfl := Option.some.inj h
    exact jr_zret 91 (v := b2_) C d_Mo_part_91 rfl (jz_bo_n eb2_).1
  · have h := jz_f c1_ h
    refine jr_aload_n 82 C d_Mo_part_82 rfl ?_
    refine jr_iload_n 83 C d_Mo_part_83 rfl ?_
    refine jr_iload_n 84 C d_Mo_part_84 rfl ?_
    refine jr_iload_n 85 C d_Mo_part_85 rfl ?_
    obtain ⟨v3_, ev3_, h⟩ := jz_b h
    refine jr_callV 86 [.int x1, .int x2, .int x3] C d_Mo_part_86 (c_Mo_renew (xz_l X) C.2.2.2.2.2.2.1  ev3_) sz_Mo_renew tz_Mo_renew lk_Mo_148 oz_Mo rfl (by decide) rfl rfl (Nat.le_of_ble_eq_true rfl) rfl ?_
    refine jr_iload 89 C d_Mo_part_89 rfl ?_
    obtain ⟨b4_, eb4_, h⟩ := jz_b h
    refine jr_top (jz_bo_eq eb4_) ?_
    obtain rfl := Option.some.inj h
    exact jr_zret 91 (v := b4_) C d_Mo_part_91 rfl (jz_bo_n eb4_).1
def f_Mo_part_70 (x1 : Int32) (x2 : Int32) (x3 : Int32) (m : jz_M) : Option (Int32 × jz_M) :=
  f_Mo_part_75 x1 x2 x3 1 m
set_option maxHeartbeats 4000000 in
set_option maxRecDepth 100000 in
theorem t_Mo_part_70 {Z : cz_Z} {X : jz_X} {r : Int32 × jz_M} (C : jz_C X 6 b_Mo_part R_Mo (some .boolean) rm_Mo_part (mz_G Z)) : ∀ (x1 : Int32) (x2 : Int32) (x3 : Int32) (m : jz_M) , f_Mo_part_70 x1 x2 x3 m = some r → jz_J X 6 (mz_G Z) (jz_q X (mz_G Z) (some (.int r.1)) r.2) m [(0, .ref (gz_ad (mz_G Z) 0)), (1, .int x1), (2, .int x2), (3, .int x3)] 70 [] := by
  intro x1 x2 x3 m h
  unfold f_Mo_part_70 at h
  refine jr_iconst 70 1 C d_Mo_part_70 (by decide) ?_
  refine jr_goto 71 75 C d_Mo_part_71 (by decide) ?_
  refine jr_sub [0, 1, 2, 3] rfl ?_
  exact t_Mo_part_75 C x1 x2 x3 1 m h
def f_Mo_part (a1 : Int32) (a2 : Int32) (a3 : Int32) (m : jz_M) : Option (Int32 × jz_M) :=
  (f_Mo_at a1 a2 (((7 : Int32) * a1) + a3) m).bind fun v1_ =>
  (f_Mo_describes a1 a2 a3 m).bind fun v2_ =>
  if v2_.1 = 0 then
    (jz_ix 504 v1_).bind fun j4_ =>
    if (v2_.2 8 j4_) = 0 then
      some (0, v2_.2)
    else
      (jz_ix 504 v1_).bind fun j6_ =>
      if ¬ (v2_.2 10 j6_) = 0 then
        (f_Mo_die a1 v1_ v2_.2).bind fun v8_ =>
        some (1, v8_)
      else
        some (0, v2_.2)
  else
    (jz_ix 504 v1_).bind fun j9_ =>
    if (v2_.2 8 j9_) = 0 then
      f_Mo_part_70 a1 a2 a3 v2_.2
    else
      (jz_ix 504 v1_).bind fun j11_ =>
      if (v2_.2 10 j11_) ≤ 5 then
        f_Mo_part_70 a1 a2 a3 v2_.2
      else
        (f_Mo_sameLinks v1_ v2_.2).bind fun v13_ =>
        if v13_ = 0 then
          f_Mo_part_70 a1 a2 a3 v2_.2
        else
          (jz_ix 504 v1_).bind fun j15_ =>
          (f_Mo_exits a1 a2 a3 v2_.2).bind fun v16_ =>
          if (v2_.2 12 j15_) = v16_ then
            f_Mo_part_75 a1 a2 a3 0 v2_.2
          else
            f_Mo_part_70 a1 a2 a3 v2_.2
set_option maxHeartbeats 4000000 in
set_option maxRecDepth 100000 in
theorem c_Mo_part {Z : cz_Z} (l : Launch) (hI : jz_I (mz_G Z)) {a1 : Int32} {a2 : Int32} {a3 : Int32} {m : jz_M} {r : Int32 × jz_M} (h : f_Mo_part a1 a2 a3 m = some r) : jz_m l y_Mo_part cd_Mo_part rm_Mo_part (mz_G Z) [.ref (gz_ad (mz_G Z) 0), .int a1, .int a2, .int a3] m (some (.int r.1)) r.2 := by
  refine jz_met (own := R_Mo) (by decide) rfl hI (Nat.le_of_ble_eq_true rfl) (fun X hX C => ?_)
  subst hX
  show jz_J X 6 (mz_G Z) _ m [(0, .ref (gz_ad (mz_G Z) 0)), (1, .int a1), (2, .int a2), (3, .int a3)] 0 []
  unfold f_Mo_part at h
  refine jr_iload_n 0 C d_Mo_part_0 rfl ?_
  refine jr_iload_n 1 C d_Mo_part_1 rfl ?_
  refine jr_bipush 2 7 C d_Mo_part_2 (by decide) ?_
  refine jr_iload_n 4 C d_Mo_part_4 rfl ?_
  refine jr_imul 5 C d_Mo_part_5 ?_
  refine jr_iload_n 6 C d_Mo_part_6 rfl ?_
  refine jr_iadd 7 C d_Mo_part_7 ?_
  obtain ⟨v1_, ev1_, h⟩ := jz_b h
  refine jr_callS 8 [.int a1, .int a2, .int (((7 : Int32) * a1) + a3)] C d_Mo_part_8 (c_Mo_at (xz_l X) C.2.2.2.2.2.2.1 ev1_) sz_Mo_at tz_Mo_at lk_Mo_133 (by decide) rfl rfl (Nat.le_of_ble_eq_true rfl) rfl ?_
  refine jr_istore 11 [(0, .ref (gz_ad (mz_G Z) 0)), (1, .int a1), (2, .int a2), (3, .int a3), (4, .int v1_)] C d_Mo_part_11 rfl (by decide) rfl ?_
  refine jr_aload_n 13 C d_Mo_part_13 rfl ?_
  refine jr_iload_n 14 C d_Mo_part_14 rfl ?_
  refine jr_iload_n 15 C d_Mo_part_15 rfl ?_
  refine jr_iload_n 16 C d_Mo_part_16 rfl ?_
  obtain ⟨v2_, ev2_, h⟩ := jz_b h
  refine jr_callV 17 [.int a1, .int a2, .int a3] C d_Mo_part_17 (c_Mo_describes (xz_l X) C.2.2.2.2.2.2.1 ev2_) sz_Mo_describes tz_Mo_describes lk_Mo_142 oz_Mo rfl (by decide) rfl rfl (Nat.le_of_ble_eq_true rfl) rfl ?_
  refine jr_if_eq 20 92 C d_Mo_part_20 (by decide) (fun c3_ => ?_) (fun c3_ => ?_)
  · have h := jz_t c3_ h
    refine jr_aload_n 92 C d_Mo_part_92 rfl ?_
    refine gf_Mo_32 93 C d_Mo_part_93 ?_
    refine jr_iload 96 C d_Mo_part_96 rfl ?_
    obtain ⟨j4_, ej4_, h⟩ := jz_b h
    refine jr_iald 98 C d_Mo_part_98 zk_Mo_sequence ej4_ ?_
    refine jr_if_eq 99 112 C d_Mo_part_99 (by decide) (fun c5_ => ?_) (fun c5_ => ?_)
    · have h := jz_t c5_ h
      refine jr_iconst 112 0 C d_Mo_part_112 (by decide) ?_
      obtain rfl := Option.some.inj h
      exact jr_zret 113 (v := 0) C d_Mo_part_113 rfl nb_0
    · have h := jz_f c5_ h
      refine jr_aload_n 102 C d_Mo_part_102 rfl ?_
      refine gf_Mo_38 103 C d_Mo_part_103 ?_
      refine jr_iload 106 C d_Mo_part_106 rfl ?_
      obtain ⟨j6_, ej6_, h⟩ := jz_b h
      refine jr_iald 108 C d_Mo_part_108 zk_Mo_life ej6_ ?_
      refine jr_if_ne 109 114 C d_Mo_part_109 (by decide) (fun c7_ => ?_) (fun c7_ => ?_)
      · have h := jz_t c7_ h
        refine jr_aload_n 114 C d_Mo_part_114 rfl ?_
        refine jr_iload_n 115 C d_Mo_part_115 rfl ?_
        refine jr_iload 116 C d_Mo_part_116 rfl ?_
        obtain ⟨v8_, ev8_, h⟩ := jz_b h
        refine jr_callV 118 [.int a1, .int v1_] C d_Mo_part_118 (c_Mo_die (xz_l X) C.2.2.2.2.2.2.1  ev8_) sz_Mo_die tz_Mo_die lk_Mo_151 oz_Mo rfl (by decide) rfl rfl (Nat.le_of_ble_eq_true rfl) rfl ?_
        refine jr_iconst 121 1 C d_Mo_part_121 (by decide) ?_
        obtain rfl := Option.some.inj h
        exact jr_zret 122 (v := 1) C d_Mo_part_122 rfl nb_1
      · have h := jz_f c7_ h
        refine jr_iconst 112 0 C d_Mo_part_112 (by decide) ?_
        obtain rfl := Option.some.inj h
        exact jr_zret 113 (v := 0) C d_Mo_part_113 rfl nb_0
  · have h := jz_f c3_ h
    refine jr_aload_n 23 C d_Mo_part_23 rfl ?_
    refine gf_Mo_32 24 C d_Mo_part_24 ?_
    refine jr_iload 27 C d_Mo_part_27 rfl ?_
    obtain ⟨j9_, ej9_, h⟩ := jz_b h
    refine jr_iald 29 C d_Mo_part_29 zk_Mo_sequence ej9_ ?_
    refine jr_if_eq 30 70 C d_Mo_part_30 (by decide) (fun c10_ => ?_) (fun c10_ => ?_)
    · have h := jz_t c10_ h
      refine jr_sub [0, 1, 2, 3] rfl ?_
      exact t_Mo_part_70 C  a1 a2 a3 v2_.2 h
    · have h := jz_f c10_ h
      refine jr_aload_n 33 C d_Mo_part_33 rfl ?_
      refine gf_Mo_38 34 C d_Mo_part_34 ?_
      refine jr_iload 37 C d_Mo_part_37 rfl ?_
      obtain ⟨j11_, ej11_, h⟩ := jz_b h
      refine jr_iald 39 C d_Mo_part_39 zk_Mo_life ej11_ ?_
      refine jr_iconst 40 5 C d_Mo_part_40 (by decide) ?_
      refine jr_icmp_le 41 70 C d_Mo_part_41 (by decide) (fun c12_ => ?_) (fun c12_ => ?_)
      · have h := jz_t c12_ h
        refine jr_sub [0, 1, 2, 3] rfl ?_
        exact t_Mo_part_70 C  a1 a2 a3 v2_.2 h
      · have h := jz_f c12_ h
        refine jr_aload_n 44 C d_Mo_part_44 rfl ?_
        refine jr_iload 45 C d_Mo_part_45 rfl ?_
        obtain ⟨v13_, ev13_, h⟩ := jz_b h
        refine jr_callV 47 [.int v1_] C d_Mo_part_47 (c_Mo_sameLinks (xz_l X) C.2.2.2.2.2.2.1  ev13_) sz_Mo_sameLinks tz_Mo_sameLinks lk_Mo_145 oz_Mo rfl (by decide) rfl rfl (Nat.le_of_ble_eq_true rfl) rfl ?_
        refine jr_if_eq 50 70 C d_Mo_part_50 (by decide) (fun c14_ => ?_) (fun c14_ => ?_)
        · have h := jz_t c14_ h
          refine jr_sub [0, 1, 2, 3] rfl ?_
          exact t_Mo_part_70 C  a1 a2 a3 v2_.2 h
        · have h := jz_f c14_ h
          refine jr_aload_n 53 C d_Mo_part_53 rfl ?_
          refine gf_Mo_44 54 C d_Mo_part_54 ?_
          refine jr_iload 57 C d_Mo_part_57 rfl ?_
          obtain ⟨j15_, ej15_, h⟩ := jz_b h
          refine jr_zald 59 C d_Mo_part_59 zk_Mo_exit ej15_ ?_
          refine jr_aload_n 60 C d_Mo_part_60 rfl ?_
          refine jr_iload_n 61 C d_Mo_part_61 rfl ?_
          refine jr_iload_n 62 C d_Mo_part_62 rfl ?_
          refine jr_iload_n 63 C d_Mo_part_63 rfl ?_
          obtain ⟨v16_, ev16_, h⟩ := jz_b h
          refine jr_callV 64 [.int a1, .int a2, .int a3] C d_Mo_part_64 (c_Mo_exits (xz_l X) C.2.2.2.2.2.2.1  ev16_) sz_Mo_exits tz_Mo_exits lk_Mo_136 oz_Mo rfl (by decide) rfl rfl (Nat.le_of_ble_eq_true rfl) rfl ?_
          refine jr_icmp_eq 67 74 C d_Mo_part_67 (by decide) (fun c17_ => ?_) (fun c17_ => ?_)
          · have h := jz_t c17_ h
            refine jr_iconst 74 0 C d_Mo_part_74 (by decide) ?_
            refine jr_sub [0, 1, 2, 3] rfl ?_
            exact t_Mo_part_75 C  a1 a2 a3 0 v2_.2 h
          · have h := jz_f c17_ h
            refine jr_sub [0, 1, 2, 3] rfl ?_
            exact t_Mo_part_70 C  a1 a2 a3 v2_.2 h
