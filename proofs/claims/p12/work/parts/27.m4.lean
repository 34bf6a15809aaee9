abbrev rm_Mo_describe : Room := { frames := 6, cells := 0, slots := 0, locals := 149 }
abbrev cd_Mo_describe : Cond := .code y_Mo_describe b_Mo_describe 5 (some .int)
def f_Mo_describe_30 (k22 : Int32 → Int32 → Int32 → jz_M → Option (Int32 × jz_M)) : Nat → Int32 → Int32 → Int32 → Int32 → jz_M → Option (Int32 × jz_M)
  | 0, _, _, _, _, _ => none
  | fu + 1, x1, x2, x3, x4, m =>
    if 7 ≤ x4 then
      jz_n (x3 + 1) fun x2_ =>
      k22 x1 x2 x2_ m
    else
      (f_Mo_has x1 x3 m).bind fun v3_ =>
      if v3_ = 0 then
        jz_n (x3 + 1) fun x5_ =>
        k22 x1 x2 x5_ m
      else
        (f_Mo_part x1 x3 x4 m).bind fun v6_ =>
        if v6_.1 = 0 then
          jz_n (x2 + 0) fun x8_ =>
          jz_n (x4 + 1) fun x9_ =>
          f_Mo_describe_30 k22 fu x1 x8_ x3 x9_ v6_.2
        else
          jz_n (x2 + 1) fun x10_ =>
          jz_n (x4 + 1) fun x11_ =>
          f_Mo_describe_30 k22 fu x1 x10_ x3 x11_ v6_.2
set_option maxHeartbeats 4000000 in
set_option maxRecDepth 100000 in
theorem t_Mo_describe_30 {Z : cz_Z} {X : jz_X} {r : Int32 × jz_M} (C : jz_C X 5 b_Mo_describe R_Mo (some .int) rm_Mo_describe (mz_G Z)) (k22 : Int32 → Int32 → Int32 → jz_M → Option (Int32 × jz_M)) (hk22 : ∀ (x1 : Int32) (x2 : Int32) (x3 : Int32) (m : jz_M), k22 x1 x2 x3 m = some r → jz_J X 5 (mz_G Z) (jz_q X (mz_G Z) (some (.int r.1)) r.2) m [(0, .ref (gz_ad (mz_G Z) 0)), (1, .int x1), (2, .int x2), (3, .int x3)] 22 []) : ∀ (fu : Nat) (x1 : Int32) (x2 : Int32) (x3 : Int32) (x4 : Int32) (m : jz_M) , f_Mo_describe_30 k22 fu x1 x2 x3 x4 m = some r → jz_J X 5 (mz_G Z) (jz_q X (mz_G Z) (some (.int r.1)) r.2) m [(0, .ref (gz_ad (mz_G Z) 0)), (1, .int x1), (2, .int x2), (3, .int x3), (4, .int x4)] 30 [] := by
  intro fu
  induction fu with
  | zero => intro x1 x2 x3 x4 m h; cases h
  | succ fu ih =>
    intro x1 x2 x3 x4 m h
    rw [f_Mo_describe_30] at h
    refine jr_iload 30 C d_Mo_describe_30 rfl ?_
    refine jr_bipush 32 7 C d_Mo_describe_32 (by decide) ?_
    refine jr_icmp_ge 34 71 C d_Mo_describe_34 (by decide) (fun c1_ => ?_) (fun c1_ => ?_)
    · have h := jz_t c1_ h
      obtain ⟨x2_, ex2_, h⟩ := jz_ne h
      refine jr_iinc 71 [(0, .ref (gz_ad (mz_G Z) 0)), (1, .int x1), (2, .int x2), (3, .int x2_), (4, .int x4)] C d_Mo_describe_71 rfl (by decide) rfl (by rw [ex2_]; rfl) rfl ?_
      refine jr_goto 74 22 C d_Mo_describe_74 (by decide) ?_
      refine jr_sub [0, 1, 2, 3] rfl ?_
      exact hk22 x1 x2 x2_ m  h
    · have h := jz_f c1_ h
      refine jr_aload_n 37 C d_Mo_describe_37 rfl ?_
      refine jr_iload_n 38 C d_Mo_describe_38 rfl ?_
      refine jr_iload_n 39 C d_Mo_describe_39 rfl ?_
      obtain ⟨v3_, ev3_, h⟩ := jz_b h
      refine jr_callV 40 [.int x1, .int x3] C d_Mo_describe_40 (c_Mo_has (xz_l X) C.2.2.2.2.2.2.1  ev3_) sz_Mo_has tz_Mo_has lk_Mo_99 oz_Mo rfl (by decide) rfl rfl (Nat.le_of_ble_eq_true rfl) rfl ?_
      refine jr_if_eq 43 71 C d_Mo_describe_43 (by decide) (fun c4_ => ?_) (fun c4_ => ?_)
      · have h := jz_t c4_ h
        obtain ⟨x5_, ex5_, h⟩ := jz_ne h
        refine jr_iinc 71 [(0, .ref (gz_ad (mz_G Z) 0)), (1, .int x1), (2, .int x2), (3, .int x5_), (4, .int x4)] C d_Mo_describe_71 rfl (by decide) rfl (by rw [ex5_]; rfl) rfl ?_
        refine jr_goto 74 22 C d_Mo_describe_74 (by decide) ?_
        refine jr_sub [0, 1, 2, 3] rfl ?_
        exact hk22 x1 x2 x5_ m  h
      · have h := jz_f c4_ h
        refine jr_iload_n 46 C d_Mo_describe_46 rfl ?_
        refine jr_aload_n 47 C d_Mo_describe_47 rfl ?_
        refine jr_iload_n 48 C d_Mo_describe_48 rfl ?_
        refine jr_iload_n 49 C d_Mo_describe_49 rfl ?_
        refine jr_iload 50 C d_Mo_describe_50 rfl ?_
        obtain ⟨v6_, ev6_, h⟩ := jz_b h
        refine jr_callV 52 [.int x1, .int x3, .int x4] C d_Mo_describe_52 (c_Mo_part (xz_l X) C.2.2.2.2.2.2.1  ev6_) sz_Mo_part tz_Mo_part lk_Mo_154 oz_Mo rfl (by decide) rfl rfl (Nat.le_of_ble_eq_true rfl) rfl ?_
        refine jr_if_eq 55 62 C d_Mo_describe_55 (by decide) (fun c7_ => ?_) (fun c7_ => ?_)
        · have h := jz_t c7_ h
          refine jr_iconst 62 0 C d_Mo_describe_62 (by decide) ?_
          refine jr_iadd 63 C d_Mo_describe_63 ?_
          obtain ⟨x8_, ex8_, h⟩ := jz_ne h
          refine jr_top ex8_ ?_
          refine jr_istore_n 64 [(0, .ref (gz_ad (mz_G Z) 0)), (1, .int x1), (2, .int x8_), (3, .int x3), (4, .int x4)] C d_Mo_describe_64 rfl (by decide) rfl ?_
          obtain ⟨x9_, ex9_, h⟩ := jz_ne h
          refine jr_iinc 65 [(0, .ref (gz_ad (mz_G Z) 0)), (1, .int x1), (2, .int x8_), (3, .int x3), (4, .int x9_)] C d_Mo_describe_65 rfl (by decide) rfl (by rw [ex9_]; rfl) rfl ?_
          refine jr_goto 68 30 C d_Mo_describe_68 (by decide) ?_
          refine jr_sub [0, 1, 2, 3, 4] rfl ?_
          exact ih x1 x8_ x3 x9_ v6_.2  h
        · have h := jz_f c7_ h
          refine jr_iconst 58 1 C d_Mo_describe_58 (by decide) ?_
          refine jr_goto 59 63 C d_Mo_describe_59 (by decide) ?_
          refine jr_iadd 63 C d_Mo_describe_63 ?_
          obtain ⟨x10_, ex10_, h⟩ := jz_ne h
          refine jr_top ex10_ ?_
          refine jr_istore_n 64 [(0, .ref (gz_ad (mz_G Z) 0)), (1, .int x1), (2, .int x10_), (3, .int x3), (4, .int x4)] C d_Mo_describe_64 rfl (by decide) rfl ?_
          obtain ⟨x11_, ex11_, h⟩ := jz_ne h
          refine jr_iinc 65 [(0, .ref (gz_ad (mz_G Z) 0)), (1, .int x1), (2, .int x10_), (3, .int x3), (4, .int x11_)] C d_Mo_describe_65 rfl (by decide) rfl (by rw [ex11_]; rfl) rfl ?_
          refine jr_goto 68 30 C d_Mo_describe_68 (by decide) ?_
          refine jr_sub [0, 1, 2, 3, 4] rfl ?_
          exact ih x1 x10_ x3 x11_ v6_.2  h
def f_Mo_describe_22 : Nat → Int32 → Int32 → Int32 → jz_M → Option (Int32 × jz_M)
  | 0, _, _, _, _ => none
  | fu + 1, x1, x2, x3, m =>
    if 2 < x3 then
      some (x2, m)
    else
      f_Mo_describe_30 (f_Mo_describe_22 fu) 1000000 x1 x2 x3 0 m
set_option maxHeartbeats 4000000 in
set_option maxRecDepth 100000 in
theorem t_Mo_describe_22 {Z : cz_Z} {X : jz_X} {r : Int32 × jz_M} (C : jz_C X 5 b_Mo_describe R_Mo (some .int) rm_Mo_describe (mz_G Z)) : ∀ (fu : Nat) (x1 : Int32) (x2 : Int32) (x3 : Int32) (m : jz_M) , f_Mo_describe_22 fu x1 x2 x3 m = some r → jz_J X 5 (mz_G Z) (jz_q X (mz_G Z) (some (.int r.1)) r.2) m [(0, .ref (gz_ad (mz_G Z) 0)), (1, .int x1), (2, .int x2), (3, .int x3)] 22 [] := by
  intro fu
  induction fu with
  | zero => intro x1 x2 x3 m h; cases h
  | succ fu ih =>
    intro x1 x2 x3 m h
    rw [f_Mo_describe_22] at h
    refine jr_iload_n 22 C d_Mo_describe_22 rfl ?_
    refine jr_iconst 23 2 C d_Mo_describe_23 (by decide) ?_
    refine jr_icmp_gt 24 77 C d_Mo_describe_24 (by decide) (fun c1_ => ?_) (fun c1_ => ?_)
    · have h := jz_t c1_ h
      refine jr_iload_n 77 C d_Mo_describe_77 rfl ?_
      obtain rfl := Option.some.inj h
      exact jr_iret 78 (v := x2) C d_Mo_describe_78 rfl
    · have h := jz_f c1_ h
      refine jr_iconst 27 0 C d_Mo_describe_27 (by decide) ?_
      refine jr_istore 28 [(0, .ref (gz_ad (mz_G Z) 0)), (1, .int x1), (2, .int x2), (3, .int x3), (4, .int 0)] C d_Mo_describe_28 rfl (by decide) rfl ?_
      refine jr_sub [0, 1, 2, 3, 4] rfl ?_
      exact t_Mo_describe_30 C (f_Mo_describe_22 fu) ih 1000000 x1 x2 x3 0 m h
def f_Mo_describe (a1 : Int32) (m : jz_M) : Option (Int32 × jz_M) :=
  (f_Mo_isOne a1 m).bind fun v1_ =>
  if ¬ v1_ = 0 then
    jz_n (jz_up m 0 0 0) fun m3_ =>
    f_Mo_describe_22 1000000 a1 0 1 m3_
  else
    (f_Mo_raise 1 m).bind fun v4_ =>
    some (v4_.1, v4_.2)
set_option maxHeartbeats 4000000 in
set_option maxRecDepth 100000 in
theorem c_Mo_describe {Z : cz_Z} (l : Launch) (hI : jz_I (mz_G Z)) {a1 : Int32} {m : jz_M} {r : Int32 × jz_M} (h : f_Mo_describe a1 m = some r) : jz_m l y_Mo_describe cd_Mo_describe rm_Mo_describe (mz_G Z) [.ref (gz_ad (mz_G Z) 0), .int a1] m (some (.int r.1)) r.2 := by
  refine jz_met (own := R_Mo) (by decide) rfl hI (Nat.le_of_ble_eq_true rfl) (fun X hX C => ?_)
  subst hX
  show jz_J X 5 (mz_G Z) _ m [(0, .ref (gz_ad (mz_G Z) 0)), (1, .int a1)] 0 []
  unfold f_Mo_describe at h
  refine jr_iload_n 0 C d_Mo_describe_0 rfl ?_
  obtain ⟨v1_, ev1_, h⟩ := jz_b h
  refine jr_callS 1 [.int a1] C d_Mo_describe_1 (c_Mo_isOne (xz_l X) C.2.2.2.2.2.2.1 ev1_) sz_Mo_isOne tz_Mo_isOne lk_Mo_91 (by decide) rfl rfl (Nat.le_of_ble_eq_true rfl) rfl ?_
  refine jr_if_ne 4 13 C d_Mo_describe_4 (by decide) (fun c2_ => ?_) (fun c2_ => ?_)
  · have h := jz_t c2_ h
    refine jr_aload_n 13 C d_Mo_describe_13 rfl ?_
    refine jr_iconst 14 0 C d_Mo_describe_14 (by decide) ?_
    obtain ⟨m3_, em3_, h⟩ := jz_ne h
    refine pf_Mo_71 15 C d_Mo_describe_15 ?_
    refine jr_mem em3_ ?_
    refine jr_iconst 18 0 C d_Mo_describe_18 (by decide) ?_
    refine jr_istore_n 19 [(0, .ref (gz_ad (mz_G Z) 0)), (1, .int a1), (2, .int 0)] C d_Mo_describe_19 rfl (by decide) rfl ?_
    refine jr_iconst 20 1 C d_Mo_describe_20 (by decide) ?_
    refine jr_istore_n 21 [(0, .ref (gz_ad (mz_G Z) 0)), (1, .int a1), (2, .int 0), (3, .int 1)] C d_Mo_describe_21 rfl (by decide) rfl ?_
    refine jr_sub [0, 1, 2, 3] rfl ?_
    exact t_Mo_describe_22 C  1000000 a1 0 1 m3_ h
  · have h := jz_f c2_ h
    refine jr_aload_n 7 C d_Mo_describe_7 rfl ?_
    refine jr_iconst 8 1 C d_Mo_describe_8 (by decide) ?_
    obtain ⟨v4_, ev4_, h⟩ := jz_b h
    refine jr_callV 9 [.int 1] C d_Mo_describe_9 (c_Mo_raise (xz_l X) C.2.2.2.2.2.2.1  ev4_) sz_Mo_raise tz_Mo_raise lk_Mo_102 oz_Mo rfl (by decide) rfl rfl (Nat.le_of_ble_eq_true rfl) rfl ?_
    obtain rfl := Option.some.inj h
    exact jr_iret 12 (v := v4_.1) C d_Mo_describe_12 rfl
abbrev rm_Mo_newer : Room := { frames := 0, cells := 0, slots := 0, locals := 0 }
abbrev cd_Mo_newer : Cond := .code y_Mo_newer b_Mo_newer 4 (some .boolean)
def f_Mo_newer_18 (m : jz_M) : Option (Int32) :=
  some 1
set_option maxHeartbeats 4000000 in
set_option maxRecDepth 100000 in
theorem t_Mo_newer_18 {Z : cz_Z} {X : jz_X} {m : jz_M} {r : Int32} (C : jz_C X 4 b_Mo_newer R_Mo (some .boolean) rm_Mo_newer (mz_G Z)) : f_Mo_newer_18 m = some r → jz_J X 4 (mz_G Z) (jz_q X (mz_G Z) (some (.int r)) m) m [] 18 [] := by
  intro h
  unfold f_Mo_newer_18 at h
  refine jr_iconst 18 1 C d_Mo_newer_18 (by decide) ?_
  refine jr_goto 19 23 C d_Mo_newer_19 (by decide) ?_
  obtain rfl := Option.some.inj h
  exact jr_zret 23 (v := 1) C d_Mo_newer_23 rfl nb_1
def f_Mo_newer (a0 : Int32) (a1 : Int32) (a2 : Int32) (a3 : Int32) (m : jz_M) : Option (Int32) :=
  if a2 < a0 then
    f_Mo_newer_18 m
  else
    if ¬ a0 = a2 then
      some 0
    else
      if a1 = 0 then
        some 0
      else
        if ¬ a3 = 0 then
          some 0
        else
          f_Mo_newer_18 m
set_option maxHeartbeats 4000000 in
set_option maxRecDepth 100000 in
theorem c_Mo_newer {Z : cz_Z} (l : Launch) (hI : jz_I (mz_G Z)) {a0 : Int32} {a1 : Int32} {a2 : Int32} {a3 : Int32} {m : jz_M} {r : Int32} (h : f_Mo_newer a0 a1 a2 a3 m = some r) : jz_m l y_Mo_newer cd_Mo_newer rm_Mo_newer (mz_G Z) [.int a0, .int a1, .int a2, .int a3] m (some (.int r)) m := by
  refine jz_met (own := R_Mo) (by decide) rfl hI (Nat.le_of_ble_eq_true rfl) (fun X hX C => ?_)
  subst hX
  show jz_J X 4 (mz_G Z) _ m [(0, .int a0), (1, .int a1), (2, .int a2), (3, .int a3)] 0 []
  unfold f_Mo_newer at h
  refine jr_iload_n 0 C d_Mo_newer_0 rfl ?_
  refine jr_iload_n 1 C d_Mo_newer_1 rfl ?_
  refine jr_icmp_gt 2 18 C d_Mo_newer_2 (by decide) (fun c1_ => ?_) (fun c1_ => ?_)
  · have h := jz_t c1_ h
    refine jr_sub [] rfl ?_
    exact t_Mo_newer_18 C   h
  · have h := jz_f c1_ h
    refine jr_iload_n 5 C d_Mo_newer_5 rfl ?_
    refine jr_iload_n 6 C d_Mo_newer_6 rfl ?_
    refine jr_icmp_ne 7 22 C d_Mo_newer_7 (by decide) (fun c2_ => ?_) (fun c2_ => ?_)
    · have h := jz_t c2_ h
      refine jr_iconst 22 0 C d_Mo_newer_22 (by decide) ?_
      obtain rfl := Option.some.inj h
      exact jr_zret 23 (v := 0) C d_Mo_newer_23 rfl nb_0
    · have h := jz_f c2_ h
      refine jr_iload_n 10 C d_Mo_newer_10 rfl ?_
      refine jr_if_eq 11 22 C d_Mo_newer_11 (by decide) (fun c3_ => ?_) (fun c3_ => ?_)
      · have h := jz_t c3_ h
        refine jr_iconst 22 0 C d_Mo_newer_22 (by decide) ?_
        obtain rfl := Option.some.inj h
        exact jr_zret 23 (v := 0) C d_Mo_newer_23 rfl nb_0
      · have h := jz_f c3_ h
        refine jr_iload_n 14 C d_Mo_newer_14 rfl ?_
        refine jr_if_ne 15 22 C d_Mo_newer_15 (by decide) (fun c4_ => ?_) (fun c4_ => ?_)
        · have h := jz_t c4_ h
          refine jr_iconst 22 0 C d_Mo_newer_22 (by decide) ?_
          obtain rfl := Option.some.inj h
          exact jr_zret 23 (v := 0) C d_Mo_newer_23 rfl nb_0
        · have h := jz_f c4_ h
          refine jr_sub [] rfl ?_
          exact t_Mo_newer_18 C   h
abbrev rm_Mo_copy : Room := { frames := 0, cells := 0, slots := 0, locals := 0 }
abbrev cd_Mo_copy : Cond := .code y_Mo_copy b_Mo_copy 4 none
def f_Mo_copy_105 : Nat → Int32 → Int32 → Int32 → jz_M → Option (jz_M)
  | 0, _, _, _, _ => none
  | fu + 1, x1, x2, x3, m =>
    (jz_ix 504 x1).bind fun j1_ =>
    if (m 14 j1_) ≤ x3 then
      some m
    else
      (jz_ix 5040 (((10 : Int32) * x1) + x3)).bind fun j3_ =>
      (jz_ix 5040 (((10 : Int32) * x2) + x3)).bind fun j4_ =>
      jz_n (jz_up m 15 j4_ (m 15 j3_)) fun m5_ =>
      jz_n (x3 + 1) fun x6_ =>
      f_Mo_copy_105 fu x1 x2 x6_ m5_
set_option maxHeartbeats 4000000 in
set_option maxRecDepth 100000 in
theorem t_Mo_copy_105 {Z : cz_Z} {X : jz_X} {r : jz_M} (C : jz_C X 4 b_Mo_copy R_Mo none rm_Mo_copy (mz_G Z)) : ∀ (fu : Nat) (x1 : Int32) (x2 : Int32) (x3 : Int32) (m : jz_M) , f_Mo_copy_105 fu x1 x2 x3 m = some r → jz_J X 4 (mz_G Z) (jz_q X (mz_G Z) none r) m [(0, .ref (gz_ad (mz_G Z) 0)), (1, .int x1), (2, .int x2), (3, .int x3)] 105 [] := by
  intro fu
  induction fu with
  | zero => intro x1 x2 x3 m h; cases h
  | succ fu ih =>
    intro x1 x2 x3 m h
    rw [f_Mo_copy_105] at h
    refine jr_iload_n 105 C d_Mo_copy_105 rfl ?_
    refine jr_aload_n 106 C d_Mo_copy_106 rfl ?_
    refine gf_Mo_50 107 C d_Mo_copy_107 ?_
    refine jr_iload_n 110 C d_Mo_copy_110 rfl ?_
    obtain ⟨j1_, ej1_, h⟩ := jz_b h
    refine jr_iald 111 C d_Mo_copy_111 zk_Mo_many ej1_ ?_
    refine jr_icmp_ge 112 143 C d_Mo_copy_112 (by decide) (fun c2_ => ?_) (fun c2_ => ?_)
    · have h := jz_t c2_ h
      obtain rfl := Option.some.inj h
      exact jr_vret 143 C d_Mo_copy_143 rfl
    · have h := jz_f c2_ h
      refine jr_aload_n 115 C d_Mo_copy_115 rfl ?_
      refine gf_Mo_53 116 C d_Mo_copy_116 ?_
      refine jr_bipush 119 10 C d_Mo_copy_119 (by decide) ?_
      refine jr_iload_n 121 C d_Mo_copy_121 rfl ?_
      refine jr_imul 122 C d_Mo_copy_122 ?_
      refine jr_iload_n 123 C d_Mo_copy_123 rfl ?_
      refine jr_iadd 124 C d_Mo_copy_124 ?_
      refine jr_aload_n 125 C d_Mo_copy_125 rfl ?_
      refine gf_Mo_53 126 C d_Mo_copy_126 ?_
      refine jr_bipush 129 10 C d_Mo_copy_129 (by decide) ?_
      refine jr_iload_n 131 C d_Mo_copy_131 rfl ?_
      refine jr_imul 132 C d_Mo_copy_132 ?_
      refine jr_iload_n 133 C d_Mo_copy_133 rfl ?_
      refine jr_iadd 134 C d_Mo_copy_134 ?_
      obtain ⟨j3_, ej3_, h⟩ := jz_b h
      refine jr_iald 135 C d_Mo_copy_135 zk_Mo_link ej3_ ?_
      obtain ⟨j4_, ej4_, h⟩ := jz_b h
      obtain ⟨m5_, em5_, h⟩ := jz_ne h
      refine jr_iast 136 C d_Mo_copy_136 zk_Mo_link ej4_ ?_
      refine jr_mem em5_ ?_
      obtain ⟨x6_, ex6_, h⟩ := jz_ne h
      refine jr_iinc 137 [(0, .ref (gz_ad (mz_G Z) 0)), (1, .int x1), (2, .int x2), (3, .int x6_)] C d_Mo_copy_137 rfl (by decide) rfl (by rw [ex6_]; rfl) rfl ?_
      refine jr_goto 140 105 C d_Mo_copy_140 (by decide) ?_
      refine jr_sub [0, 1, 2, 3] rfl ?_
      exact ih x1 x2 x6_ m5_  h
def f_Mo_copy_47 (x1 : Int32) (x2 : Int32) (s0 : Int32) (s1 : Int32) (m : jz_M) : Option (jz_M) :=
  (jz_ix 504 s1).bind fun j1_ =>
  jz_n (jz_up m 9 j1_ s0) fun m2_ =>
  (jz_ix 504 x1).bind fun j3_ =>
  (jz_ix 504 x2).bind fun j4_ =>
  jz_n (jz_up m2_ 10 j4_ (m2_ 10 j3_)) fun m5_ =>
  (jz_ix 504 x2).bind fun j6_ =>
  jz_n (jz_up m5_ 11 j6_ 0) fun m7_ =>
  (jz_ix 504 x1).bind fun j8_ =>
  (jz_ix 504 x2).bind fun j9_ =>
  jz_n (jz_up m7_ 12 j9_ (vp_nar .boolean (m7_ 12 j8_))) fun m10_ =>
  (jz_ix 504 x1).bind fun j11_ =>
  (jz_ix 504 x2).bind fun j12_ =>
  jz_n (jz_up m10_ 13 j12_ (m10_ 13 j11_)) fun m13_ =>
  (jz_ix 504 x1).bind fun j14_ =>
  (jz_ix 504 x2).bind fun j15_ =>
  jz_n (jz_up m13_ 14 j15_ (m13_ 14 j14_)) fun m16_ =>
  f_Mo_copy_105 1000000 x1 x2 0 m16_
set_option maxHeartbeats 4000000 in
set_option maxRecDepth 100000 in
theorem t_Mo_copy_47 {Z : cz_Z} {X : jz_X} {r : jz_M} (C : jz_C X 4 b_Mo_copy R_Mo none rm_Mo_copy (mz_G Z)) : ∀ (x1 : Int32) (x2 : Int32) (s0 : Int32) (s1 : Int32) (m : jz_M) , f_Mo_copy_47 x1 x2 s0 s1 m = some r → jz_J X 4 (mz_G Z) (jz_q X (mz_G Z) none r) m [(0, .ref (gz_ad (mz_G Z) 0)), (1, .int x1), (2, .int x2)] 47 [.int s0, .int s1, .ref (gz_ad (mz_G Z) 9)] := by
  intro x1 x2 s0 s1 m h
  unfold f_Mo_copy_47 at h
  obtain ⟨j1_, ej1_, h⟩ := jz_b h
  obtain ⟨m2_, em2_, h⟩ := jz_ne h
  refine jr_iast 47 C d_Mo_copy_47 zk_Mo_most ej1_ ?_
  refine jr_mem em2_ ?_
  refine jr_aload_n 48 C d_Mo_copy_48 rfl ?_
  refine gf_Mo_38 49 C d_Mo_copy_49 ?_
  refine jr_iload_n 52 C d_Mo_copy_52 rfl ?_
  refine jr_aload_n 53 C d_Mo_copy_53 rfl ?_
  refine gf_Mo_38 54 C d_Mo_copy_54 ?_
  refine jr_iload_n 57 C d_Mo_copy_57 rfl ?_
  obtain ⟨j3_, ej3_, h⟩ := jz_b h
  refine jr_iald 58 C d_Mo_copy_58 zk_Mo_life ej3_ ?_
  obtain ⟨j4_, ej4_, h⟩ := jz_b h
  obtain ⟨m5_, em5_, h⟩ := jz_ne h
  refine jr_iast 59 C d_Mo_copy_59 zk_Mo_life ej4_ ?_
  refine jr_mem em5_ ?_
  refine jr_aload_n 60 C d_Mo_copy_60 rfl ?_
  refine gf_Mo_41 61 C d_Mo_copy_61 ?_
  refine jr_iload_n 64 C d_Mo_copy_64 rfl ?_
  refine jr_iconst 65 0 C d_Mo_copy_65 (by decide) ?_
  obtain ⟨j6_, ej6_, h⟩ := jz_b h
  obtain ⟨m7_, em7_, h⟩ := jz_ne h
  refine jr_iast 66 C d_Mo_copy_66 zk_Mo_gone ej6_ ?_
  refine jr_mem em7_ ?_
  refine jr_aload_n 67 C d_Mo_copy_67 rfl ?_
  refine gf_Mo_44 68 C d_Mo_copy_68 ?_
  refine jr_iload_n 71 C d_Mo_copy_71 rfl ?_
  refine jr_aload_n 72 C d_Mo_copy_72 rfl ?_
  refine gf_Mo_44 73 C d_Mo_copy_73 ?_
  refine jr_iload_n 76 C d_Mo_copy_76 rfl ?_
  obtain ⟨j8_, ej8_, h⟩ := jz_b h
  refine jr_zald 77 C d_Mo_copy_77 zk_Mo_exit ej8_ ?_
  obtain ⟨j9_, ej9_, h⟩ := jz_b h
  obtain ⟨m10_, em10_, h⟩ := jz_ne h
  refine jr_zast 78 C d_Mo_copy_78 zk_Mo_exit ej9_ ?_
  refine jr_mem em10_ ?_
  refine jr_aload_n 79 C d_Mo_copy_79 rfl ?_
  refine gf_Mo_47 80 C d_Mo_copy_80 ?_
  refine jr_iload_n 83 C d_Mo_copy_83 rfl ?_
  refine jr_aload_n 84 C d_Mo_copy_84 rfl ?_
  refine gf_Mo_47 85 C d_Mo_copy_85 ?_
  refine jr_iload_n 88 C d_Mo_copy_88 rfl ?_
  obtain ⟨j11_, ej11_, h⟩ := jz_b h
  refine jr_iald 89 C d_Mo_copy_89 zk_Mo_where ej11_ ?_
  obtain ⟨j12_, ej12_, h⟩ := jz_b h
  obtain ⟨m13_, em13_, h⟩ := jz_ne h
  refine jr_iast 90 C d_Mo_copy_90 zk_Mo_where ej12_ ?_
  refine jr_mem em13_ ?_
  refine jr_aload_n 91 C d_Mo_copy_91 rfl ?_
  refine gf_Mo_50 92 C d_Mo_copy_92 ?_
  refine jr_iload_n 95 C d_Mo_copy_95 rfl ?_
  refine jr_aload_n 96 C d_Mo_copy_96 rfl ?_
  refine gf_Mo_50 97 C d_Mo_copy_97 ?_
  refine jr_iload_n 100 C d_Mo_copy_100 rfl ?_
  obtain ⟨j14_, ej14_, h⟩ := jz_b h
  refine jr_iald 101 C d_Mo_copy_101 zk_Mo_many ej14_ ?_
  obtain ⟨j15_, ej15_, h⟩ := jz_b h
  obtain ⟨m16_, em16_, h⟩ := jz_ne h
  refine jr_iast 102 C d_Mo_copy_102 zk_Mo_many ej15_ ?_
  refine jr_mem em16_ ?_
  refine jr_iconst 103 0 C d_Mo_copy_103 (by decide) ?_
  refine jr_istore_n 104 [(0, .ref (gz_ad (mz_G Z) 0)), (1, .int x1), (2, .int x2), (3, .int 0)] C d_Mo_copy_104 rfl (by decide) rfl ?_
  refine jr_sub [0, 1, 2, 3] rfl ?_
  exact t_Mo_copy_105 C 1000000 x1 x2 0 m16_ h
def f_Mo_copy (a1 : Int32) (a2 : Int32) (m : jz_M) : Option (jz_M) :=
  (jz_ix 504 a1).bind fun j1_ =>
  (jz_ix 504 a2).bind fun j2_ =>
  jz_n (jz_up m 8 j2_ (m 8 j1_)) fun m3_ =>
  (jz_ix 504 a2).bind fun j4_ =>
  (jz_ix 504 a2).bind fun j5_ =>
  if (m3_ 8 j4_) ≤ (m3_ 9 j5_) then
    (jz_ix 504 a2).bind fun j7_ =>
    f_Mo_copy_47 a1 a2 (m3_ 9 j7_) a2 m3_
  else
    (jz_ix 504 a2).bind fun j8_ =>
    f_Mo_copy_47 a1 a2 (m3_ 8 j8_) a2 m3_
set_option maxHeartbeats 4000000 in
set_option maxRecDepth 100000 in
theorem c_Mo_copy {Z : cz_Z} (l : Launch) (hI : jz_I (mz_G Z)) {a1 : Int32} {a2 : Int32} {m : jz_M} {r : jz_M} (h : f_Mo_copy a1 a2 m = some r) : jz_m l y_Mo_copy cd_Mo_copy rm_Mo_copy (mz_G Z) [.ref (gz_ad (mz_G Z) 0), .int a1, .int a2] m none r := by
  refine jz_met (own := R_Mo) (by decide) rfl hI (Nat.le_of_ble_eq_true rfl) (fun X hX C => ?_)
  subst hX
  show jz_J X 4 (mz_G Z) _ m [(0, .ref (gz_ad (mz_G Z) 0)), (1, .int a1), (2, .int a2)] 0 []
  unfold f_Mo_copy at h
  refine jr_aload_n 0 C d_Mo_copy_0 rfl ?_
  refine gf_Mo_32 1 C d_Mo_copy_1 ?_
  refine jr_iload_n 4 C d_Mo_copy_4 rfl ?_
  refine jr_aload_n 5 C d_Mo_copy_5 rfl ?_
  refine gf_Mo_32 6 C d_Mo_copy_6 ?_
  refine jr_iload_n 9 C d_Mo_copy_9 rfl ?_
  obtain ⟨j1_, ej1_, h⟩ := jz_b h
  refine jr_iald 10 C d_Mo_copy_10 zk_Mo_sequence ej1_ ?_
  obtain ⟨j2_, ej2_, h⟩ := jz_b h
  obtain ⟨m3_, em3_, h⟩ := jz_ne h
  refine jr_iast 11 C d_Mo_copy_11 zk_Mo_sequence ej2_ ?_
  refine jr_mem em3_ ?_
  refine jr_aload_n 12 C d_Mo_copy_12 rfl ?_
  refine gf_Mo_35 13 C d_Mo_copy_13 ?_
  refine jr_iload_n 16 C d_Mo_copy_16 rfl ?_
  refine jr_aload_n 17 C d_Mo_copy_17 rfl ?_
  refine gf_Mo_32 18 C d_Mo_copy_18 ?_
  refine jr_iload_n 21 C d_Mo_copy_21 rfl ?_
  obtain ⟨j4_, ej4_, h⟩ := jz_b h
  refine jr_iald 22 C d_Mo_copy_22 zk_Mo_sequence ej4_ ?_
  refine jr_aload_n 23 C d_Mo_copy_23 rfl ?_
  refine gf_Mo_35 24 C d_Mo_copy_24 ?_
  refine jr_iload_n 27 C d_Mo_copy_27 rfl ?_
  obtain ⟨j5_, ej5_, h⟩ := jz_b h
  refine jr_iald 28 C d_Mo_copy_28 zk_Mo_most ej5_ ?_
  refine jr_icmp_le 29 41 C d_Mo_copy_29 (by decide) (fun c6_ => ?_) (fun c6_ => ?_)
  · have h := jz_t c6_ h
    refine jr_aload_n 41 C d_Mo_copy_41 rfl ?_
    refine gf_Mo_35 42 C d_Mo_copy_42 ?_
    refine jr_iload_n 45 C d_Mo_copy_45 rfl ?_
    obtain ⟨j7_, ej7_, h⟩ := jz_b h
    refine jr_iald 46 C d_Mo_copy_46 zk_Mo_most ej7_ ?_
    refine jr_sub [0, 1, 2] rfl ?_
    exact t_Mo_copy_47 C  a1 a2 (m3_ 9 j7_) a2 m3_ h
  · have h := jz_f c6_ h
    refine jr_aload_n 32 C d_Mo_copy_32 rfl ?_
    refine gf_Mo_32 33 C d_Mo_copy_33 ?_
    refine jr_iload_n 36 C d_Mo_copy_36 rfl ?_
    obtain ⟨j8_, ej8_, h⟩ := jz_b h
    refine jr_iald 37 C d_Mo_copy_37 zk_Mo_sequence ej8_ ?_
    refine jr_goto 38 47 C d_Mo_copy_38 (by decide) ?_
    refine jr_sub [0, 1, 2] rfl ?_
    exact t_Mo_copy_47 C  a1 a2 (m3_ 8 j8_) a2 m3_ h
abbrev rm_Mo_own : Room := { frames := 5, cells := 0, slots := 0, locals := 124 }
abbrev cd_Mo_own : Cond := .code y_Mo_own b_Mo_own 5 none
def f_Mo_own (a1 : Int32) (a2 : Int32) (a3 : Int32) (m : jz_M) : Option (jz_M) :=
  (f_Mo_at a1 a2 (((7 : Int32) * a1) + a3) m).bind fun v1_ =>
  (f_Mo_describes a1 a2 a3 m).bind fun v2_ =>
  if v2_.1 = 0 then
    (f_Mo_die a1 v1_ v2_.2).bind fun v4_ =>
    (jz_ix 504 v1_).bind fun j5_ =>
    jz_n (jz_up v4_ 17 j5_ 0) fun m6_ =>
    some m6_
  else
    (f_Mo_renew a1 a2 a3 v2_.2).bind fun v7_ =>
    some v7_
set_option maxHeartbeats 4000000 in
set_option maxRecDepth 100000 in
theorem c_Mo_own {Z : cz_Z} (l : Launch) (hI : jz_I (mz_G Z)) {a1 : Int32} {a2 : Int32} {a3 : Int32} {m : jz_M} {r : jz_M} (h : f_Mo_own a1 a2 a3 m = some r) : jz_m l y_Mo_own cd_Mo_own rm_Mo_own (mz_G Z) [.ref (gz_ad (mz_G Z) 0), .int a1, .int a2, .int a3] m none r := by
  refine jz_met (own := R_Mo) (by decide) rfl hI (Nat.le_of_ble_eq_true rfl) (fun X hX C => ?_)
  subst hX
  show jz_J X 5 (mz_G Z) _ m [(0, .ref (gz_ad (mz_G Z) 0)), (1, .int a1), (2, .int a2), (3, .int a3)] 0 []
  unfold f_Mo_own at h
  refine jr_iload_n 0 C d_Mo_own_0 rfl ?_
  refine jr_iload_n 1 C d_Mo_own_1 rfl ?_
  refine jr_bipush 2 7 C d_Mo_own_2 (by decide) ?_
  refine jr_iload_n 4 C d_Mo_own_4 rfl ?_
  refine jr_imul 5 C d_Mo_own_5 ?_
  refine jr_iload_n 6 C d_Mo_own_6 rfl ?_
  refine jr_iadd 7 C d_Mo_own_7 ?_
  obtain ⟨v1_, ev1_, h⟩ := jz_b h
  refine jr_callS 8 [.int a1, .int a2, .int (((7 : Int32) * a1) + a3)] C d_Mo_own_8 (c_Mo_at (xz_l X) C.2.2.2.2.2.2.1 ev1_) sz_Mo_at tz_Mo_at lk_Mo_133 (by decide) rfl rfl (Nat.le_of_ble_eq_true rfl) rfl ?_
  refine jr_istore 11 [(0, .ref (gz_ad (mz_G Z) 0)), (1, .int a1), (2, .int a2), (3, .int a3), (4, .int v1_)] C d_Mo_own_11 rfl (by decide) rfl ?_
  refine jr_aload_n 13 C d_Mo_own_13 rfl ?_
  refine jr_iload_n 14 C d_Mo_own_14 rfl ?_
  refine jr_iload_n 15 C d_Mo_own_15 rfl ?_
  refine jr_iload_n 16 C d_Mo_own_16 rfl ?_
  obtain ⟨v2_, ev2_, h⟩ := jz_b h
  refine jr_callV 17 [.int a1, .int a2, .int a3] C d_Mo_own_17 (c_Mo_describes (xz_l X) C.2.2.2.2.2.2.1 ev2_) sz_Mo_describes tz_Mo_describes lk_Mo_142 oz_Mo rfl (by decide) rfl rfl (Nat.le_of_ble_eq_true rfl) rfl ?_
  refine jr_if_eq 20 33 C d_Mo_own_20 (by decide) (fun c3_ => ?_) (fun c3_ => ?_)
  · have h := jz_t c3_ h
    refine jr_aload_n 33 C d_Mo_own_33 rfl ?_
    refine jr_iload_n 34 C d_Mo_own_34 rfl ?_
    refine jr_iload 35 C d_Mo_own_35 rfl ?_
    obtain ⟨v4_, ev4_, h⟩ := jz_b h
    refine jr_callV 37 [.int a1, .int v1_] C d_Mo_own_37 (c_Mo_die (xz_l X) C.2.2.2.2.2.2.1  ev4_) sz_Mo_die tz_Mo_die lk_Mo_151 oz_Mo rfl (by decide) rfl rfl (Nat.le_of_ble_eq_true rfl) rfl ?_
    refine jr_aload_n 40 C d_Mo_own_40 rfl ?_
    refine gf_Mo_59 41 C d_Mo_own_41 ?_
    refine jr_iload 44 C d_Mo_own_44 rfl ?_
    refine jr_iconst 46 0 C d_Mo_own_46 (by decide) ?_
    obtain ⟨j5_, ej5_, h⟩ := jz_b h
    obtain ⟨m6_, em6_, h⟩ := jz_ne h
    refine jr_iast 47 C d_Mo_own_47 zk_Mo_asked ej5_ ?_
    refine jr_mem em6_ ?_
    obtain rfl := Option.some.inj h
    exact jr_vret 48 C d_Mo_own_48 rfl
  · have h := jz_f c3_ h
    refine jr_aload_n 23 C d_Mo_own_23 rfl ?_
    refine jr_iload_n 24 C d_Mo_own_24 rfl ?_
    refine jr_iload_n 25 C d_Mo_own_25 rfl ?_
    refine jr_iload_n 26 C d_Mo_own_26 rfl ?_
    obtain ⟨v7_, ev7_, h⟩ := jz_b h
    refine jr_callV 27 [.int a1, .int a2, .int a3] C d_Mo_own_27 (c_Mo_renew (xz_l X) C.2.2.2.2.2.2.1  ev7_) sz_Mo_renew tz_Mo_renew lk_Mo_148 oz_Mo rfl (by decide) rfl rfl (Nat.le_of_ble_eq_true rfl) rfl ?_
    refine jr_goto 30 48 C d_Mo_own_30 (by decide) ?_
    obtain rfl := Option.some.inj h
    exact jr_vret 48 C d_Mo_own_48 rfl
abbrev rm_Mo_take : Room := { frames := 6, cells := 0, slots := 0, locals := 148 }
abbrev cd_Mo_take : Cond := .code y_Mo_take b_Mo_take 11 none
def f_Mo_take_179 (s0 : Int32) (s1 : Int32) (m : jz_M) : Option (jz_M) :=
  (jz_ix 504 s1).bind fun j1_ =>
  jz_n (jz_up m 17 j1_ s0) fun m2_ =>
  some m2_
set_option maxHeartbeats 4000000 in
set_option maxRecDepth 100000 in
theorem t_Mo_take_179 {Z : cz_Z} {X : jz_X} {r : jz_M} (C : jz_C X 11 b_Mo_take R_Mo none rm_Mo_take (mz_G Z)) : ∀ (s0 : Int32) (s1 : Int32) (m : jz_M) , f_Mo_take_179 s0 s1 m = some r → jz_J X 11 (mz_G Z) (jz_q X (mz_G Z) none r) m [] 179 [.int s0, .int s1, .ref (gz_ad (mz_G Z) 17)] := by
  intro s0 s1 m h
  unfold f_Mo_take_179 at h
  obtain ⟨j1_, ej1_, h⟩ := jz_b h
  obtain ⟨m2_, em2_, h⟩ := jz_ne h
  refine jr_iast 179 C d_Mo_take_179 zk_Mo_asked ej1_ ?_
  refine jr_mem em2_ ?_
  refine jr_goto 180 300 C d_Mo_take_180 (by decide) ?_
  obtain rfl := Option.some.inj h
  exact jr_vret 300 C d_Mo_take_300 rfl
def f_Mo_take_128 (x1 : Int32) (x3 : Int32) (x6 : Int32) (x8 : Int32) (m : jz_M) : Option (jz_M) :=
  (f_Mo_circuits x1 m).bind fun v1_ =>
  (jz_ix 504 x6).bind fun j2_ =>
  jz_n (jz_up m 16 j2_ (v1_ &&& (x8 ^^^ (-1)))) fun m3_ =>
  (f_Mo_isShared x3 m3_).bind fun v4_ =>
  if v4_ = 0 then
    (jz_ix 504 x6).bind fun j6_ =>
    f_Mo_take_179 ((m3_ 17 j6_) ||| x8) x6 m3_
  else
    (jz_ix 504 x6).bind fun j7_ =>
    f_Mo_take_179 (m3_ 17 j7_) x6 m3_
set_option maxHeartbeats 4000000 in
set_option maxRecDepth 100000 in
theorem t_Mo_take_128 {Z : cz_Z} {X : jz_X} {r : jz_M} (C : jz_C X 11 b_Mo_take R_Mo none rm_Mo_take (mz_G Z)) : ∀ (x1 : Int32) (x3 : Int32) (x6 : Int32) (x8 : Int32) (m : jz_M) , f_Mo_take_128 x1 x3 x6 x8 m = some r → jz_J X 11 (mz_G Z) (jz_q X (mz_G Z) none r) m [(0, .ref (gz_ad (mz_G Z) 0)), (1, .int x1), (3, .int x3), (6, .int x6), (8, .int x8)] 128 [] := by
  intro x1 x3 x6 x8 m h
  unfold f_Mo_take_128 at h
  refine jr_aload_n 128 C d_Mo_take_128 rfl ?_
  refine gf_Mo_56 129 C d_Mo_take_129 ?_
  refine jr_iload 132 C d_Mo_take_132 rfl ?_
  refine jr_aload_n 134 C d_Mo_take_134 rfl ?_
  refine jr_iload_n 135 C d_Mo_take_135 rfl ?_
  obtain ⟨v1_, ev1_, h⟩ := jz_b h
  refine jr_callV 136 [.int x1] C d_Mo_take_136 (c_Mo_circuits (xz_l X) C.2.2.2.2.2.2.1 ev1_) sz_Mo_circuits tz_Mo_circuits lk_Mo_139 oz_Mo rfl (by decide) rfl rfl (Nat.le_of_ble_eq_true rfl) rfl ?_
  refine jr_iload 139 C d_Mo_take_139 rfl ?_
  refine jr_iconst 141 (-1) C d_Mo_take_141 (by decide) ?_
  refine jr_ixor 142 C d_Mo_take_142 ?_
  refine jr_iand 143 C d_Mo_take_143 ?_
  obtain ⟨j2_, ej2_, h⟩ := jz_b h
  obtain ⟨m3_, em3_, h⟩ := jz_ne h
  refine jr_iast 144 C d_Mo_take_144 zk_Mo_due ej2_ ?_
  refine jr_mem em3_ ?_
  refine jr_aload_n 145 C d_Mo_take_145 rfl ?_
  refine gf_Mo_59 146 C d_Mo_take_146 ?_
  refine jr_iload 149 C d_Mo_take_149 rfl ?_
  refine jr_aload_n 151 C d_Mo_take_151 rfl ?_
  refine jr_iload_n 152 C d_Mo_take_152 rfl ?_
  obtain ⟨v4_, ev4_, h⟩ := jz_b h
  refine jr_callV 153 [.int x3] C d_Mo_take_153 (c_Mo_isShared (xz_l X) C.2.2.2.2.2.2.1 ev4_) sz_Mo_isShared tz_Mo_isShared lk_Mo_111 oz_Mo rfl (by decide) rfl rfl (Nat.le_of_ble_eq_true rfl) rfl ?_
  refine jr_if_eq 156 169 C d_Mo_take_156 (by decide) (fun c5_ => ?_) (fun c5_ => ?_)
  · have h := jz_t c5_ h
    refine jr_aload_n 169 C d_Mo_take_169 rfl ?_
    refine gf_Mo_59 170 C d_Mo_take_170 ?_
    refine jr_iload 173 C d_Mo_take_173 rfl ?_
    obtain ⟨j6_, ej6_, h⟩ := jz_b h
    refine jr_iald 175 C d_Mo_take_175 zk_Mo_asked ej6_ ?_
    refine jr_iload 176 C d_Mo_take_176 rfl ?_
    refine jr_ior 178 C d_Mo_take_178 ?_
    refine jr_sub [] rfl ?_
    exact t_Mo_take_179 C  ((m3_ 17 j6_) ||| x8) x6 m3_ h
  · have h := jz_f c5_ h
    refine jr_aload_n 159 C d_Mo_take_159 rfl ?_
    refine gf_Mo_59 160 C d_Mo_take_160 ?_
    refine jr_iload 163 C d_Mo_take_163 rfl ?_
    obtain ⟨j7_, ej7_, h⟩ := jz_b h
    refine jr_iald 165 C d_Mo_take_165 zk_Mo_asked ej7_ ?_
    refine jr_goto 166 179 C d_Mo_take_166 (by decide) ?_
    refine jr_sub [] rfl ?_
    exact t_Mo_take_179 C  (m3_ 17 j7_) x6 m3_ h
def f_Mo_take_93 (x1 : Int32) (x3 : Int32) (x4 : Int32) (x5 : Int32) (x6 : Int32) (x7 : Int32) (x8 : Int32) (x10 : Int32) (m : jz_M) : Option (jz_M) :=
  (f_Mo_copy x7 x6 m).bind fun v1_ =>
  if ¬ (x5 / 7) = x1 then
    f_Mo_take_128 x1 x3 x6 x8 v1_
  else
    if ¬ x10 = 0 then
      f_Mo_take_128 x1 x3 x6 x8 v1_
    else
      (f_Mo_own x1 x4 (x5 - x5 / 7 * 7) v1_).bind fun v4_ =>
      some v4_
set_option maxHeartbeats 4000000 in
set_option maxRecDepth 100000 in
theorem t_Mo_take_93 {Z : cz_Z} {X : jz_X} {r : jz_M} (C : jz_C X 11 b_Mo_take R_Mo none rm_Mo_take (mz_G Z)) : ∀ (x1 : Int32) (x3 : Int32) (x4 : Int32) (x5 : Int32) (x6 : Int32) (x7 : Int32) (x8 : Int32) (x10 : Int32) (m : jz_M) , f_Mo_take_93 x1 x3 x4 x5 x6 x7 x8 x10 m = some r → jz_J X 11 (mz_G Z) (jz_q X (mz_G Z) none r) m [(0, .ref (gz_ad (mz_G Z) 0)), (1, .int x1), (3, .int x3), (4, .int x4), (5, .int x5), (6, .int x6), (7, .int x7), (8, .int x8), (10, .int x10)] 93 [] := by
  intro x1 x3 x4 x5 x6 x7 x8 x10 m h
  unfold f_Mo_take_93 at h
  refine jr_aload_n 93 C d_Mo_take_93 rfl ?_
  refine jr_iload 94 C d_Mo_take_94 rfl ?_
  refine jr_iload 96 C d_Mo_take_96 rfl ?_
  obtain ⟨v1_, ev1_, h⟩ := jz_b h
  refine jr_callV 98 [.int x7, .int x6] C d_Mo_take_98 (c_Mo_copy (xz_l X) C.2.2.2.2.2.2.1 ev1_) sz_Mo_copy tz_Mo_copy lk_Mo_161 oz_Mo rfl (by decide) rfl rfl (Nat.le_of_ble_eq_true rfl) rfl ?_
  refine jr_iload 101 C d_Mo_take_101 rfl ?_
  refine jr_bipush 103 7 C d_Mo_take_103 (by decide) ?_
  refine jr_idiv 105 C d_Mo_take_105 (by decide) ?_
  refine jr_iload_n 106 C d_Mo_take_106 rfl ?_
  refine jr_icmp_ne 107 128 C d_Mo_take_107 (by decide) (fun c2_ => ?_) (fun c2_ => ?_)
  · have h := jz_t c2_ h
    refine jr_sub [0, 1, 2, 5, 7] rfl ?_
    exact t_Mo_take_128 C  x1 x3 x6 x8 v1_ h
  · have h := jz_f c2_ h
    refine jr_iload 110 C d_Mo_take_110 rfl ?_
    refine jr_if_ne 112 128 C d_Mo_take_112 (by decide) (fun c3_ => ?_) (fun c3_ => ?_)
    · have h := jz_t c3_ h
      refine jr_sub [0, 1, 2, 5, 7] rfl ?_
      exact t_Mo_take_128 C  x1 x3 x6 x8 v1_ h
    · have h := jz_f c3_ h
      refine jr_aload_n 115 C d_Mo_take_115 rfl ?_
      refine jr_iload_n 116 C d_Mo_take_116 rfl ?_
      refine jr_iload 117 C d_Mo_take_117 rfl ?_
      refine jr_iload 119 C d_Mo_take_119 rfl ?_
      refine jr_bipush 121 7 C d_Mo_take_121 (by decide) ?_
      refine jr_irem 123 C d_Mo_take_123 (by decide) ?_
      obtain ⟨v4_, ev4_, h⟩ := jz_b h
      refine jr_callV 124 [.int x1, .int x4, .int (x5 - x5 / 7 * 7)] C d_Mo_take_124 (c_Mo_own (xz_l X) C.2.2.2.2.2.2.1  ev4_) sz_Mo_own tz_Mo_own lk_Mo_164 oz_Mo rfl (by decide) rfl rfl (Nat.le_of_ble_eq_true rfl) rfl ?_
      obtain rfl := Option.some.inj h
      exact jr_vret 127 C d_Mo_take_127 rfl
def f_Mo_take_57 (x1 : Int32) (x3 : Int32) (x4 : Int32) (x5 : Int32) (x6 : Int32) (x7 : Int32) (x8 : Int32) (x9 : Int32) (s0 : Int32) (m : jz_M) : Option (jz_M) :=
  (jz_ix 504 x6).bind fun j1_ =>
  if (m 8 j1_) = 0 then
    f_Mo_take_93 x1 x3 x4 x5 x6 x7 x8 s0 m
  else
    (jz_ix 504 x7).bind fun j3_ =>
    (jz_ix 504 x6).bind fun j4_ =>
    (f_Mo_newer (m 8 j3_) s0 (m 8 j4_) x9 m).bind fun v5_ =>
    if v5_ = 0 then
      (jz_ix 504 x6).bind fun j7_ =>
      (jz_ix 504 x7).bind fun j8_ =>
      (f_Mo_newer (m 8 j7_) x9 (m 8 j8_) s0 m).bind fun v9_ =>
      if v9_ = 0 then
        (jz_ix 504 x6).bind fun j11_ =>
        (jz_ix 504 x6).bind fun j12_ =>
        jz_n (jz_up m 16 j12_ ((m 16 j11_) &&& (x8 ^^^ (-1)))) fun m13_ =>
        (f_Mo_isShared x3 m13_).bind fun v14_ =>
        if v14_ = 0 then
          (jz_ix 504 x6).bind fun j16_ =>
          (jz_ix 504 x6).bind fun j17_ =>
          jz_n (jz_up m13_ 17 j17_ ((m13_ 17 j16_) ||| x8)) fun m18_ =>
          some m18_
        else
          (jz_ix 504 x6).bind fun j19_ =>
          (jz_ix 504 x6).bind fun j20_ =>
          jz_n (jz_up m13_ 17 j20_ (m13_ 17 j19_)) fun m21_ =>
          some m21_
      else
        (jz_ix 504 x6).bind fun j22_ =>
        (jz_ix 504 x6).bind fun j23_ =>
        jz_n (jz_up m 16 j23_ ((m 16 j22_) ||| x8)) fun m24_ =>
        (jz_ix 504 x6).bind fun j25_ =>
        (jz_ix 504 x6).bind fun j26_ =>
        jz_n (jz_up m24_ 17 j26_ ((m24_ 17 j25_) &&& (x8 ^^^ (-1)))) fun m27_ =>
        some m27_
    else
      f_Mo_take_93 x1 x3 x4 x5 x6 x7 x8 s0 m
set_option maxHeartbeats 4000000 in
set_option maxRecDepth 100000 in
theorem t_Mo_take_57 {Z : cz_Z} {X : jz_X} {r : jz_M} (C : jz_C X 11 b_Mo_take R_Mo none rm_Mo_take (mz_G Z)) : ∀ (x1 : Int32) (x3 : Int32) (x4 : Int32) (x5 : Int32) (x6 : Int32) (x7 : Int32) (x8 : Int32) (x9 : Int32) (s0 : Int32) (m : jz_M) , f_Mo_take_57 x1 x3 x4 x5 x6 x7 x8 x9 s0 m = some r → jz_J X 11 (mz_G Z) (jz_q X (mz_G Z) none r) m [(0, .ref (gz_ad (mz_G Z) 0)), (1, .int x1), (3, .int x3), (4, .int x4), (5, .int x5), (6, .int x6), (7, .int x7), (8, .int x8), (9, .int x9)] 57 [.int s0] := by
  intro x1 x3 x4 x5 x6 x7 x8 x9 s0 m h
  unfold f_Mo_take_57 at h
  refine jr_istore 57 [(0, .ref (gz_ad (mz_G Z) 0)), (1, .int x1), (3, .int x3), (4, .int x4), (5, .int x5), (6, .int x6), (7, .int x7), (8, .int x8), (9, .int x9), (10, .int s0)] C d_Mo_take_57 rfl (by decide) rfl ?_
  refine jr_aload_n 59 C d_Mo_take_59 rfl ?_
  refine gf_Mo_32 60 C d_Mo_take_60 ?_
  refine jr_iload 63 C d_Mo_take_63 rfl ?_
  obtain ⟨j1_, ej1_, h⟩ := jz_b h
  refine jr_iald 65 C d_Mo_take_65 zk_Mo_sequence ej1_ ?_
  refine jr_if_eq 66 93 C d_Mo_take_66 (by decide) (fun c2_ => ?_) (fun c2_ => ?_)
  · have h := jz_t c2_ h
    refine jr_sub [0, 1, 2, 3, 4, 5, 6, 7, 9] rfl ?_
    exact t_Mo_take_93 C  x1 x3 x4 x5 x6 x7 x8 s0 m h
  · have h := jz_f c2_ h
    refine jr_aload_n 69 C d_Mo_take_69 rfl ?_
    refine gf_Mo_32 70 C d_Mo_take_70 ?_
    refine jr_iload 73 C d_Mo_take_73 rfl ?_
    obtain ⟨j3_, ej3_, h⟩ := jz_b h
    refine jr_iald 75 C d_Mo_take_75 zk_Mo_sequence ej3_ ?_
    refine jr_iload 76 C d_Mo_take_76 rfl ?_
    refine jr_aload_n 78 C d_Mo_take_78 rfl ?_
    refine gf_Mo_32 79 C d_Mo_take_79 ?_
    refine jr_iload 82 C d_Mo_take_82 rfl ?_
    obtain ⟨j4_, ej4_, h⟩ := jz_b h
    refine jr_iald 84 C d_Mo_take_84 zk_Mo_sequence ej4_ ?_
    refine jr_iload 85 C d_Mo_take_85 rfl ?_
    obtain ⟨v5_, ev5_, h⟩ := jz_b h
    refine jr_callS 87 [.int (m 8 j3_), .int s0, .int (m 8 j4_), .int x9] C d_Mo_take_87 (c_Mo_newer (xz_l X) C.2.2.2.2.2.2.1  ev5_) sz_Mo_newer tz_Mo_newer lk_Mo_157 (by decide) rfl rfl (Nat.le_of_ble_eq_true rfl) rfl ?_
    refine jr_if_eq 90 183 C d_Mo_take_90 (by decide) (fun c6_ => ?_) (fun c6_ => ?_)
    · have h := jz_t c6_ h
      refine jr_aload_n 183 C d_Mo_take_183 rfl ?_
      refine gf_Mo_32 184 C d_Mo_take_184 ?_
      refine jr_iload 187 C d_Mo_take_187 rfl ?_
      obtain ⟨j7_, ej7_, h⟩ := jz_b h
      refine jr_iald 189 C d_Mo_take_189 zk_Mo_sequence ej7_ ?_
      refine jr_iload 190 C d_Mo_take_190 rfl ?_
      refine jr_aload_n 192 C d_Mo_take_192 rfl ?_
      refine gf_Mo_32 193 C d_Mo_take_193 ?_
      refine jr_iload 196 C d_Mo_take_196 rfl ?_
      obtain ⟨j8_, ej8_, h⟩ := jz_b h
      refine jr_iald 198 C d_Mo_take_198 zk_Mo_sequence ej8_ ?_
      refine jr_iload 199 C d_Mo_take_199 rfl ?_
      obtain ⟨v9_, ev9_, h⟩ := jz_b h
      refine jr_callS 201 [.int (m 8 j7_), .int x9, .int (m 8 j8_), .int s0] C d_Mo_take_201 (c_Mo_newer (xz_l X) C.2.2.2.2.2.2.1  ev9_) sz_Mo_newer tz_Mo_newer lk_Mo_157 (by decide) rfl rfl (Nat.le_of_ble_eq_true rfl) rfl ?_
      refine jr_if_eq 204 246 C d_Mo_take_204 (by decide) (fun c10_ => ?_) (fun c10_ => ?_)
      · have h := jz_t c10_ h
        refine jr_aload_n 246 C d_Mo_take_246 rfl ?_
        refine gf_Mo_56 247 C d_Mo_take_247 ?_
        refine jr_iload 250 C d_Mo_take_250 rfl ?_
        refine jr_aload_n 252 C d_Mo_take_252 rfl ?_
        refine gf_Mo_56 253 C d_Mo_take_253 ?_
        refine jr_iload 256 C d_Mo_take_256 rfl ?_
        obtain ⟨j11_, ej11_, h⟩ := jz_b h
        refine jr_iald 258 C d_Mo_take_258 zk_Mo_due ej11_ ?_
        refine jr_iload 259 C d_Mo_take_259 rfl ?_
        refine jr_iconst 261 (-1) C d_Mo_take_261 (by decide) ?_
        refine jr_ixor 262 C d_Mo_take_262 ?_
        refine jr_iand 263 C d_Mo_take_263 ?_
        obtain ⟨j12_, ej12_, h⟩ := jz_b h
        obtain ⟨m13_, em13_, h⟩ := jz_ne h
        refine jr_iast 264 C d_Mo_take_264 zk_Mo_due ej12_ ?_
        refine jr_mem em13_ ?_
        refine jr_aload_n 265 C d_Mo_take_265 rfl ?_
        refine gf_Mo_59 266 C d_Mo_take_266 ?_
        refine jr_iload 269 C d_Mo_take_269 rfl ?_
        refine jr_aload_n 271 C d_Mo_take_271 rfl ?_
        refine jr_iload_n 272 C d_Mo_take_272 rfl ?_
        obtain ⟨v14_, ev14_, h⟩ := jz_b h
        refine jr_callV 273 [.int x3] C d_Mo_take_273 (c_Mo_isShared (xz_l X) C.2.2.2.2.2.2.1  ev14_) sz_Mo_isShared tz_Mo_isShared lk_Mo_111 oz_Mo rfl (by decide) rfl rfl (Nat.le_of_ble_eq_true rfl) rfl ?_
        refine jr_if_eq 276 289 C d_Mo_take_276 (by decide) (fun c15_ => ?_) (fun c15_ => ?_)
        · have h := jz_t c15_ h
          refine jr_aload_n 289 C d_Mo_take_289 rfl ?_
          refine gf_Mo_59 290 C d_Mo_take_290 ?_
          refine jr_iload 293 C d_Mo_take_293 rfl ?_
          obtain ⟨j16_, ej16_, h⟩ := jz_b h
          refine jr_iald 295 C d_Mo_take_295 zk_Mo_asked ej16_ ?_
          refine jr_iload 296 C d_Mo_take_296 rfl ?_
          refine jr_ior 298 C d_Mo_take_298 ?_
          obtain ⟨j17_, ej17_, h⟩ := jz_b h
          obtain ⟨m18_, em18_, h⟩ := jz_ne h
          refine jr_iast 299 C d_Mo_take_299 zk_Mo_asked ej17_ ?_
          refine jr_mem em18_ ?_
          obtain rfl := Option.some.inj h
          exact jr_vret 300 C d_Mo_take_300 rfl
        · have h := jz_f c15_ h
          refine jr_aload_n 279 C d_Mo_take_279 rfl ?_
          refine gf_Mo_59 280 C d_Mo_take_280 ?_
          refine jr_iload 283 C d_Mo_take_283 rfl ?_
          obtain ⟨j19_, ej19_, h⟩ := jz_b h
          refine jr_iald 285 C d_Mo_take_285 zk_Mo_asked ej19_ ?_
          refine jr_goto 286 299 C d_Mo_take_286 (by decide) ?_
          obtain ⟨j20_, ej20_, h⟩ := jz_b h
          obtain ⟨m21_, em21_, h⟩ := jz_ne h
          refine jr_iast 299 C d_Mo_take_299 zk_Mo_asked ej20_ ?_
          refine jr_mem em21_ ?_
          obtain rfl := Option.some.inj h
          exact jr_vret 300 C d_Mo_take_300 rfl
      · have h := jz_f c10_ h
        refine jr_aload_n 207 C d_Mo_take_207 rfl ?_
        refine gf_Mo_56 208 C d_Mo_take_208 ?_
        refine jr_iload 211 C d_Mo_take_211 rfl ?_
        refine jr_aload_n 213 C d_Mo_take_213 rfl ?_
        refine gf_Mo_56 214 C d_Mo_take_214 ?_
        refine jr_iload 217 C d_Mo_take_217 rfl ?_
        obtain ⟨j22_, ej22_, h⟩ := jz_b h
        refine jr_iald 219 C d_Mo_take_219 zk_Mo_due ej22_ ?_
        refine jr_iload 220 C d_Mo_take_220 rfl ?_
        refine jr_ior 222 C d_Mo_take_222 ?_
        obtain ⟨j23_, ej23_, h⟩ := jz_b h
        obtain ⟨m24_, em24_, h⟩ := jz_ne h
        refine jr_iast 223 C d_Mo_take_223 zk_Mo_due ej23_ ?_
        refine jr_mem em24_ ?_
        refine jr_aload_n 224 C d_Mo_take_224 rfl ?_
        refine gf_Mo_59 225 C d_Mo_take_225 ?_
        refine jr_iload 228 C d_Mo_take_228 rfl ?_
        refine jr_aload_n 230 C d_Mo_take_230 rfl ?_
        refine gf_Mo_59 231 C d_Mo_take_231 ?_
        refine jr_iload 234 C d_Mo_take_234 rfl ?_
        obtain ⟨j25_, ej25_, h⟩ := jz_b h
        refine jr_iald 236 C d_Mo_take_236 zk_Mo_asked ej25_ ?_
        refine jr_iload 237 C d_Mo_take_237 rfl ?_
        refine jr_iconst 239 (-1) C d_Mo_take_239 (by decide) ?_
        refine jr_ixor 240 C d_Mo_take_240 ?_
        refine jr_iand 241 C d_Mo_take_241 ?_
        obtain ⟨j26_, ej26_, h⟩ := jz_b h
        obtain ⟨m27_, em27_, h⟩ := jz_ne h
        refine jr_iast 242 C d_Mo_take_242 zk_Mo_asked ej26_ ?_
        refine jr_mem em27_ ?_
        refine jr_goto 243 300 C d_Mo_take_243 (by decide) ?_
        obtain rfl := Option.some.inj h
        exact jr_vret 300 C d_Mo_take_300 rfl
    · have h := jz_f c6_ h
      refine jr_sub [0, 1, 2, 3, 4, 5, 6, 7, 9] rfl ?_
      exact t_Mo_take_93 C  x1 x3 x4 x5 x6 x7 x8 s0 m h
def f_Mo_take_40 (x1 : Int32) (x3 : Int32) (x4 : Int32) (x5 : Int32) (x6 : Int32) (x7 : Int32) (x8 : Int32) (s0 : Int32) (m : jz_M) : Option (jz_M) :=
  (jz_ix 504 x7).bind fun j1_ =>
  if ¬ (m 10 j1_) = 0 then
    f_Mo_take_57 x1 x3 x4 x5 x6 x7 x8 s0 0 m
  else
    f_Mo_take_57 x1 x3 x4 x5 x6 x7 x8 s0 1 m
set_option maxHeartbeats 4000000 in
set_option maxRecDepth 100000 in
theorem t_Mo_take_40 {Z : cz_Z} {X : jz_X} {r : jz_M} (C : jz_C X 11 b_Mo_take R_Mo none rm_Mo_take (mz_G Z)) : ∀ (x1 : Int32) (x3 : Int32) (x4 : Int32) (x5 : Int32) (x6 : Int32) (x7 : Int32) (x8 : Int32) (s0 : Int32) (m : jz_M) , f_Mo_take_40 x1 x3 x4 x5 x6 x7 x8 s0 m = some r → jz_J X 11 (mz_G Z) (jz_q X (mz_G Z) none r) m [(0, .ref (gz_ad (mz_G Z) 0)), (1, .int x1), (3, .int x3), (4, .int x4), (5, .int x5), (6, .int x6), (7, .int x7), (8, .int x8)] 40 [.int s0] := by
  intro x1 x3 x4 x5 x6 x7 x8 s0 m h
  unfold f_Mo_take_40 at h
  refine jr_istore 40 [(0, .ref (gz_ad (mz_G Z) 0)), (1, .int x1), (3, .int x3), (4, .int x4), (5, .int x5), (6, .int x6), (7, .int x7), (8, .int x8), (9, .int s0)] C d_Mo_take_40 rfl (by decide) rfl ?_
  refine jr_aload_n 42 C d_Mo_take_42 rfl ?_
  refine gf_Mo_38 43 C d_Mo_take_43 ?_
  refine jr_iload 46 C d_Mo_take_46 rfl ?_
  obtain ⟨j1_, ej1_, h⟩ := jz_b h
  refine jr_iald 48 C d_Mo_take_48 zk_Mo_life ej1_ ?_
  refine jr_if_ne 49 56 C d_Mo_take_49 (by decide) (fun c2_ => ?_) (fun c2_ => ?_)
  · have h := jz_t c2_ h
    refine jr_iconst 56 0 C d_Mo_take_56 (by decide) ?_
    refine jr_sub [0, 1, 2, 3, 4, 5, 6, 7, 8] rfl ?_
    exact t_Mo_take_57 C  x1 x3 x4 x5 x6 x7 x8 s0 0 m h
  · have h := jz_f c2_ h
    refine jr_iconst 52 1 C d_Mo_take_52 (by decide) ?_
    refine jr_goto 53 57 C d_Mo_take_53 (by decide) ?_
    refine jr_sub [0, 1, 2, 3, 4, 5, 6, 7, 8] rfl ?_
    exact t_Mo_take_57 C  x1 x3 x4 x5 x6 x7 x8 s0 1 m h
def f_Mo_take (a1 : Int32) (a2 : Int32) (a3 : Int32) (a4 : Int32) (a5 : Int32) (m : jz_M) : Option (jz_M) :=
  (f_Mo_at a1 a4 a5 m).bind fun v1_ =>
  (f_Mo_at a2 a4 a5 m).bind fun v2_ =>
  jz_n ((1 : Int32) <<< (a3 &&& 31)) fun x3_ =>
  (jz_ix 504 v1_).bind fun j4_ =>
  if ¬ (m 10 j4_) = 0 then
    f_Mo_take_40 a1 a3 a4 a5 v1_ v2_ x3_ 0 m
  else
    f_Mo_take_40 a1 a3 a4 a5 v1_ v2_ x3_ 1 m
set_option maxHeartbeats 4000000 in
set_option maxRecDepth 100000 in
theorem c_Mo_take {Z : cz_Z} (l : Launch) (hI : jz_I (mz_G Z)) {a1 : Int32} {a2 : Int32} {a3 : Int32} {a4 : Int32} {a5 : Int32} {m : jz_M} {r : jz_M} (h : f_Mo_take a1 a2 a3 a4 a5 m = some r) : jz_m l y_Mo_take cd_Mo_take rm_Mo_take (mz_G Z) [.ref (gz_ad (mz_G Z) 0), .int a1, .int a2, .int a3, .int a4, .int a5] m none r := by
  refine jz_met (own := R_Mo) (by decide) rfl hI (Nat.le_of_ble_eq_true rfl) (fun X hX C => ?_)
  subst hX
  show jz_J X 11 (mz_G Z) _ m [(0, .ref (gz_ad (mz_G Z) 0)), (1, .int a1), (2, .int a2), (3, .int a3), (4, .int a4), (5, .int a5)] 0 []
  unfold f_Mo_take at h
  refine jr_iload_n 0 C d_Mo_take_0 rfl ?_
  refine jr_iload 1 C d_Mo_take_1 rfl ?_
  refine jr_iload 3 C d_Mo_take_3 rfl ?_
  obtain ⟨v1_, ev1_, h⟩ := jz_b h
  refine jr_callS 5 [.int a1, .int a4, .int a5] C d_Mo_take_5 (c_Mo_at (xz_l X) C.2.2.2.2.2.2.1 ev1_) sz_Mo_at tz_Mo_at lk_Mo_133 (by decide) rfl rfl (Nat.le_of_ble_eq_true rfl) rfl ?_
  refine jr_istore 8 [(0, .ref (gz_ad (mz_G Z) 0)), (1, .int a1), (2, .int a2), (3, .int a3), (4, .int a4), (5, .int a5), (6, .int v1_)] C d_Mo_take_8 rfl (by decide) rfl ?_
  refine jr_iload_n 10 C d_Mo_take_10 rfl ?_
  refine jr_iload 11 C d_Mo_take_11 rfl ?_
  refine jr_iload 13 C d_Mo_take_13 rfl ?_
  obtain ⟨v2_, ev2_, h⟩ := jz_b h
  refine jr_callS 15 [.int a2, .int a4, .int a5] C d_Mo_take_15 (c_Mo_at (xz_l X) C.2.2.2.2.2.2.1 ev2_) sz_Mo_at tz_Mo_at lk_Mo_133 (by decide) rfl rfl (Nat.le_of_ble_eq_true rfl) rfl ?_
  refine jr_istore 18 [(0, .ref (gz_ad (mz_G Z) 0)), (1, .int a1), (2, .int a2), (3, .int a3), (4, .int a4), (5, .int a5), (6, .int v1_), (7, .int v2_)] C d_Mo_take_18 rfl (by decide) rfl ?_
  refine jr_iconst 20 1 C d_Mo_take_20 (by decide) ?_
  refine jr_iload_n 21 C d_Mo_take_21 rfl ?_
  refine jr_ishl 22 C d_Mo_take_22 ?_
  obtain ⟨x3_, ex3_, h⟩ := jz_ne h
  refine jr_top ex3_ ?_
  refine jr_istore 23 [(0, .ref (gz_ad (mz_G Z) 0)), (1, .int a1), (2, .int a2), (3, .int a3), (4, .int a4), (5, .int a5), (6, .int v1_), (7, .int v2_), (8, .int x3_)] C d_Mo_take_23 rfl (by decide) rfl ?_
  refine jr_aload_n 25 C d_Mo_take_25 rfl ?_
  refine gf_Mo_38 26 C d_Mo_take_26 ?_
  refine jr_iload 29 C d_Mo_take_29 rfl ?_
  obtain ⟨j4_, ej4_, h⟩ := jz_b h
  refine jr_iald 31 C d_Mo_take_31 zk_Mo_life ej4_ ?_
  refine jr_if_ne 32 39 C d_Mo_take_32 (by decide) (fun c5_ => ?_) (fun c5_ => ?_)
  · have h := jz_t c5_ h
    refine jr_iconst 39 0 C d_Mo_take_39 (by decide) ?_
    refine jr_sub [0, 1, 3, 4, 5, 6, 7, 8] rfl ?_
    exact t_Mo_take_40 C  a1 a3 a4 a5 v1_ v2_ x3_ 0 m h
  · have h := jz_f c5_ h
    refine jr_iconst 35 1 C d_Mo_take_35 (by decide) ?_
    refine jr_goto 36 40 C d_Mo_take_36 (by decide) ?_
    refine jr_sub [0, 1, 3, 4, 5, 6, 7, 8] rfl ?_
    exact t_Mo_take_40 C  a1 a3 a4 a5 v1_ v2_ x3_ 1 m h
