abbrev rm_Mo_lowest : Room := { frames := 0, cells := 0, slots := 0, locals := 0 }
abbrev cd_Mo_lowest : Cond := .code y_Mo_lowest b_Mo_lowest 2 (some .int)
def f_Mo_lowest_2 (m : jz_M) : Nat → Int32 → Int32 → Option (Int32)
  | 0, _, _ => none
  | fu + 1, x0, x1 =>
    if 6 ≤ x1 then
      some x1
    else
      if ¬ ((x0 >>> (x1 &&& 31)) &&& 1) = 0 then
        some x1
      else
        jz_n (x1 + 1) fun x3_ =>
        f_Mo_lowest_2 m fu x0 x3_
set_option maxHeartbeats 4000000 in
set_option maxRecDepth 100000 in
theorem t_Mo_lowest_2 {Z : cz_Z} {X : jz_X} {m : jz_M} {r : Int32} (C : jz_C X 2 b_Mo_lowest R_Mo (some .int) rm_Mo_lowest (mz_G Z)) : ∀ (fu : Nat) (x0 : Int32) (x1 : Int32) , f_Mo_lowest_2 m fu x0 x1 = some r → jz_J X 2 (mz_G Z) (jz_q X (mz_G Z) (some (.int r)) m) m [(0, .int x0), (1, .int x1)] 2 [] := by
  intro fu
  induction fu with
  | zero => intro x0 x1 h; cases h
  | succ fu ih =>
    intro x0 x1 h
    rw [f_Mo_lowest_2] at h
    refine jr_iload_n 2 C d_Mo_lowest_2 rfl ?_
    refine jr_bipush 3 6 C d_Mo_lowest_3 (by decide) ?_
    refine jr_icmp_ge 5 22 C d_Mo_lowest_5 (by decide) (fun c1_ => ?_) (fun c1_ => ?_)
    · have h := jz_t c1_ h
      refine jr_iload_n 22 C d_Mo_lowest_22 rfl ?_
      obtain rfl := Option.some.inj h
      exact jr_iret 23 (v := x1) C d_Mo_lowest_23 rfl
    · have h := jz_f c1_ h
      refine jr_iload_n 8 C d_Mo_lowest_8 rfl ?_
      refine jr_iload_n 9 C d_Mo_lowest_9 rfl ?_
      refine jr_ishr 10 C d_Mo_lowest_10 ?_
      refine jr_iconst 11 1 C d_Mo_lowest_11 (by decide) ?_
      refine jr_iand 12 C d_Mo_lowest_12 ?_
      refine jr_if_ne 13 22 C d_Mo_lowest_13 (by decide) (fun c2_ => ?_) (fun c2_ => ?_)
      · have h := jz_t c2_ h
        refine jr_iload_n 22 C d_Mo_lowest_22 rfl ?_
        obtain rfl := Option.some.inj h
        exact jr_iret 23 (v := x1) C d_Mo_lowest_23 rfl
      · have h := jz_f c2_ h
        obtain ⟨x3_, ex3_, h⟩ := jz_ne h
        refine jr_iinc 16 [(0, .int x0), (1, .int x3_)] C d_Mo_lowest_16 rfl (by decide) rfl (by rw [ex3_]; rfl) rfl ?_
        refine jr_goto 19 2 C d_Mo_lowest_19 (by decide) ?_
        refine jr_sub [0, 1] rfl ?_
        exact ih x0 x3_  h
def f_Mo_lowest (a0 : Int32) (m : jz_M) : Option (Int32) :=
  f_Mo_lowest_2 m 1000000 a0 0
set_option maxHeartbeats 4000000 in
set_option maxRecDepth 100000 in
theorem c_Mo_lowest {Z : cz_Z} (l : Launch) (hI : jz_I (mz_G Z)) {a0 : Int32} {m : jz_M} {r : Int32} (h : f_Mo_lowest a0 m = some r) : jz_m l y_Mo_lowest cd_Mo_lowest rm_Mo_lowest (mz_G Z) [.int a0] m (some (.int r)) m := by
  refine jz_met (own := R_Mo) (by decide) rfl hI (Nat.le_of_ble_eq_true rfl) (fun X hX C => ?_)
  subst hX
  show jz_J X 2 (mz_G Z) _ m [(0, .int a0)] 0 []
  unfold f_Mo_lowest at h
  refine jr_iconst 0 0 C d_Mo_lowest_0 (by decide) ?_
  refine jr_istore_n 1 [(0, .int a0), (1, .int 0)] C d_Mo_lowest_1 rfl (by decide) rfl ?_
  refine jr_sub [0, 1] rfl ?_
  exact t_Mo_lowest_2 C 1000000 a0 0 h
abbrev rm_Mo_way : Room := { frames := 1, cells := 0, slots := 0, locals := 21 }
abbrev cd_Mo_way : Cond := .code y_Mo_way b_Mo_way 3 (some .int)
def f_Mo_way_17 (m : jz_M) : Option (Int32) :=
  some (-1)
set_option maxHeartbeats 4000000 in
set_option maxRecDepth 100000 in
theorem t_Mo_way_17 {Z : cz_Z} {X : jz_X} {m : jz_M} {r : Int32} (C : jz_C X 3 b_Mo_way R_Mo (some .int) rm_Mo_way (mz_G Z)) : f_Mo_way_17 m = some r → jz_J X 3 (mz_G Z) (jz_q X (mz_G Z) (some (.int r)) m) m [] 17 [] := by
  intro h
  unfold f_Mo_way_17 at h
  refine jr_iconst 17 (-1) C d_Mo_way_17 (by decide) ?_
  refine jr_goto 18 46 C d_Mo_way_18 (by decide) ?_
  obtain rfl := Option.some.inj h
  exact jr_iret 46 (v := (-1)) C d_Mo_way_46 rfl
def f_Mo_way (a1 : Int32) (a2 : Int32) (m : jz_M) : Option (Int32) :=
  (jz_ix 42 ((7 : Int32) * a2)).bind fun j1_ =>
  if (m 19 j1_) < 0 then
    f_Mo_way_17 m
  else
    if ¬ a2 = a1 then
      (jz_ix 42 ((7 : Int32) * a2)).bind fun j4_ =>
      (f_Mo_lowest (m 20 j4_) m).bind fun v5_ =>
      (jz_ix 42 ((7 : Int32) * a2)).bind fun j6_ =>
      some (v5_ + ((8 : Int32) * (m 19 j6_)))
    else
      f_Mo_way_17 m
set_option maxHeartbeats 4000000 in
set_option maxRecDepth 100000 in
theorem c_Mo_way {Z : cz_Z} (l : Launch) (hI : jz_I (mz_G Z)) {a1 : Int32} {a2 : Int32} {m : jz_M} {r : Int32} (h : f_Mo_way a1 a2 m = some r) : jz_m l y_Mo_way cd_Mo_way rm_Mo_way (mz_G Z) [.ref (gz_ad (mz_G Z) 0), .int a1, .int a2] m (some (.int r)) m := by
  refine jz_met (own := R_Mo) (by decide) rfl hI (Nat.le_of_ble_eq_true rfl) (fun X hX C => ?_)
  subst hX
  show jz_J X 3 (mz_G Z) _ m [(0, .ref (gz_ad (mz_G Z) 0)), (1, .int a1), (2, .int a2)] 0 []
  unfold f_Mo_way at h
  refine jr_aload_n 0 C d_Mo_way_0 rfl ?_
  refine gf_Mo_65 1 C d_Mo_way_1 ?_
  refine jr_bipush 4 7 C d_Mo_way_4 (by decide) ?_
  refine jr_iload_n 6 C d_Mo_way_6 rfl ?_
  refine jr_imul 7 C d_Mo_way_7 ?_
  obtain ⟨j1_, ej1_, h⟩ := jz_b h
  refine jr_iald 8 C d_Mo_way_8 zk_Mo_cost ej1_ ?_
  refine jr_if_lt 9 17 C d_Mo_way_9 (by decide) (fun c2_ => ?_) (fun c2_ => ?_)
  · have h := jz_t c2_ h
    refine jr_sub [] rfl ?_
    exact t_Mo_way_17 C   h
  · have h := jz_f c2_ h
    refine jr_iload_n 12 C d_Mo_way_12 rfl ?_
    refine jr_iload_n 13 C d_Mo_way_13 rfl ?_
    refine jr_icmp_ne 14 21 C d_Mo_way_14 (by decide) (fun c3_ => ?_) (fun c3_ => ?_)
    · have h := jz_t c3_ h
      refine jr_aload_n 21 C d_Mo_way_21 rfl ?_
      refine gf_Mo_68 22 C d_Mo_way_22 ?_
      refine jr_bipush 25 7 C d_Mo_way_25 (by decide) ?_
      refine jr_iload_n 27 C d_Mo_way_27 rfl ?_
      refine jr_imul 28 C d_Mo_way_28 ?_
      obtain ⟨j4_, ej4_, h⟩ := jz_b h
      refine jr_iald 29 C d_Mo_way_29 zk_Mo_hops ej4_ ?_
      obtain ⟨v5_, ev5_, h⟩ := jz_b h
      refine jr_callS 30 [.int (m 20 j4_)] C d_Mo_way_30 (c_Mo_lowest (xz_l X) C.2.2.2.2.2.2.1  ev5_) sz_Mo_lowest tz_Mo_lowest lk_Mo_186 (by decide) rfl rfl (Nat.le_of_ble_eq_true rfl) rfl ?_
      refine jr_bipush 33 8 C d_Mo_way_33 (by decide) ?_
      refine jr_aload_n 35 C d_Mo_way_35 rfl ?_
      refine gf_Mo_65 36 C d_Mo_way_36 ?_
      refine jr_bipush 39 7 C d_Mo_way_39 (by decide) ?_
      refine jr_iload_n 41 C d_Mo_way_41 rfl ?_
      refine jr_imul 42 C d_Mo_way_42 ?_
      obtain ⟨j6_, ej6_, h⟩ := jz_b h
      refine jr_iald 43 C d_Mo_way_43 zk_Mo_cost ej6_ ?_
      refine jr_imul 44 C d_Mo_way_44 ?_
      refine jr_iadd 45 C d_Mo_way_45 ?_
      obtain rfl := Option.some.inj h
      exact jr_iret 46 (v := (v5_ + ((8 : Int32) * (m 19 j6_)))) C d_Mo_way_46 rfl
    · have h := jz_f c3_ h
      refine jr_sub [] rfl ?_
      exact t_Mo_way_17 C   h
abbrev rm_Mo_ways : Room := { frames := 3, cells := 0, slots := 0, locals := 78 }
abbrev cd_Mo_ways : Cond := .code y_Mo_ways b_Mo_ways 3 none
def f_Mo_ways (a1 : Int32) (a2 : Int32) (m : jz_M) : Option (jz_M) :=
  (f_Mo_costs a1 a2 m).bind fun v1_ =>
  (f_Mo_firstHops a1 a2 v1_).bind fun v2_ =>
  some v2_
set_option maxHeartbeats 4000000 in
set_option maxRecDepth 100000 in
theorem c_Mo_ways {Z : cz_Z} (l : Launch) (hI : jz_I (mz_G Z)) {a1 : Int32} {a2 : Int32} {m : jz_M} {r : jz_M} (h : f_Mo_ways a1 a2 m = some r) : jz_m l y_Mo_ways cd_Mo_ways rm_Mo_ways (mz_G Z) [.ref (gz_ad (mz_G Z) 0), .int a1, .int a2] m none r := by
  refine jz_met (own := R_Mo) (by decide) rfl hI (Nat.le_of_ble_eq_true rfl) (fun X hX C => ?_)
  subst hX
  show jz_J X 3 (mz_G Z) _ m [(0, .ref (gz_ad (mz_G Z) 0)), (1, .int a1), (2, .int a2)] 0 []
  unfold f_Mo_ways at h
  refine jr_aload_n 0 C d_Mo_ways_0 rfl ?_
  refine jr_iload_n 1 C d_Mo_ways_1 rfl ?_
  refine jr_iload_n 2 C d_Mo_ways_2 rfl ?_
  obtain ⟨v1_, ev1_, h⟩ := jz_b h
  refine jr_callV 3 [.int a1, .int a2] C d_Mo_ways_3 (c_Mo_costs (xz_l X) C.2.2.2.2.2.2.1 ev1_) sz_Mo_costs tz_Mo_costs lk_Mo_189 oz_Mo rfl (by decide) rfl rfl (Nat.le_of_ble_eq_true rfl) rfl ?_
  refine jr_aload_n 6 C d_Mo_ways_6 rfl ?_
  refine jr_iload_n 7 C d_Mo_ways_7 rfl ?_
  refine jr_iload_n 8 C d_Mo_ways_8 rfl ?_
  obtain ⟨v2_, ev2_, h⟩ := jz_b h
  refine jr_callV 9 [.int a1, .int a2] C d_Mo_ways_9 (c_Mo_firstHops (xz_l X) C.2.2.2.2.2.2.1 ev2_) sz_Mo_firstHops tz_Mo_firstHops lk_Mo_192 oz_Mo rfl (by decide) rfl rfl (Nat.le_of_ble_eq_true rfl) rfl ?_
  obtain rfl := Option.some.inj h
  exact jr_vret 12 C d_Mo_ways_12 rfl
abbrev rm_Mo_nearest : Room := { frames := 2, cells := 0, slots := 0, locals := 46 }
abbrev cd_Mo_nearest : Cond := .code y_Mo_nearest b_Mo_nearest 8 (some .int)
def f_Mo_nearest_72 (m : jz_M) (k6 : Int32 → Int32 → Int32 → Int32 → Int32 → Option (Int32)) (x1 : Int32) (x2 : Int32) (x3 : Int32) (x4 : Int32) (x5 : Int32) (s0 : Int32) : Option (Int32) :=
  if x5 = x1 then
    jz_n (x5 + 1) fun x2_ =>
    k6 x1 x2 x3 x4 x2_
  else
    if s0 = 0 then
      jz_n (x5 + 1) fun x4_ =>
      k6 x1 x2 x3 x4 x4_
    else
      (jz_ix 42 ((7 : Int32) * x5)).bind fun j5_ =>
      if (m 19 j5_) < 0 then
        jz_n (x5 + 1) fun x7_ =>
        k6 x1 x2 x3 x4 x7_
      else
        if x4 < 0 then
          jz_n (x5 + 1) fun x9_ =>
          k6 x1 x2 x3 x5 x9_
        else
          (jz_ix 42 ((7 : Int32) * x5)).bind fun j10_ =>
          (jz_ix 42 ((7 : Int32) * x4)).bind fun j11_ =>
          if (m 19 j11_) ≤ (m 19 j10_) then
            jz_n (x5 + 1) fun x13_ =>
            k6 x1 x2 x3 x4 x13_
          else
            jz_n (x5 + 1) fun x14_ =>
            k6 x1 x2 x3 x5 x14_
set_option maxHeartbeats 4000000 in
set_option maxRecDepth 100000 in
theorem t_Mo_nearest_72 {Z : cz_Z} {X : jz_X} {m : jz_M} {r : Int32} (C : jz_C X 8 b_Mo_nearest R_Mo (some .int) rm_Mo_nearest (mz_G Z)) (k6 : Int32 → Int32 → Int32 → Int32 → Int32 → Option (Int32)) (hk6 : ∀ (x1 : Int32) (x2 : Int32) (x3 : Int32) (x4 : Int32) (x5 : Int32), k6 x1 x2 x3 x4 x5 = some r → jz_J X 8 (mz_G Z) (jz_q X (mz_G Z) (some (.int r)) m) m [(0, .ref (gz_ad (mz_G Z) 0)), (1, .int x1), (2, .int x2), (3, .int x3), (4, .int x4), (5, .int x5)] 6 []) : ∀ (x1 : Int32) (x2 : Int32) (x3 : Int32) (x4 : Int32) (x5 : Int32) (s0 : Int32) , f_Mo_nearest_72 m k6 x1 x2 x3 x4 x5 s0 = some r → jz_J X 8 (mz_G Z) (jz_q X (mz_G Z) (some (.int r)) m) m [(0, .ref (gz_ad (mz_G Z) 0)), (1, .int x1), (2, .int x2), (3, .int x3), (4, .int x4), (5, .int x5)] 72 [.int s0] := by
  intro x1 x2 x3 x4 x5 s0 h
  unfold f_Mo_nearest_72 at h
  refine jr_istore 72 [(0, .ref (gz_ad (mz_G Z) 0)), (1, .int x1), (2, .int x2), (3, .int x3), (4, .int x4), (5, .int x5), (7, .int s0)] C d_Mo_nearest_72 rfl (by decide) rfl ?_
  refine jr_iload 74 C d_Mo_nearest_74 rfl ?_
  refine jr_iload_n 76 C d_Mo_nearest_76 rfl ?_
  refine jr_icmp_eq 77 130 C d_Mo_nearest_77 (by decide) (fun c1_ => ?_) (fun c1_ => ?_)
  · have h := jz_t c1_ h
    obtain ⟨x2_, ex2_, h⟩ := jz_ne h
    refine jr_iinc 130 [(0, .ref (gz_ad (mz_G Z) 0)), (1, .int x1), (2, .int x2), (3, .int x3), (4, .int x4), (5, .int x2_), (7, .int s0)] C d_Mo_nearest_130 rfl (by decide) rfl (by rw [ex2_]; rfl) rfl ?_
    refine jr_goto 133 6 C d_Mo_nearest_133 (by decide) ?_
    refine jr_sub [0, 1, 2, 3, 4, 5] rfl ?_
    exact hk6 x1 x2 x3 x4 x2_  h
  · have h := jz_f c1_ h
    refine jr_iload 80 C d_Mo_nearest_80 rfl ?_
    refine jr_if_eq 82 130 C d_Mo_nearest_82 (by decide) (fun c3_ => ?_) (fun c3_ => ?_)
    · have h := jz_t c3_ h
      obtain ⟨x4_, ex4_, h⟩ := jz_ne h
      refine jr_iinc 130 [(0, .ref (gz_ad (mz_G Z) 0)), (1, .int x1), (2, .int x2), (3, .int x3), (4, .int x4), (5, .int x4_), (7, .int s0)] C d_Mo_nearest_130 rfl (by decide) rfl (by rw [ex4_]; rfl) rfl ?_
      refine jr_goto 133 6 C d_Mo_nearest_133 (by decide) ?_
      refine jr_sub [0, 1, 2, 3, 4, 5] rfl ?_
      exact hk6 x1 x2 x3 x4 x4_  h
    · have h := jz_f c3_ h
      refine jr_aload_n 85 C d_Mo_nearest_85 rfl ?_
      refine gf_Mo_65 86 C d_Mo_nearest_86 ?_
      refine jr_bipush 89 7 C d_Mo_nearest_89 (by decide) ?_
      refine jr_iload 91 C d_Mo_nearest_91 rfl ?_
      refine jr_imul 93 C d_Mo_nearest_93 ?_
      obtain ⟨j5_, ej5_, h⟩ := jz_b h
      refine jr_iald 94 C d_Mo_nearest_94 zk_Mo_cost ej5_ ?_
      refine jr_if_lt 95 130 C d_Mo_nearest_95 (by decide) (fun c6_ => ?_) (fun c6_ => ?_)
      · have h := jz_t c6_ h
        obtain ⟨x7_, ex7_, h⟩ := jz_ne h
        refine jr_iinc 130 [(0, .ref (gz_ad (mz_G Z) 0)), (1, .int x1), (2, .int x2), (3, .int x3), (4, .int x4), (5, .int x7_), (7, .int s0)] C d_Mo_nearest_130 rfl (by decide) rfl (by rw [ex7_]; rfl) rfl ?_
        refine jr_goto 133 6 C d_Mo_nearest_133 (by decide) ?_
        refine jr_sub [0, 1, 2, 3, 4, 5] rfl ?_
        exact hk6 x1 x2 x3 x4 x7_  h
      · have h := jz_f c6_ h
        refine jr_iload 98 C d_Mo_nearest_98 rfl ?_
        refine jr_if_lt 100 126 C d_Mo_nearest_100 (by decide) (fun c8_ => ?_) (fun c8_ => ?_)
        · have h := jz_t c8_ h
          refine jr_iload 126 C d_Mo_nearest_126 rfl ?_
          refine jr_istore 128 [(0, .ref (gz_ad (mz_G Z) 0)), (1, .int x1), (2, .int x2), (3, .int x3), (4, .int x5), (5, .int x5), (7, .int s0)] C d_Mo_nearest_128 rfl (by decide) rfl ?_
          obtain ⟨x9_, ex9_, h⟩ := jz_ne h
          refine jr_iinc 130 [(0, .ref (gz_ad (mz_G Z) 0)), (1, .int x1), (2, .int x2), (3, .int x3), (4, .int x5), (5, .int x9_), (7, .int s0)] C d_Mo_nearest_130 rfl (by decide) rfl (by rw [ex9_]; rfl) rfl ?_
          refine jr_goto 133 6 C d_Mo_nearest_133 (by decide) ?_
          refine jr_sub [0, 1, 2, 3, 4, 5] rfl ?_
          exact hk6 x1 x2 x3 x5 x9_  h
        · have h := jz_f c8_ h
          refine jr_aload_n 103 C d_Mo_nearest_103 rfl ?_
          refine gf_Mo_65 104 C d_Mo_nearest_104 ?_
          refine jr_bipush 107 7 C d_Mo_nearest_107 (by decide) ?_
          refine jr_iload 109 C d_Mo_nearest_109 rfl ?_
          refine jr_imul 111 C d_Mo_nearest_111 ?_
          obtain ⟨j10_, ej10_, h⟩ := jz_b h
          refine jr_iald 112 C d_Mo_nearest_112 zk_Mo_cost ej10_ ?_
          refine jr_aload_n 113 C d_Mo_nearest_113 rfl ?_
          refine gf_Mo_65 114 C d_Mo_nearest_114 ?_
          refine jr_bipush 117 7 C d_Mo_nearest_117 (by decide) ?_
          refine jr_iload 119 C d_Mo_nearest_119 rfl ?_
          refine jr_imul 121 C d_Mo_nearest_121 ?_
          obtain ⟨j11_, ej11_, h⟩ := jz_b h
          refine jr_iald 122 C d_Mo_nearest_122 zk_Mo_cost ej11_ ?_
          refine jr_icmp_ge 123 130 C d_Mo_nearest_123 (by decide) (fun c12_ => ?_) (fun c12_ => ?_)
          · have h := jz_t c12_ h
            obtain ⟨x13_, ex13_, h⟩ := jz_ne h
            refine jr_iinc 130 [(0, .ref (gz_ad (mz_G Z) 0)), (1, .int x1), (2, .int x2), (3, .int x3), (4, .int x4), (5, .int x13_), (7, .int s0)] C d_Mo_nearest_130 rfl (by decide) rfl (by rw [ex13_]; rfl) rfl ?_
            refine jr_goto 133 6 C d_Mo_nearest_133 (by decide) ?_
            refine jr_sub [0, 1, 2, 3, 4, 5] rfl ?_
            exact hk6 x1 x2 x3 x4 x13_  h
          · have h := jz_f c12_ h
            refine jr_iload 126 C d_Mo_nearest_126 rfl ?_
            refine jr_istore 128 [(0, .ref (gz_ad (mz_G Z) 0)), (1, .int x1), (2, .int x2), (3, .int x3), (4, .int x5), (5, .int x5), (7, .int s0)] C d_Mo_nearest_128 rfl (by decide) rfl ?_
            obtain ⟨x14_, ex14_, h⟩ := jz_ne h
            refine jr_iinc 130 [(0, .ref (gz_ad (mz_G Z) 0)), (1, .int x1), (2, .int x2), (3, .int x3), (4, .int x5), (5, .int x14_), (7, .int s0)] C d_Mo_nearest_130 rfl (by decide) rfl (by rw [ex14_]; rfl) rfl ?_
            refine jr_goto 133 6 C d_Mo_nearest_133 (by decide) ?_
            refine jr_sub [0, 1, 2, 3, 4, 5] rfl ?_
            exact hk6 x1 x2 x3 x5 x14_  h
def f_Mo_nearest_71 (m : jz_M) (k6 : Int32 → Int32 → Int32 → Int32 → Int32 → Option (Int32)) (x1 : Int32) (x2 : Int32) (x3 : Int32) (x4 : Int32) (x5 : Int32) : Option (Int32) :=
  f_Mo_nearest_72 m k6 x1 x2 x3 x4 x5 0
set_option maxHeartbeats 4000000 in
set_option maxRecDepth 100000 in
theorem t_Mo_nearest_71 {Z : cz_Z} {X : jz_X} {m : jz_M} {r : Int32} (C : jz_C X 8 b_Mo_nearest R_Mo (some .int) rm_Mo_nearest (mz_G Z)) (k6 : Int32 → Int32 → Int32 → Int32 → Int32 → Option (Int32)) (hk6 : ∀ (x1 : Int32) (x2 : Int32) (x3 : Int32) (x4 : Int32) (x5 : Int32), k6 x1 x2 x3 x4 x5 = some r → jz_J X 8 (mz_G Z) (jz_q X (mz_G Z) (some (.int r)) m) m [(0, .ref (gz_ad (mz_G Z) 0)), (1, .int x1), (2, .int x2), (3, .int x3), (4, .int x4), (5, .int x5)] 6 []) : ∀ (x1 : Int32) (x2 : Int32) (x3 : Int32) (x4 : Int32) (x5 : Int32) , f_Mo_nearest_71 m k6 x1 x2 x3 x4 x5 = some r → jz_J X 8 (mz_G Z) (jz_q X (mz_G Z) (some (.int r)) m) m [(0, .ref (gz_ad (mz_G Z) 0)), (1, .int x1), (2, .int x2), (3, .int x3), (4, .int x4), (5, .int x5)] 71 [] := by
  intro x1 x2 x3 x4 x5 h
  unfold f_Mo_nearest_71 at h
  refine jr_iconst 71 0 C d_Mo_nearest_71 (by decide) ?_
  refine jr_sub [0, 1, 2, 3, 4, 5] rfl ?_
  exact t_Mo_nearest_72 C k6 hk6 x1 x2 x3 x4 x5 0 h
def f_Mo_nearest_67 (m : jz_M) (k6 : Int32 → Int32 → Int32 → Int32 → Int32 → Option (Int32)) (x1 : Int32) (x2 : Int32) (x3 : Int32) (x4 : Int32) (x5 : Int32) : Option (Int32) :=
  f_Mo_nearest_72 m k6 x1 x2 x3 x4 x5 1
set_option maxHeartbeats 4000000 in
set_option maxRecDepth 100000 in
theorem t_Mo_nearest_67 {Z : cz_Z} {X : jz_X} {m : jz_M} {r : Int32} (C : jz_C X 8 b_Mo_nearest R_Mo (some .int) rm_Mo_nearest (mz_G Z)) (k6 : Int32 → Int32 → Int32 → Int32 → Int32 → Option (Int32)) (hk6 : ∀ (x1 : Int32) (x2 : Int32) (x3 : Int32) (x4 : Int32) (x5 : Int32), k6 x1 x2 x3 x4 x5 = some r → jz_J X 8 (mz_G Z) (jz_q X (mz_G Z) (some (.int r)) m) m [(0, .ref (gz_ad (mz_G Z) 0)), (1, .int x1), (2, .int x2), (3, .int x3), (4, .int x4), (5, .int x5)] 6 []) : ∀ (x1 : Int32) (x2 : Int32) (x3 : Int32) (x4 : Int32) (x5 : Int32) , f_Mo_nearest_67 m k6 x1 x2 x3 x4 x5 = some r → jz_J X 8 (mz_G Z) (jz_q X (mz_G Z) (some (.int r)) m) m [(0, .ref (gz_ad (mz_G Z) 0)), (1, .int x1), (2, .int x2), (3, .int x3), (4, .int x4), (5, .int x5)] 67 [] := by
  intro x1 x2 x3 x4 x5 h
  unfold f_Mo_nearest_67 at h
  refine jr_iconst 67 1 C d_Mo_nearest_67 (by decide) ?_
  refine jr_goto 68 72 C d_Mo_nearest_68 (by decide) ?_
  refine jr_sub [0, 1, 2, 3, 4, 5] rfl ?_
  exact t_Mo_nearest_72 C k6 hk6 x1 x2 x3 x4 x5 1 h
def f_Mo_nearest_6 (m : jz_M) : Nat → Int32 → Int32 → Int32 → Int32 → Int32 → Option (Int32)
  | 0, _, _, _, _, _ => none
  | fu + 1, x1, x2, x3, x4, x5 =>
    if 6 ≤ x5 then
      if 0 ≤ x4 then
        (f_Mo_way x1 x4 m).bind fun v3_ =>
        some v3_
      else
        some (-1)
    else
      (f_Mo_at x1 x2 ((7 : Int32) * x5) m).bind fun v4_ =>
      (f_Mo_lives x1 x2 ((7 : Int32) * x5) m).bind fun v5_ =>
      if v5_ = 0 then
        f_Mo_nearest_71 m (f_Mo_nearest_6 m fu) x1 x2 x3 x4 x5
      else
        if 0 ≤ x3 then
          (jz_ix 504 v4_).bind fun j8_ =>
          if ¬ (m 13 j8_) = x3 then
            f_Mo_nearest_71 m (f_Mo_nearest_6 m fu) x1 x2 x3 x4 x5
          else
            f_Mo_nearest_67 m (f_Mo_nearest_6 m fu) x1 x2 x3 x4 x5
        else
          (jz_ix 504 v4_).bind fun j10_ =>
          if (m 12 j10_) = 0 then
            f_Mo_nearest_71 m (f_Mo_nearest_6 m fu) x1 x2 x3 x4 x5
          else
            f_Mo_nearest_67 m (f_Mo_nearest_6 m fu) x1 x2 x3 x4 x5
set_option maxHeartbeats 4000000 in
set_option maxRecDepth 100000 in
theorem t_Mo_nearest_6 {Z : cz_Z} {X : jz_X} {m : jz_M} {r : Int32} (C : jz_C X 8 b_Mo_nearest R_Mo (some .int) rm_Mo_nearest (mz_G Z)) : ∀ (fu : Nat) (x1 : Int32) (x2 : Int32) (x3 : Int32) (x4 : Int32) (x5 : Int32) , f_Mo_nearest_6 m fu x1 x2 x3 x4 x5 = some r → jz_J X 8 (mz_G Z) (jz_q X (mz_G Z) (some (.int r)) m) m [(0, .ref (gz_ad (mz_G Z) 0)), (1, .int x1), (2, .int x2), (3, .int x3), (4, .int x4), (5, .int x5)] 6 [] := by
  intro fu
  induction fu with
  | zero => intro x1 x2 x3 x4 x5 h; cases h
  | succ fu ih =>
    intro x1 x2 x3 x4 x5 h
    rw [f_Mo_nearest_6] at h
    refine jr_iload 6 C d_Mo_nearest_6 rfl ?_
    refine jr_bipush 8 6 C d_Mo_nearest_8 (by decide) ?_
    refine jr_icmp_ge 10 136 C d_Mo_nearest_10 (by decide) (fun c1_ => ?_) (fun c1_ => ?_)
    · have h := jz_t c1_ h
      refine jr_iload 136 C d_Mo_nearest_136 rfl ?_
      refine jr_if_ge 138 145 C d_Mo_nearest_138 (by decide) (fun c2_ => ?_) (fun c2_ => ?_)
      · have h := jz_t c2_ h
        refine jr_aload_n 145 C d_Mo_nearest_145 rfl ?_
        refine jr_iload_n 146 C d_Mo_nearest_146 rfl ?_
        refine jr_iload 147 C d_Mo_nearest_147 rfl ?_
        obtain ⟨v3_, ev3_, h⟩ := jz_b h
        refine jr_callV 149 [.int x1, .int x4] C d_Mo_nearest_149 (c_Mo_way (xz_l X) C.2.2.2.2.2.2.1  ev3_) sz_Mo_way tz_Mo_way lk_Mo_195 oz_Mo rfl (by decide) rfl rfl (Nat.le_of_ble_eq_true rfl) rfl ?_
        obtain rfl := Option.some.inj h
        exact jr_iret 152 (v := v3_) C d_Mo_nearest_152 rfl
      · have h := jz_f c2_ h
        refine jr_iconst 141 (-1) C d_Mo_nearest_141 (by decide) ?_
        refine jr_goto 142 152 C d_Mo_nearest_142 (by decide) ?_
        obtain rfl := Option.some.inj h
        exact jr_iret 152 (v := (-1)) C d_Mo_nearest_152 rfl
    · have h := jz_f c1_ h
      refine jr_iload_n 13 C d_Mo_nearest_13 rfl ?_
      refine jr_iload_n 14 C d_Mo_nearest_14 rfl ?_
      refine jr_bipush 15 7 C d_Mo_nearest_15 (by decide) ?_
      refine jr_iload 17 C d_Mo_nearest_17 rfl ?_
      refine jr_imul 19 C d_Mo_nearest_19 ?_
      obtain ⟨v4_, ev4_, h⟩ := jz_b h
      refine jr_callS 20 [.int x1, .int x2, .int ((7 : Int32) * x5)] C d_Mo_nearest_20 (c_Mo_at (xz_l X) C.2.2.2.2.2.2.1  ev4_) sz_Mo_at tz_Mo_at lk_Mo_133 (by decide) rfl rfl (Nat.le_of_ble_eq_true rfl) rfl ?_
      refine jr_istore 23 [(0, .ref (gz_ad (mz_G Z) 0)), (1, .int x1), (2, .int x2), (3, .int x3), (4, .int x4), (5, .int x5), (6, .int v4_)] C d_Mo_nearest_23 rfl (by decide) rfl ?_
      refine jr_aload_n 25 C d_Mo_nearest_25 rfl ?_
      refine jr_iload_n 26 C d_Mo_nearest_26 rfl ?_
      refine jr_iload_n 27 C d_Mo_nearest_27 rfl ?_
      refine jr_bipush 28 7 C d_Mo_nearest_28 (by decide) ?_
      refine jr_iload 30 C d_Mo_nearest_30 rfl ?_
      refine jr_imul 32 C d_Mo_nearest_32 ?_
      obtain ⟨v5_, ev5_, h⟩ := jz_b h
      refine jr_callV 33 [.int x1, .int x2, .int ((7 : Int32) * x5)] C d_Mo_nearest_33 (c_Mo_lives (xz_l X) C.2.2.2.2.2.2.1  ev5_) sz_Mo_lives tz_Mo_lives lk_Mo_177 oz_Mo rfl (by decide) rfl rfl (Nat.le_of_ble_eq_true rfl) rfl ?_
      refine jr_if_eq 36 71 C d_Mo_nearest_36 (by decide) (fun c6_ => ?_) (fun c6_ => ?_)
      · have h := jz_t c6_ h
        refine jr_sub [0, 1, 2, 3, 4, 5] rfl ?_
        exact t_Mo_nearest_71 C (f_Mo_nearest_6 m fu) ih x1 x2 x3 x4 x5 h
      · have h := jz_f c6_ h
        refine jr_iload_n 39 C d_Mo_nearest_39 rfl ?_
        refine jr_if_ge 40 56 C d_Mo_nearest_40 (by decide) (fun c7_ => ?_) (fun c7_ => ?_)
        · have h := jz_t c7_ h
          refine jr_aload_n 56 C d_Mo_nearest_56 rfl ?_
          refine gf_Mo_47 57 C d_Mo_nearest_57 ?_
          refine jr_iload 60 C d_Mo_nearest_60 rfl ?_
          obtain ⟨j8_, ej8_, h⟩ := jz_b h
          refine jr_iald 62 C d_Mo_nearest_62 zk_Mo_where ej8_ ?_
          refine jr_iload_n 63 C d_Mo_nearest_63 rfl ?_
          refine jr_icmp_ne 64 71 C d_Mo_nearest_64 (by decide) (fun c9_ => ?_) (fun c9_ => ?_)
          · have h := jz_t c9_ h
            refine jr_sub [0, 1, 2, 3, 4, 5] rfl ?_
            exact t_Mo_nearest_71 C (f_Mo_nearest_6 m fu) ih x1 x2 x3 x4 x5 h
          · have h := jz_f c9_ h
            refine jr_sub [0, 1, 2, 3, 4, 5] rfl ?_
            exact t_Mo_nearest_67 C (f_Mo_nearest_6 m fu) ih x1 x2 x3 x4 x5 h
        · have h := jz_f c7_ h
          refine jr_aload_n 43 C d_Mo_nearest_43 rfl ?_
          refine gf_Mo_44 44 C d_Mo_nearest_44 ?_
          refine jr_iload 47 C d_Mo_nearest_47 rfl ?_
          obtain ⟨j10_, ej10_, h⟩ := jz_b h
          refine jr_zald 49 C d_Mo_nearest_49 zk_Mo_exit ej10_ ?_
          refine jr_if_eq 50 71 C d_Mo_nearest_50 (by decide) (fun c11_ => ?_) (fun c11_ => ?_)
          · have h := jz_t c11_ h
            refine jr_sub [0, 1, 2, 3, 4, 5] rfl ?_
            exact t_Mo_nearest_71 C (f_Mo_nearest_6 m fu) ih x1 x2 x3 x4 x5 h
          · have h := jz_f c11_ h
            refine jr_goto 53 67 C d_Mo_nearest_53 (by decide) ?_
            refine jr_sub [0, 1, 2, 3, 4, 5] rfl ?_
            exact t_Mo_nearest_67 C (f_Mo_nearest_6 m fu) ih x1 x2 x3 x4 x5 h
def f_Mo_nearest (a1 : Int32) (a2 : Int32) (a3 : Int32) (m : jz_M) : Option (Int32) :=
  f_Mo_nearest_6 m 1000000 a1 a2 a3 (-1) 0
set_option maxHeartbeats 4000000 in
set_option maxRecDepth 100000 in
theorem c_Mo_nearest {Z : cz_Z} (l : Launch) (hI : jz_I (mz_G Z)) {a1 : Int32} {a2 : Int32} {a3 : Int32} {m : jz_M} {r : Int32} (h : f_Mo_nearest a1 a2 a3 m = some r) : jz_m l y_Mo_nearest cd_Mo_nearest rm_Mo_nearest (mz_G Z) [.ref (gz_ad (mz_G Z) 0), .int a1, .int a2, .int a3] m (some (.int r)) m := by
  refine jz_met (own := R_Mo) (by decide) rfl hI (Nat.le_of_ble_eq_true rfl) (fun X hX C => ?_)
  subst hX
  show jz_J X 8 (mz_G Z) _ m [(0, .ref (gz_ad (mz_G Z) 0)), (1, .int a1), (2, .int a2), (3, .int a3)] 0 []
  unfold f_Mo_nearest at h
  refine jr_iconst 0 (-1) C d_Mo_nearest_0 (by decide) ?_
  refine jr_istore 1 [(0, .ref (gz_ad (mz_G Z) 0)), (1, .int a1), (2, .int a2), (3, .int a3), (4, .int (-1))] C d_Mo_nearest_1 rfl (by decide) rfl ?_
  refine jr_iconst 3 0 C d_Mo_nearest_3 (by decide) ?_
  refine jr_istore 4 [(0, .ref (gz_ad (mz_G Z) 0)), (1, .int a1), (2, .int a2), (3, .int a3), (4, .int (-1)), (5, .int 0)] C d_Mo_nearest_4 rfl (by decide) rfl ?_
  refine jr_sub [0, 1, 2, 3, 4, 5] rfl ?_
  exact t_Mo_nearest_6 C 1000000 a1 a2 a3 (-1) 0 h
abbrev rm_Mo_routeOf : Room := { frames := 4, cells := 0, slots := 0, locals := 100 }
abbrev cd_Mo_routeOf : Cond := .code y_Mo_routeOf b_Mo_routeOf 4 (some .int)
def f_Mo_routeOf_43 (x1 : Int32) (x2 : Int32) (m : jz_M) : Option (Int32 × jz_M) :=
  (f_Mo_has x1 2 m).bind fun v1_ =>
  if v1_ = 0 then
    (f_Mo_ways x1 1 m).bind fun v3_ =>
    (f_Mo_nearest x1 1 (-1) v3_).bind fun v4_ =>
    some (v4_, v3_)
  else
    (f_Mo_ways x1 2 m).bind fun v5_ =>
    (jz_ix 6 x2).bind fun j6_ =>
    (f_Mo_nearest x1 2 (v5_ 1 j6_) v5_).bind fun v7_ =>
    some (v7_, v5_)
set_option maxHeartbeats 4000000 in
set_option maxRecDepth 100000 in
theorem t_Mo_routeOf_43 {Z : cz_Z} {X : jz_X} {r : Int32 × jz_M} (C : jz_C X 4 b_Mo_routeOf R_Mo (some .int) rm_Mo_routeOf (mz_G Z)) : ∀ (x1 : Int32) (x2 : Int32) (m : jz_M) , f_Mo_routeOf_43 x1 x2 m = some r → jz_J X 4 (mz_G Z) (jz_q X (mz_G Z) (some (.int r.1)) r.2) m [(0, .ref (gz_ad (mz_G Z) 0)), (1, .int x1), (2, .int x2)] 43 [] := by
  intro x1 x2 m h
  unfold f_Mo_routeOf_43 at h
  refine jr_aload_n 43 C d_Mo_routeOf_43 rfl ?_
  refine jr_iload_n 44 C d_Mo_routeOf_44 rfl ?_
  refine jr_iconst 45 2 C d_Mo_routeOf_45 (by decide) ?_
  obtain ⟨v1_, ev1_, h⟩ := jz_b h
  refine jr_callV 46 [.int x1, .int 2] C d_Mo_routeOf_46 (c_Mo_has (xz_l X) C.2.2.2.2.2.2.1 ev1_) sz_Mo_has tz_Mo_has lk_Mo_99 oz_Mo rfl (by decide) rfl rfl (Nat.le_of_ble_eq_true rfl) rfl ?_
  refine jr_if_eq 49 71 C d_Mo_routeOf_49 (by decide) (fun c2_ => ?_) (fun c2_ => ?_)
  · have h := jz_t c2_ h
    refine jr_aload_n 71 C d_Mo_routeOf_71 rfl ?_
    refine jr_iload_n 72 C d_Mo_routeOf_72 rfl ?_
    refine jr_iconst 73 1 C d_Mo_routeOf_73 (by decide) ?_
    obtain ⟨v3_, ev3_, h⟩ := jz_b h
    refine jr_callV 74 [.int x1, .int 1] C d_Mo_routeOf_74 (c_Mo_ways (xz_l X) C.2.2.2.2.2.2.1  ev3_) sz_Mo_ways tz_Mo_ways lk_Mo_198 oz_Mo rfl (by decide) rfl rfl (Nat.le_of_ble_eq_true rfl) rfl ?_
    refine jr_aload_n 77 C d_Mo_routeOf_77 rfl ?_
    refine jr_iload_n 78 C d_Mo_routeOf_78 rfl ?_
    refine jr_iconst 79 1 C d_Mo_routeOf_79 (by decide) ?_
    refine jr_iconst 80 (-1) C d_Mo_routeOf_80 (by decide) ?_
    obtain ⟨v4_, ev4_, h⟩ := jz_b h
    refine jr_callV 81 [.int x1, .int 1, .int (-1)] C d_Mo_routeOf_81 (c_Mo_nearest (xz_l X) C.2.2.2.2.2.2.1  ev4_) sz_Mo_nearest tz_Mo_nearest lk_Mo_201 oz_Mo rfl (by decide) rfl rfl (Nat.le_of_ble_eq_true rfl) rfl ?_
    obtain rfl := Option.some.inj h
    exact jr_iret 84 (v := v4_) C d_Mo_routeOf_84 rfl
  · have h := jz_f c2_ h
    refine jr_aload_n 52 C d_Mo_routeOf_52 rfl ?_
    refine jr_iload_n 53 C d_Mo_routeOf_53 rfl ?_
    refine jr_iconst 54 2 C d_Mo_routeOf_54 (by decide) ?_
    obtain ⟨v5_, ev5_, h⟩ := jz_b h
    refine jr_callV 55 [.int x1, .int 2] C d_Mo_routeOf_55 (c_Mo_ways (xz_l X) C.2.2.2.2.2.2.1  ev5_) sz_Mo_ways tz_Mo_ways lk_Mo_198 oz_Mo rfl (by decide) rfl rfl (Nat.le_of_ble_eq_true rfl) rfl ?_
    refine jr_aload_n 58 C d_Mo_routeOf_58 rfl ?_
    refine jr_iload_n 59 C d_Mo_routeOf_59 rfl ?_
    refine jr_iconst 60 2 C d_Mo_routeOf_60 (by decide) ?_
    refine jr_aload_n 61 C d_Mo_routeOf_61 rfl ?_
    refine gf_Mo_7 62 C d_Mo_routeOf_62 ?_
    refine jr_iload_n 65 C d_Mo_routeOf_65 rfl ?_
    obtain ⟨j6_, ej6_, h⟩ := jz_b h
    refine jr_iald 66 C d_Mo_routeOf_66 zk_Mo_area ej6_ ?_
    obtain ⟨v7_, ev7_, h⟩ := jz_b h
    refine jr_callV 67 [.int x1, .int 2, .int (v5_ 1 j6_)] C d_Mo_routeOf_67 (c_Mo_nearest (xz_l X) C.2.2.2.2.2.2.1  ev7_) sz_Mo_nearest tz_Mo_nearest lk_Mo_201 oz_Mo rfl (by decide) rfl rfl (Nat.le_of_ble_eq_true rfl) rfl ?_
    obtain rfl := Option.some.inj h
    exact jr_iret 70 (v := v7_) C d_Mo_routeOf_70 rfl
def f_Mo_routeOf (a1 : Int32) (a2 : Int32) (m : jz_M) : Option (Int32 × jz_M) :=
  (f_Mo_has a1 1 m).bind fun v1_ =>
  if v1_ = 0 then
    f_Mo_routeOf_43 a1 a2 m
  else
    (jz_ix 6 a2).bind fun j3_ =>
    (jz_ix 6 a1).bind fun j4_ =>
    if ¬ (m 1 j3_) = (m 1 j4_) then
      f_Mo_routeOf_43 a1 a2 m
    else
      (f_Mo_ways a1 1 m).bind fun v6_ =>
      (f_Mo_way a1 a2 v6_).bind fun v7_ =>
      if v7_ < 0 then
        f_Mo_routeOf_43 a1 a2 v6_
      else
        some (v7_, v6_)
set_option maxHeartbeats 4000000 in
set_option maxRecDepth 100000 in
theorem c_Mo_routeOf {Z : cz_Z} (l : Launch) (hI : jz_I (mz_G Z)) {a1 : Int32} {a2 : Int32} {m : jz_M} {r : Int32 × jz_M} (h : f_Mo_routeOf a1 a2 m = some r) : jz_m l y_Mo_routeOf cd_Mo_routeOf rm_Mo_routeOf (mz_G Z) [.ref (gz_ad (mz_G Z) 0), .int a1, .int a2] m (some (.int r.1)) r.2 := by
  refine jz_met (own := R_Mo) (by decide) rfl hI (Nat.le_of_ble_eq_true rfl) (fun X hX C => ?_)
  subst hX
  show jz_J X 4 (mz_G Z) _ m [(0, .ref (gz_ad (mz_G Z) 0)), (1, .int a1), (2, .int a2)] 0 []
  unfold f_Mo_routeOf at h
  refine jr_aload_n 0 C d_Mo_routeOf_0 rfl ?_
  refine jr_iload_n 1 C d_Mo_routeOf_1 rfl ?_
  refine jr_iconst 2 1 C d_Mo_routeOf_2 (by decide) ?_
  obtain ⟨v1_, ev1_, h⟩ := jz_b h
  refine jr_callV 3 [.int a1, .int 1] C d_Mo_routeOf_3 (c_Mo_has (xz_l X) C.2.2.2.2.2.2.1 ev1_) sz_Mo_has tz_Mo_has lk_Mo_99 oz_Mo rfl (by decide) rfl rfl (Nat.le_of_ble_eq_true rfl) rfl ?_
  refine jr_if_eq 6 43 C d_Mo_routeOf_6 (by decide) (fun c2_ => ?_) (fun c2_ => ?_)
  · have h := jz_t c2_ h
    refine jr_sub [0, 1, 2] rfl ?_
    exact t_Mo_routeOf_43 C  a1 a2 m h
  · have h := jz_f c2_ h
    refine jr_aload_n 9 C d_Mo_routeOf_9 rfl ?_
    refine gf_Mo_7 10 C d_Mo_routeOf_10 ?_
    refine jr_iload_n 13 C d_Mo_routeOf_13 rfl ?_
    obtain ⟨j3_, ej3_, h⟩ := jz_b h
    refine jr_iald 14 C d_Mo_routeOf_14 zk_Mo_area ej3_ ?_
    refine jr_aload_n 15 C d_Mo_routeOf_15 rfl ?_
    refine gf_Mo_7 16 C d_Mo_routeOf_16 ?_
    refine jr_iload_n 19 C d_Mo_routeOf_19 rfl ?_
    obtain ⟨j4_, ej4_, h⟩ := jz_b h
    refine jr_iald 20 C d_Mo_routeOf_20 zk_Mo_area ej4_ ?_
    refine jr_icmp_ne 21 43 C d_Mo_routeOf_21 (by decide) (fun c5_ => ?_) (fun c5_ => ?_)
    · have h := jz_t c5_ h
      refine jr_sub [0, 1, 2] rfl ?_
      exact t_Mo_routeOf_43 C  a1 a2 m h
    · have h := jz_f c5_ h
      refine jr_aload_n 24 C d_Mo_routeOf_24 rfl ?_
      refine jr_iload_n 25 C d_Mo_routeOf_25 rfl ?_
      refine jr_iconst 26 1 C d_Mo_routeOf_26 (by decide) ?_
      obtain ⟨v6_, ev6_, h⟩ := jz_b h
      refine jr_callV 27 [.int a1, .int 1] C d_Mo_routeOf_27 (c_Mo_ways (xz_l X) C.2.2.2.2.2.2.1  ev6_) sz_Mo_ways tz_Mo_ways lk_Mo_198 oz_Mo rfl (by decide) rfl rfl (Nat.le_of_ble_eq_true rfl) rfl ?_
      refine jr_aload_n 30 C d_Mo_routeOf_30 rfl ?_
      refine jr_iload_n 31 C d_Mo_routeOf_31 rfl ?_
      refine jr_iload_n 32 C d_Mo_routeOf_32 rfl ?_
      obtain ⟨v7_, ev7_, h⟩ := jz_b h
      refine jr_callV 33 [.int a1, .int a2] C d_Mo_routeOf_33 (c_Mo_way (xz_l X) C.2.2.2.2.2.2.1  ev7_) sz_Mo_way tz_Mo_way lk_Mo_195 oz_Mo rfl (by decide) rfl rfl (Nat.le_of_ble_eq_true rfl) rfl ?_
      refine jr_istore_n 36 [(0, .ref (gz_ad (mz_G Z) 0)), (1, .int a1), (2, .int a2), (3, .int v7_)] C d_Mo_routeOf_36 rfl (by decide) rfl ?_
      refine jr_iload_n 37 C d_Mo_routeOf_37 rfl ?_
      refine jr_if_lt 38 43 C d_Mo_routeOf_38 (by decide) (fun c8_ => ?_) (fun c8_ => ?_)
      · have h := jz_t c8_ h
        refine jr_sub [0, 1, 2] rfl ?_
        exact t_Mo_routeOf_43 C  a1 a2 v6_ h
      · have h := jz_f c8_ h
        refine jr_iload_n 41 C d_Mo_routeOf_41 rfl ?_
        obtain rfl := Option.some.inj h
        exact jr_iret 42 (v := v7_) C d_Mo_routeOf_42 rfl
abbrev rm_Mo_route : Room := { frames := 5, cells := 0, slots := 0, locals := 123 }
abbrev cd_Mo_route : Cond := .code y_Mo_route b_Mo_route 3 (some .int)
def f_Mo_route (a1 : Int32) (a2 : Int32) (m : jz_M) : Option (Int32 × jz_M) :=
  jz_n (jz_up m 0 0 0) fun m1_ =>
  (f_Mo_isOne a1 m1_).bind fun v2_ =>
  if v2_ = 0 then
    some ((-1), m1_)
  else
    (f_Mo_isOne a2 m1_).bind fun v4_ =>
    if v4_ = 0 then
      some ((-1), m1_)
    else
      if a1 = a2 then
        some ((-1), m1_)
      else
        (f_Mo_routeOf a1 a2 m1_).bind fun v7_ =>
        some (v7_.1, v7_.2)
set_option maxHeartbeats 4000000 in
set_option maxRecDepth 100000 in
theorem c_Mo_route {Z : cz_Z} (l : Launch) (hI : jz_I (mz_G Z)) {a1 : Int32} {a2 : Int32} {m : jz_M} {r : Int32 × jz_M} (h : f_Mo_route a1 a2 m = some r) : jz_m l y_Mo_route cd_Mo_route rm_Mo_route (mz_G Z) [.ref (gz_ad (mz_G Z) 0), .int a1, .int a2] m (some (.int r.1)) r.2 := by
  refine jz_met (own := R_Mo) (by decide) rfl hI (Nat.le_of_ble_eq_true rfl) (fun X hX C => ?_)
  subst hX
  show jz_J X 3 (mz_G Z) _ m [(0, .ref (gz_ad (mz_G Z) 0)), (1, .int a1), (2, .int a2)] 0 []
  unfold f_Mo_route at h
  refine jr_aload_n 0 C d_Mo_route_0 rfl ?_
  refine jr_iconst 1 0 C d_Mo_route_1 (by decide) ?_
  obtain ⟨m1_, em1_, h⟩ := jz_ne h
  refine pf_Mo_71 2 C d_Mo_route_2 ?_
  refine jr_mem em1_ ?_
  refine jr_iload_n 5 C d_Mo_route_5 rfl ?_
  obtain ⟨v2_, ev2_, h⟩ := jz_b h
  refine jr_callS 6 [.int a1] C d_Mo_route_6 (c_Mo_isOne (xz_l X) C.2.2.2.2.2.2.1 ev2_) sz_Mo_isOne tz_Mo_isOne lk_Mo_91 (by decide) rfl rfl (Nat.le_of_ble_eq_true rfl) rfl ?_
  refine jr_if_eq 9 33 C d_Mo_route_9 (by decide) (fun c3_ => ?_) (fun c3_ => ?_)
  · have h := jz_t c3_ h
    refine jr_iconst 33 (-1) C d_Mo_route_33 (by decide) ?_
    obtain rfl := Option.some.inj h
    exact jr_iret 34 (v := (-1)) C d_Mo_route_34 rfl
  · have h := jz_f c3_ h
    refine jr_iload_n 12 C d_Mo_route_12 rfl ?_
    obtain ⟨v4_, ev4_, h⟩ := jz_b h
    refine jr_callS 13 [.int a2] C d_Mo_route_13 (c_Mo_isOne (xz_l X) C.2.2.2.2.2.2.1  ev4_) sz_Mo_isOne tz_Mo_isOne lk_Mo_91 (by decide) rfl rfl (Nat.le_of_ble_eq_true rfl) rfl ?_
    refine jr_if_eq 16 33 C d_Mo_route_16 (by decide) (fun c5_ => ?_) (fun c5_ => ?_)
    · have h := jz_t c5_ h
      refine jr_iconst 33 (-1) C d_Mo_route_33 (by decide) ?_
      obtain rfl := Option.some.inj h
      exact jr_iret 34 (v := (-1)) C d_Mo_route_34 rfl
    · have h := jz_f c5_ h
      refine jr_iload_n 19 C d_Mo_route_19 rfl ?_
      refine jr_iload_n 20 C d_Mo_route_20 rfl ?_
      refine jr_icmp_eq 21 33 C d_Mo_route_21 (by decide) (fun c6_ => ?_) (fun c6_ => ?_)
      · have h := jz_t c6_ h
        refine jr_iconst 33 (-1) C d_Mo_route_33 (by decide) ?_
        obtain rfl := Option.some.inj h
        exact jr_iret 34 (v := (-1)) C d_Mo_route_34 rfl
      · have h := jz_f c6_ h
        refine jr_aload_n 24 C d_Mo_route_24 rfl ?_
        refine jr_iload_n 25 C d_Mo_route_25 rfl ?_
        refine jr_iload_n 26 C d_Mo_route_26 rfl ?_
        obtain ⟨v7_, ev7_, h⟩ := jz_b h
        refine jr_callV 27 [.int a1, .int a2] C d_Mo_route_27 (c_Mo_routeOf (xz_l X) C.2.2.2.2.2.2.1  ev7_) sz_Mo_routeOf tz_Mo_routeOf lk_Mo_204 oz_Mo rfl (by decide) rfl rfl (Nat.le_of_ble_eq_true rfl) rfl ?_
        refine jr_goto 30 34 C d_Mo_route_30 (by decide) ?_
        obtain rfl := Option.some.inj h
        exact jr_iret 34 (v := v7_.1) C d_Mo_route_34 rfl
abbrev rm_Mo_trace : Room := { frames := 5, cells := 0, slots := 0, locals := 123 }
abbrev cd_Mo_trace : Cond := .code y_Mo_trace b_Mo_trace 6 (some .int)
def f_Mo_trace_26 : Nat → Int32 → Int32 → Int32 → jz_M → Option (Int32 × jz_M)
  | 0, _, _, _, _ => none
  | fu + 1, x2, x3, x4, m =>
    if 10 < x4 then
      some ((-1), m)
    else
      if ¬ x3 = x2 then
        (f_Mo_routeOf x3 x2 m).bind fun v3_ =>
        jz_n v3_.1 fun x4_ =>
        if 0 ≤ x4_ then
          jz_n (x4_ &&& 7) fun x6_ =>
          jz_n (x4 + 1) fun x7_ =>
          f_Mo_trace_26 fu x2 x6_ x7_ v3_.2
        else
          some ((-1), v3_.2)
      else
        some (x4, m)
set_option maxHeartbeats 4000000 in
set_option maxRecDepth 100000 in
theorem t_Mo_trace_26 {Z : cz_Z} {X : jz_X} {r : Int32 × jz_M} (C : jz_C X 6 b_Mo_trace R_Mo (some .int) rm_Mo_trace (mz_G Z)) : ∀ (fu : Nat) (x2 : Int32) (x3 : Int32) (x4 : Int32) (m : jz_M) , f_Mo_trace_26 fu x2 x3 x4 m = some r → jz_J X 6 (mz_G Z) (jz_q X (mz_G Z) (some (.int r.1)) r.2) m [(0, .ref (gz_ad (mz_G Z) 0)), (2, .int x2), (3, .int x3), (4, .int x4)] 26 [] := by
  intro fu
  induction fu with
  | zero => intro x2 x3 x4 m h; cases h
  | succ fu ih =>
    intro x2 x3 x4 m h
    rw [f_Mo_trace_26] at h
    refine jr_iload 26 C d_Mo_trace_26 rfl ?_
    refine jr_bipush 28 10 C d_Mo_trace_28 (by decide) ?_
    refine jr_icmp_gt 30 68 C d_Mo_trace_30 (by decide) (fun c1_ => ?_) (fun c1_ => ?_)
    · have h := jz_t c1_ h
      refine jr_iconst 68 (-1) C d_Mo_trace_68 (by decide) ?_
      obtain rfl := Option.some.inj h
      exact jr_iret 69 (v := (-1)) C d_Mo_trace_69 rfl
    · have h := jz_f c1_ h
      refine jr_iload_n 33 C d_Mo_trace_33 rfl ?_
      refine jr_iload_n 34 C d_Mo_trace_34 rfl ?_
      refine jr_icmp_ne 35 41 C d_Mo_trace_35 (by decide) (fun c2_ => ?_) (fun c2_ => ?_)
      · have h := jz_t c2_ h
        refine jr_aload_n 41 C d_Mo_trace_41 rfl ?_
        refine jr_iload_n 42 C d_Mo_trace_42 rfl ?_
        refine jr_iload_n 43 C d_Mo_trace_43 rfl ?_
        obtain ⟨v3_, ev3_, h⟩ := jz_b h
        refine jr_callV 44 [.int x3, .int x2] C d_Mo_trace_44 (c_Mo_routeOf (xz_l X) C.2.2.2.2.2.2.1  ev3_) sz_Mo_routeOf tz_Mo_routeOf lk_Mo_204 oz_Mo rfl (by decide) rfl rfl (Nat.le_of_ble_eq_true rfl) rfl ?_
        obtain ⟨x4_, ex4_, h⟩ := jz_ne h
        refine jr_top ex4_ ?_
        refine jr_istore 47 [(0, .ref (gz_ad (mz_G Z) 0)), (2, .int x2), (3, .int x3), (4, .int x4), (5, .int x4_)] C d_Mo_trace_47 rfl (by decide) rfl ?_
        refine jr_iload 49 C d_Mo_trace_49 rfl ?_
        refine jr_if_ge 51 56 C d_Mo_trace_51 (by decide) (fun c5_ => ?_) (fun c5_ => ?_)
        · have h := jz_t c5_ h
          refine jr_iload 56 C d_Mo_trace_56 rfl ?_
          refine jr_bipush 58 7 C d_Mo_trace_58 (by decide) ?_
          refine jr_iand 60 C d_Mo_trace_60 ?_
          obtain ⟨x6_, ex6_, h⟩ := jz_ne h
          refine jr_top ex6_ ?_
          refine jr_istore_n 61 [(0, .ref (gz_ad (mz_G Z) 0)), (2, .int x2), (3, .int x6_), (4, .int x4), (5, .int x4_)] C d_Mo_trace_61 rfl (by decide) rfl ?_
          obtain ⟨x7_, ex7_, h⟩ := jz_ne h
          refine jr_iinc 62 [(0, .ref (gz_ad (mz_G Z) 0)), (2, .int x2), (3, .int x6_), (4, .int x7_), (5, .int x4_)] C d_Mo_trace_62 rfl (by decide) rfl (by rw [ex7_]; rfl) rfl ?_
          refine jr_goto 65 26 C d_Mo_trace_65 (by decide) ?_
          refine jr_sub [0, 1, 2, 3] rfl ?_
          exact ih x2 x6_ x7_ v3_.2  h
        · have h := jz_f c5_ h
          refine jr_iconst 54 (-1) C d_Mo_trace_54 (by decide) ?_
          obtain rfl := Option.some.inj h
          exact jr_iret 55 (v := (-1)) C d_Mo_trace_55 rfl
      · have h := jz_f c2_ h
        refine jr_iload 38 C d_Mo_trace_38 rfl ?_
        obtain rfl := Option.some.inj h
        exact jr_iret 40 (v := x4) C d_Mo_trace_40 rfl
def f_Mo_trace (a1 : Int32) (a2 : Int32) (m : jz_M) : Option (Int32 × jz_M) :=
  jz_n (jz_up m 0 0 0) fun m1_ =>
  (f_Mo_isOne a1 m1_).bind fun v2_ =>
  if v2_ = 0 then
    some ((-1), m1_)
  else
    (f_Mo_isOne a2 m1_).bind fun v4_ =>
    if ¬ v4_ = 0 then
      f_Mo_trace_26 1000000 a2 a1 0 m1_
    else
      some ((-1), m1_)
set_option maxHeartbeats 4000000 in
set_option maxRecDepth 100000 in
theorem c_Mo_trace {Z : cz_Z} (l : Launch) (hI : jz_I (mz_G Z)) {a1 : Int32} {a2 : Int32} {m : jz_M} {r : Int32 × jz_M} (h : f_Mo_trace a1 a2 m = some r) : jz_m l y_Mo_trace cd_Mo_trace rm_Mo_trace (mz_G Z) [.ref (gz_ad (mz_G Z) 0), .int a1, .int a2] m (some (.int r.1)) r.2 := by
  refine jz_met (own := R_Mo) (by decide) rfl hI (Nat.le_of_ble_eq_true rfl) (fun X hX C => ?_)
  subst hX
  show jz_J X 6 (mz_G Z) _ m [(0, .ref (gz_ad (mz_G Z) 0)), (1, .int a1), (2, .int a2)] 0 []
  unfold f_Mo_trace at h
  refine jr_aload_n 0 C d_Mo_trace_0 rfl ?_
  refine jr_iconst 1 0 C d_Mo_trace_1 (by decide) ?_
  obtain ⟨m1_, em1_, h⟩ := jz_ne h
  refine pf_Mo_71 2 C d_Mo_trace_2 ?_
  refine jr_mem em1_ ?_
  refine jr_iload_n 5 C d_Mo_trace_5 rfl ?_
  obtain ⟨v2_, ev2_, h⟩ := jz_b h
  refine jr_callS 6 [.int a1] C d_Mo_trace_6 (c_Mo_isOne (xz_l X) C.2.2.2.2.2.2.1 ev2_) sz_Mo_isOne tz_Mo_isOne lk_Mo_91 (by decide) rfl rfl (Nat.le_of_ble_eq_true rfl) rfl ?_
  refine jr_if_eq 9 19 C d_Mo_trace_9 (by decide) (fun c3_ => ?_) (fun c3_ => ?_)
  · have h := jz_t c3_ h
    refine jr_iconst 19 (-1) C d_Mo_trace_19 (by decide) ?_
    obtain rfl := Option.some.inj h
    exact jr_iret 20 (v := (-1)) C d_Mo_trace_20 rfl
  · have h := jz_f c3_ h
    refine jr_iload_n 12 C d_Mo_trace_12 rfl ?_
    obtain ⟨v4_, ev4_, h⟩ := jz_b h
    refine jr_callS 13 [.int a2] C d_Mo_trace_13 (c_Mo_isOne (xz_l X) C.2.2.2.2.2.2.1  ev4_) sz_Mo_isOne tz_Mo_isOne lk_Mo_91 (by decide) rfl rfl (Nat.le_of_ble_eq_true rfl) rfl ?_
    refine jr_if_ne 16 21 C d_Mo_trace_16 (by decide) (fun c5_ => ?_) (fun c5_ => ?_)
    · have h := jz_t c5_ h
      refine jr_iload_n 21 C d_Mo_trace_21 rfl ?_
      refine jr_istore_n 22 [(0, .ref (gz_ad (mz_G Z) 0)), (1, .int a1), (2, .int a2), (3, .int a1)] C d_Mo_trace_22 rfl (by decide) rfl ?_
      refine jr_iconst 23 0 C d_Mo_trace_23 (by decide) ?_
      refine jr_istore 24 [(0, .ref (gz_ad (mz_G Z) 0)), (1, .int a1), (2, .int a2), (3, .int a1), (4, .int 0)] C d_Mo_trace_24 rfl (by decide) rfl ?_
      refine jr_sub [0, 2, 3, 4] rfl ?_
      exact t_Mo_trace_26 C  1000000 a2 a1 0 m1_ h
    · have h := jz_f c5_ h
      refine jr_iconst 19 (-1) C d_Mo_trace_19 (by decide) ?_
      obtain rfl := Option.some.inj h
      exact jr_iret 20 (v := (-1)) C d_Mo_trace_20 rfl
