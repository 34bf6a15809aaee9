abbrev rm_Mo_barredAt : Room := { frames := 2, cells := 0, slots := 0, locals := 44 }
abbrev cd_Mo_barredAt : Cond := .code y_Mo_barredAt b_Mo_barredAt 5 (some .int)
def f_Mo_barredAt (a1 : Int32) (a2 : Int32) (a3 : Int32) (m : jz_M) : Option (Int32) :=
  (f_Mo_barred a1 a2 m).bind fun v1_ =>
  if v1_ ≤ 0 then
    (f_Mo_has a1 a3 m).bind fun v3_ =>
    if ¬ v3_ = 0 then
      some 0
    else
      some 3
  else
    some v1_
set_option maxHeartbeats 4000000 in
set_option maxRecDepth 100000 in
theorem c_Mo_barredAt {Z : cz_Z} (l : Launch) (hI : jz_I (mz_G Z)) {a1 : Int32} {a2 : Int32} {a3 : Int32} {m : jz_M} {r : Int32} (h : f_Mo_barredAt a1 a2 a3 m = some r) : jz_m l y_Mo_barredAt cd_Mo_barredAt rm_Mo_barredAt (mz_G Z) [.ref (gz_ad (mz_G Z) 0), .int a1, .int a2, .int a3] m (some (.int r)) m := by
  refine jz_met (own := R_Mo) (by decide) rfl hI (Nat.le_of_ble_eq_true rfl) (fun X hX C => ?_)
  subst hX
  show jz_J X 5 (mz_G Z) _ m [(0, .ref (gz_ad (mz_G Z) 0)), (1, .int a1), (2, .int a2), (3, .int a3)] 0 []
  unfold f_Mo_barredAt at h
  refine jr_aload_n 0 C d_Mo_barredAt_0 rfl ?_
  refine jr_iload_n 1 C d_Mo_barredAt_1 rfl ?_
  refine jr_iload_n 2 C d_Mo_barredAt_2 rfl ?_
  obtain ⟨v1_, ev1_, h⟩ := jz_b h
  refine jr_callV 3 [.int a1, .int a2] C d_Mo_barredAt_3 (c_Mo_barred (xz_l X) C.2.2.2.2.2.2.1 ev1_) sz_Mo_barred tz_Mo_barred lk_Mo_95 oz_Mo rfl (by decide) rfl rfl (Nat.le_of_ble_eq_true rfl) rfl ?_
  refine jr_istore 6 [(0, .ref (gz_ad (mz_G Z) 0)), (1, .int a1), (2, .int a2), (3, .int a3), (4, .int v1_)] C d_Mo_barredAt_6 rfl (by decide) rfl ?_
  refine jr_iload 8 C d_Mo_barredAt_8 rfl ?_
  refine jr_if_le 10 18 C d_Mo_barredAt_10 (by decide) (fun c2_ => ?_) (fun c2_ => ?_)
  · have h := jz_t c2_ h
    refine jr_aload_n 18 C d_Mo_barredAt_18 rfl ?_
    refine jr_iload_n 19 C d_Mo_barredAt_19 rfl ?_
    refine jr_iload_n 20 C d_Mo_barredAt_20 rfl ?_
    obtain ⟨v3_, ev3_, h⟩ := jz_b h
    refine jr_callV 21 [.int a1, .int a3] C d_Mo_barredAt_21 (c_Mo_has (xz_l X) C.2.2.2.2.2.2.1  ev3_) sz_Mo_has tz_Mo_has lk_Mo_99 oz_Mo rfl (by decide) rfl rfl (Nat.le_of_ble_eq_true rfl) rfl ?_
    refine jr_if_ne 24 31 C d_Mo_barredAt_24 (by decide) (fun c4_ => ?_) (fun c4_ => ?_)
    · have h := jz_t c4_ h
      refine jr_iconst 31 0 C d_Mo_barredAt_31 (by decide) ?_
      obtain rfl := Option.some.inj h
      exact jr_iret 32 (v := 0) C d_Mo_barredAt_32 rfl
    · have h := jz_f c4_ h
      refine jr_iconst 27 3 C d_Mo_barredAt_27 (by decide) ?_
      refine jr_goto 28 32 C d_Mo_barredAt_28 (by decide) ?_
      obtain rfl := Option.some.inj h
      exact jr_iret 32 (v := 3) C d_Mo_barredAt_32 rfl
  · have h := jz_f c2_ h
    refine jr_iload 13 C d_Mo_barredAt_13 rfl ?_
    refine jr_goto 15 32 C d_Mo_barredAt_15 (by decide) ?_
    obtain rfl := Option.some.inj h
    exact jr_iret 32 (v := v1_) C d_Mo_barredAt_32 rfl
abbrev rm_Mo_receives : Room := { frames := 1, cells := 0, slots := 0, locals := 22 }
abbrev cd_Mo_receives : Cond := .code y_Mo_receives b_Mo_receives 5 (some .boolean)
def f_Mo_receives (a1 : Int32) (a2 : Int32) (a3 : Int32) (a4 : Int32) (m : jz_M) : Option (Int32) :=
  if a1 = a2 then
    some 0
  else
    (f_Mo_isOn a1 a3 m).bind fun v2_ =>
    if v2_ = 0 then
      some 0
    else
      if ¬ ((a4 >>> (a1 &&& 31)) &&& 1) = 1 then
        some 0
      else
        some 1
set_option maxHeartbeats 4000000 in
set_option maxRecDepth 100000 in
theorem c_Mo_receives {Z : cz_Z} (l : Launch) (hI : jz_I (mz_G Z)) {a1 : Int32} {a2 : Int32} {a3 : Int32} {a4 : Int32} {m : jz_M} {r : Int32} (h : f_Mo_receives a1 a2 a3 a4 m = some r) : jz_m l y_Mo_receives cd_Mo_receives rm_Mo_receives (mz_G Z) [.ref (gz_ad (mz_G Z) 0), .int a1, .int a2, .int a3, .int a4] m (some (.int r)) m := by
  refine jz_met (own := R_Mo) (by decide) rfl hI (Nat.le_of_ble_eq_true rfl) (fun X hX C => ?_)
  subst hX
  show jz_J X 5 (mz_G Z) _ m [(0, .ref (gz_ad (mz_G Z) 0)), (1, .int a1), (2, .int a2), (3, .int a3), (4, .int a4)] 0 []
  unfold f_Mo_receives at h
  refine jr_iload_n 0 C d_Mo_receives_0 rfl ?_
  refine jr_iload_n 1 C d_Mo_receives_1 rfl ?_
  refine jr_icmp_eq 2 28 C d_Mo_receives_2 (by decide) (fun c1_ => ?_) (fun c1_ => ?_)
  · have h := jz_t c1_ h
    refine jr_iconst 28 0 C d_Mo_receives_28 (by decide) ?_
    obtain rfl := Option.some.inj h
    exact jr_zret 29 (v := 0) C d_Mo_receives_29 rfl nb_0
  · have h := jz_f c1_ h
    refine jr_aload_n 5 C d_Mo_receives_5 rfl ?_
    refine jr_iload_n 6 C d_Mo_receives_6 rfl ?_
    refine jr_iload_n 7 C d_Mo_receives_7 rfl ?_
    obtain ⟨v2_, ev2_, h⟩ := jz_b h
    refine jr_callV 8 [.int a1, .int a3] C d_Mo_receives_8 (c_Mo_isOn (xz_l X) C.2.2.2.2.2.2.1  ev2_) sz_Mo_isOn tz_Mo_isOn lk_Mo_75 oz_Mo rfl (by decide) rfl rfl (Nat.le_of_ble_eq_true rfl) rfl ?_
    refine jr_if_eq 11 28 C d_Mo_receives_11 (by decide) (fun c3_ => ?_) (fun c3_ => ?_)
    · have h := jz_t c3_ h
      refine jr_iconst 28 0 C d_Mo_receives_28 (by decide) ?_
      obtain rfl := Option.some.inj h
      exact jr_zret 29 (v := 0) C d_Mo_receives_29 rfl nb_0
    · have h := jz_f c3_ h
      refine jr_iload 14 C d_Mo_receives_14 rfl ?_
      refine jr_iload_n 16 C d_Mo_receives_16 rfl ?_
      refine jr_ishr 17 C d_Mo_receives_17 ?_
      refine jr_iconst 18 1 C d_Mo_receives_18 (by decide) ?_
      refine jr_iand 19 C d_Mo_receives_19 ?_
      refine jr_iconst 20 1 C d_Mo_receives_20 (by decide) ?_
      refine jr_icmp_ne 21 28 C d_Mo_receives_21 (by decide) (fun c4_ => ?_) (fun c4_ => ?_)
      · have h := jz_t c4_ h
        refine jr_iconst 28 0 C d_Mo_receives_28 (by decide) ?_
        obtain rfl := Option.some.inj h
        exact jr_zret 29 (v := 0) C d_Mo_receives_29 rfl nb_0
      · have h := jz_f c4_ h
        refine jr_iconst 24 1 C d_Mo_receives_24 (by decide) ?_
        refine jr_goto 25 29 C d_Mo_receives_25 (by decide) ?_
        obtain rfl := Option.some.inj h
        exact jr_zret 29 (v := 1) C d_Mo_receives_29 rfl nb_1
abbrev rm_Mo_hello : Room := { frames := 2, cells := 0, slots := 0, locals := 46 }
abbrev cd_Mo_hello : Cond := .code y_Mo_hello b_Mo_hello 9 (some .int)
def f_Mo_hello_105 (k31 : Int32 → Int32 → Int32 → Int32 → Int32 → jz_M → Option (Int32 × jz_M)) (k56 : Int32 → Int32 → Int32 → Int32 → Int32 → Int32 → jz_M → Option (Int32 × jz_M)) (x1 : Int32) (x2 : Int32) (x3 : Int32) (x5 : Int32) (x6 : Int32) (x7 : Int32) (m : jz_M) : Option (Int32 × jz_M) :=
  (f_Mo_ear x6 x2 x7 x1 m).bind fun v1_ =>
  (jz_ix 432 v1_).bind fun j2_ =>
  jz_n (jz_up m 6 j2_ 4) fun m3_ =>
  (f_Mo_ear x1 x2 x7 x6 m3_).bind fun v4_ =>
  (jz_ix 432 v4_).bind fun j5_ =>
  if (m3_ 6 j5_) ≤ 0 then
    (jz_ix 432 v1_).bind fun j7_ =>
    jz_n (jz_up m3_ 7 j7_ (vp_nar .boolean 0)) fun m8_ =>
    jz_n (x7 + 1) fun x9_ =>
    k56 x1 x2 x3 x5 x6 x9_ m8_
  else
    (jz_ix 432 v1_).bind fun j10_ =>
    jz_n (jz_up m3_ 7 j10_ (vp_nar .boolean 1)) fun m11_ =>
    jz_n (x7 + 1) fun x12_ =>
    k56 x1 x2 x3 x5 x6 x12_ m11_
set_option maxHeartbeats 4000000 in
set_option maxRecDepth 100000 in
theorem t_Mo_hello_105 {Z : cz_Z} {X : jz_X} {r : Int32 × jz_M} (C : jz_C X 9 b_Mo_hello R_Mo (some .int) rm_Mo_hello (mz_G Z)) (k31 : Int32 → Int32 → Int32 → Int32 → Int32 → jz_M → Option (Int32 × jz_M)) (hk31 : ∀ (x1 : Int32) (x2 : Int32) (x3 : Int32) (x5 : Int32) (x6 : Int32) (m : jz_M), k31 x1 x2 x3 x5 x6 m = some r → jz_J X 9 (mz_G Z) (jz_q X (mz_G Z) (some (.int r.1)) r.2) m [(0, .ref (gz_ad (mz_G Z) 0)), (1, .int x1), (2, .int x2), (3, .int x3), (5, .int x5), (6, .int x6)] 31 []) (k56 : Int32 → Int32 → Int32 → Int32 → Int32 → Int32 → jz_M → Option (Int32 × jz_M)) (hk56 : ∀ (x1 : Int32) (x2 : Int32) (x3 : Int32) (x5 : Int32) (x6 : Int32) (x7 : Int32) (m : jz_M), k56 x1 x2 x3 x5 x6 x7 m = some r → jz_J X 9 (mz_G Z) (jz_q X (mz_G Z) (some (.int r.1)) r.2) m [(0, .ref (gz_ad (mz_G Z) 0)), (1, .int x1), (2, .int x2), (3, .int x3), (5, .int x5), (6, .int x6), (7, .int x7)] 56 []) : ∀ (x1 : Int32) (x2 : Int32) (x3 : Int32) (x5 : Int32) (x6 : Int32) (x7 : Int32) (m : jz_M) , f_Mo_hello_105 k31 k56 x1 x2 x3 x5 x6 x7 m = some r → jz_J X 9 (mz_G Z) (jz_q X (mz_G Z) (some (.int r.1)) r.2) m [(0, .ref (gz_ad (mz_G Z) 0)), (1, .int x1), (2, .int x2), (3, .int x3), (5, .int x5), (6, .int x6), (7, .int x7)] 105 [] := by
  intro x1 x2 x3 x5 x6 x7 m h
  unfold f_Mo_hello_105 at h
  refine jr_iload 105 C d_Mo_hello_105 rfl ?_
  refine jr_iload_n 107 C d_Mo_hello_107 rfl ?_
  refine jr_iload 108 C d_Mo_hello_108 rfl ?_
  refine jr_iload_n 110 C d_Mo_hello_110 rfl ?_
  obtain ⟨v1_, ev1_, h⟩ := jz_b h
  refine jr_callS 111 [.int x6, .int x2, .int x7, .int x1] C d_Mo_hello_111 (c_Mo_ear (xz_l X) C.2.2.2.2.2.2.1 ev1_) sz_Mo_ear tz_Mo_ear lk_Mo_83 (by decide) rfl rfl (Nat.le_of_ble_eq_true rfl) rfl ?_
  refine jr_istore 114 [(0, .ref (gz_ad (mz_G Z) 0)), (1, .int x1), (2, .int x2), (3, .int x3), (5, .int x5), (6, .int x6), (7, .int x7), (8, .int v1_)] C d_Mo_hello_114 rfl (by decide) rfl ?_
  refine jr_aload_n 116 C d_Mo_hello_116 rfl ?_
  refine gf_Mo_26 117 C d_Mo_hello_117 ?_
  refine jr_iload 120 C d_Mo_hello_120 rfl ?_
  refine jr_iconst 122 4 C d_Mo_hello_122 (by decide) ?_
  obtain ⟨j2_, ej2_, h⟩ := jz_b h
  obtain ⟨m3_, em3_, h⟩ := jz_ne h
  refine jr_iast 123 C d_Mo_hello_123 zk_Mo_heard ej2_ ?_
  refine jr_mem em3_ ?_
  refine jr_aload_n 124 C d_Mo_hello_124 rfl ?_
  refine gf_Mo_29 125 C d_Mo_hello_125 ?_
  refine jr_iload 128 C d_Mo_hello_128 rfl ?_
  refine jr_aload_n 130 C d_Mo_hello_130 rfl ?_
  refine gf_Mo_26 131 C d_Mo_hello_131 ?_
  refine jr_iload_n 134 C d_Mo_hello_134 rfl ?_
  refine jr_iload_n 135 C d_Mo_hello_135 rfl ?_
  refine jr_iload 136 C d_Mo_hello_136 rfl ?_
  refine jr_iload 138 C d_Mo_hello_138 rfl ?_
  obtain ⟨v4_, ev4_, h⟩ := jz_b h
  refine jr_callS 140 [.int x1, .int x2, .int x7, .int x6] C d_Mo_hello_140 (c_Mo_ear (xz_l X) C.2.2.2.2.2.2.1 ev4_) sz_Mo_ear tz_Mo_ear lk_Mo_83 (by decide) rfl rfl (Nat.le_of_ble_eq_true rfl) rfl ?_
  obtain ⟨j5_, ej5_, h⟩ := jz_b h
  refine jr_iald 143 C d_Mo_hello_143 zk_Mo_heard ej5_ ?_
  refine jr_if_le 144 151 C d_Mo_hello_144 (by decide) (fun c6_ => ?_) (fun c6_ => ?_)
  · have h := jz_t c6_ h
    refine jr_iconst 151 0 C d_Mo_hello_151 (by decide) ?_
    obtain ⟨j7_, ej7_, h⟩ := jz_b h
    obtain ⟨m8_, em8_, h⟩ := jz_ne h
    refine jr_zast 152 C d_Mo_hello_152 zk_Mo_named ej7_ ?_
    refine jr_mem em8_ ?_
    obtain ⟨x9_, ex9_, h⟩ := jz_ne h
    refine jr_iinc 153 [(0, .ref (gz_ad (mz_G Z) 0)), (1, .int x1), (2, .int x2), (3, .int x3), (5, .int x5), (6, .int x6), (7, .int x9_), (8, .int v1_)] C d_Mo_hello_153 rfl (by decide) rfl (by rw [ex9_]; rfl) rfl ?_
    refine jr_goto 156 56 C d_Mo_hello_156 (by decide) ?_
    refine jr_sub [0, 1, 2, 3, 4, 5, 6] rfl ?_
    exact hk56 x1 x2 x3 x5 x6 x9_ m8_  h
  · have h := jz_f c6_ h
    refine jr_iconst 147 1 C d_Mo_hello_147 (by decide) ?_
    refine jr_goto 148 152 C d_Mo_hello_148 (by decide) ?_
    obtain ⟨j10_, ej10_, h⟩ := jz_b h
    obtain ⟨m11_, em11_, h⟩ := jz_ne h
    refine jr_zast 152 C d_Mo_hello_152 zk_Mo_named ej10_ ?_
    refine jr_mem em11_ ?_
    obtain ⟨x12_, ex12_, h⟩ := jz_ne h
    refine jr_iinc 153 [(0, .ref (gz_ad (mz_G Z) 0)), (1, .int x1), (2, .int x2), (3, .int x3), (5, .int x5), (6, .int x6), (7, .int x12_), (8, .int v1_)] C d_Mo_hello_153 rfl (by decide) rfl (by rw [ex12_]; rfl) rfl ?_
    refine jr_goto 156 56 C d_Mo_hello_156 (by decide) ?_
    refine jr_sub [0, 1, 2, 3, 4, 5, 6] rfl ?_
    exact hk56 x1 x2 x3 x5 x6 x12_ m11_  h
def f_Mo_hello_56 (k31 : Int32 → Int32 → Int32 → Int32 → Int32 → jz_M → Option (Int32 × jz_M)) : Nat → Int32 → Int32 → Int32 → Int32 → Int32 → Int32 → jz_M → Option (Int32 × jz_M)
  | 0, _, _, _, _, _, _, _ => none
  | fu + 1, x1, x2, x3, x5, x6, x7, m =>
    if 2 < x7 then
      jz_n (x6 + 1) fun x2_ =>
      k31 x1 x2 x3 x5 x2_ m
    else
      (f_Mo_has x6 x7 m).bind fun v3_ =>
      if v3_ = 0 then
        jz_n (x7 + 1) fun x5_ =>
        f_Mo_hello_56 k31 fu x1 x2 x3 x5 x6 x5_ m
      else
        (f_Mo_has x1 x7 m).bind fun v6_ =>
        if v6_ = 0 then
          jz_n (x7 + 1) fun x8_ =>
          f_Mo_hello_56 k31 fu x1 x2 x3 x5 x6 x8_ m
        else
          if x7 = 2 then
            f_Mo_hello_105 k31 (f_Mo_hello_56 k31 fu) x1 x2 x3 x5 x6 x7 m
          else
            (jz_ix 6 x6).bind fun j10_ =>
            (jz_ix 6 x1).bind fun j11_ =>
            if ¬ (m 1 j10_) = (m 1 j11_) then
              jz_n (x7 + 1) fun x13_ =>
              f_Mo_hello_56 k31 fu x1 x2 x3 x5 x6 x13_ m
            else
              f_Mo_hello_105 k31 (f_Mo_hello_56 k31 fu) x1 x2 x3 x5 x6 x7 m
set_option maxHeartbeats 4000000 in
set_option maxRecDepth 100000 in
theorem t_Mo_hello_56 {Z : cz_Z} {X : jz_X} {r : Int32 × jz_M} (C : jz_C X 9 b_Mo_hello R_Mo (some .int) rm_Mo_hello (mz_G Z)) (k31 : Int32 → Int32 → Int32 → Int32 → Int32 → jz_M → Option (Int32 × jz_M)) (hk31 : ∀ (x1 : Int32) (x2 : Int32) (x3 : Int32) (x5 : Int32) (x6 : Int32) (m : jz_M), k31 x1 x2 x3 x5 x6 m = some r → jz_J X 9 (mz_G Z) (jz_q X (mz_G Z) (some (.int r.1)) r.2) m [(0, .ref (gz_ad (mz_G Z) 0)), (1, .int x1), (2, .int x2), (3, .int x3), (5, .int x5), (6, .int x6)] 31 []) : ∀ (fu : Nat) (x1 : Int32) (x2 : Int32) (x3 : Int32) (x5 : Int32) (x6 : Int32) (x7 : Int32) (m : jz_M) , f_Mo_hello_56 k31 fu x1 x2 x3 x5 x6 x7 m = some r → jz_J X 9 (mz_G Z) (jz_q X (mz_G Z) (some (.int r.1)) r.2) m [(0, .ref (gz_ad (mz_G Z) 0)), (1, .int x1), (2, .int x2), (3, .int x3), (5, .int x5), (6, .int x6), (7, .int x7)] 56 [] := by
  intro fu
  induction fu with
  | zero => intro x1 x2 x3 x5 x6 x7 m h; cases h
  | succ fu ih =>
    intro x1 x2 x3 x5 x6 x7 m h
    rw [f_Mo_hello_56] at h
    refine jr_iload 56 C d_Mo_hello_56 rfl ?_
    refine jr_iconst 58 2 C d_Mo_hello_58 (by decide) ?_
    refine jr_icmp_gt 59 159 C d_Mo_hello_59 (by decide) (fun c1_ => ?_) (fun c1_ => ?_)
    · have h := jz_t c1_ h
      obtain ⟨x2_, ex2_, h⟩ := jz_ne h
      refine jr_iinc 159 [(0, .ref (gz_ad (mz_G Z) 0)), (1, .int x1), (2, .int x2), (3, .int x3), (5, .int x5), (6, .int x2_), (7, .int x7)] C d_Mo_hello_159 rfl (by decide) rfl (by rw [ex2_]; rfl) rfl ?_
      refine jr_goto 162 31 C d_Mo_hello_162 (by decide) ?_
      refine jr_sub [0, 1, 2, 3, 4, 5] rfl ?_
      exact hk31 x1 x2 x3 x5 x2_ m  h
    · have h := jz_f c1_ h
      refine jr_aload_n 62 C d_Mo_hello_62 rfl ?_
      refine jr_iload 63 C d_Mo_hello_63 rfl ?_
      refine jr_iload 65 C d_Mo_hello_65 rfl ?_
      obtain ⟨v3_, ev3_, h⟩ := jz_b h
      refine jr_callV 67 [.int x6, .int x7] C d_Mo_hello_67 (c_Mo_has (xz_l X) C.2.2.2.2.2.2.1  ev3_) sz_Mo_has tz_Mo_has lk_Mo_99 oz_Mo rfl (by decide) rfl rfl (Nat.le_of_ble_eq_true rfl) rfl ?_
      refine jr_if_eq 70 153 C d_Mo_hello_70 (by decide) (fun c4_ => ?_) (fun c4_ => ?_)
      · have h := jz_t c4_ h
        obtain ⟨x5_, ex5_, h⟩ := jz_ne h
        refine jr_iinc 153 [(0, .ref (gz_ad (mz_G Z) 0)), (1, .int x1), (2, .int x2), (3, .int x3), (5, .int x5), (6, .int x6), (7, .int x5_)] C d_Mo_hello_153 rfl (by decide) rfl (by rw [ex5_]; rfl) rfl ?_
        refine jr_goto 156 56 C d_Mo_hello_156 (by decide) ?_
        refine jr_sub [0, 1, 2, 3, 4, 5, 6] rfl ?_
        exact ih x1 x2 x3 x5 x6 x5_ m  h
      · have h := jz_f c4_ h
        refine jr_aload_n 73 C d_Mo_hello_73 rfl ?_
        refine jr_iload_n 74 C d_Mo_hello_74 rfl ?_
        refine jr_iload 75 C d_Mo_hello_75 rfl ?_
        obtain ⟨v6_, ev6_, h⟩ := jz_b h
        refine jr_callV 77 [.int x1, .int x7] C d_Mo_hello_77 (c_Mo_has (xz_l X) C.2.2.2.2.2.2.1  ev6_) sz_Mo_has tz_Mo_has lk_Mo_99 oz_Mo rfl (by decide) rfl rfl (Nat.le_of_ble_eq_true rfl) rfl ?_
        refine jr_if_eq 80 153 C d_Mo_hello_80 (by decide) (fun c7_ => ?_) (fun c7_ => ?_)
        · have h := jz_t c7_ h
          obtain ⟨x8_, ex8_, h⟩ := jz_ne h
          refine jr_iinc 153 [(0, .ref (gz_ad (mz_G Z) 0)), (1, .int x1), (2, .int x2), (3, .int x3), (5, .int x5), (6, .int x6), (7, .int x8_)] C d_Mo_hello_153 rfl (by decide) rfl (by rw [ex8_]; rfl) rfl ?_
          refine jr_goto 156 56 C d_Mo_hello_156 (by decide) ?_
          refine jr_sub [0, 1, 2, 3, 4, 5, 6] rfl ?_
          exact ih x1 x2 x3 x5 x6 x8_ m  h
        · have h := jz_f c7_ h
          refine jr_iload 83 C d_Mo_hello_83 rfl ?_
          refine jr_iconst 85 2 C d_Mo_hello_85 (by decide) ?_
          refine jr_icmp_eq 86 105 C d_Mo_hello_86 (by decide) (fun c9_ => ?_) (fun c9_ => ?_)
          · have h := jz_t c9_ h
            refine jr_sub [0, 1, 2, 3, 4, 5, 6] rfl ?_
            exact t_Mo_hello_105 C k31 hk31 (f_Mo_hello_56 k31 fu) ih x1 x2 x3 x5 x6 x7 m h
          · have h := jz_f c9_ h
            refine jr_aload_n 89 C d_Mo_hello_89 rfl ?_
            refine gf_Mo_7 90 C d_Mo_hello_90 ?_
            refine jr_iload 93 C d_Mo_hello_93 rfl ?_
            obtain ⟨j10_, ej10_, h⟩ := jz_b h
            refine jr_iald 95 C d_Mo_hello_95 zk_Mo_area ej10_ ?_
            refine jr_aload_n 96 C d_Mo_hello_96 rfl ?_
            refine gf_Mo_7 97 C d_Mo_hello_97 ?_
            refine jr_iload_n 100 C d_Mo_hello_100 rfl ?_
            obtain ⟨j11_, ej11_, h⟩ := jz_b h
            refine jr_iald 101 C d_Mo_hello_101 zk_Mo_area ej11_ ?_
            refine jr_icmp_ne 102 153 C d_Mo_hello_102 (by decide) (fun c12_ => ?_) (fun c12_ => ?_)
            · have h := jz_t c12_ h
              obtain ⟨x13_, ex13_, h⟩ := jz_ne h
              refine jr_iinc 153 [(0, .ref (gz_ad (mz_G Z) 0)), (1, .int x1), (2, .int x2), (3, .int x3), (5, .int x5), (6, .int x6), (7, .int x13_)] C d_Mo_hello_153 rfl (by decide) rfl (by rw [ex13_]; rfl) rfl ?_
              refine jr_goto 156 56 C d_Mo_hello_156 (by decide) ?_
              refine jr_sub [0, 1, 2, 3, 4, 5, 6] rfl ?_
              exact ih x1 x2 x3 x5 x6 x13_ m  h
            · have h := jz_f c12_ h
              refine jr_sub [0, 1, 2, 3, 4, 5, 6] rfl ?_
              exact t_Mo_hello_105 C k31 hk31 (f_Mo_hello_56 k31 fu) ih x1 x2 x3 x5 x6 x7 m h
def f_Mo_hello_31 : Nat → Int32 → Int32 → Int32 → Int32 → Int32 → jz_M → Option (Int32 × jz_M)
  | 0, _, _, _, _, _, _ => none
  | fu + 1, x1, x2, x3, x5, x6, m =>
    if 6 ≤ x6 then
      some (x5, m)
    else
      (f_Mo_receives x6 x1 x2 x3 m).bind fun v2_ =>
      if v2_ = 0 then
        jz_n (x6 + 1) fun x4_ =>
        f_Mo_hello_31 fu x1 x2 x3 x5 x4_ m
      else
        jz_n (x5 + 1) fun x5_ =>
        f_Mo_hello_56 (f_Mo_hello_31 fu) 1000000 x1 x2 x3 x5_ x6 1 m
set_option maxHeartbeats 4000000 in
set_option maxRecDepth 100000 in
theorem t_Mo_hello_31 {Z : cz_Z} {X : jz_X} {r : Int32 × jz_M} (C : jz_C X 9 b_Mo_hello R_Mo (some .int) rm_Mo_hello (mz_G Z)) : ∀ (fu : Nat) (x1 : Int32) (x2 : Int32) (x3 : Int32) (x5 : Int32) (x6 : Int32) (m : jz_M) , f_Mo_hello_31 fu x1 x2 x3 x5 x6 m = some r → jz_J X 9 (mz_G Z) (jz_q X (mz_G Z) (some (.int r.1)) r.2) m [(0, .ref (gz_ad (mz_G Z) 0)), (1, .int x1), (2, .int x2), (3, .int x3), (5, .int x5), (6, .int x6)] 31 [] := by
  intro fu
  induction fu with
  | zero => intro x1 x2 x3 x5 x6 m h; cases h
  | succ fu ih =>
    intro x1 x2 x3 x5 x6 m h
    rw [f_Mo_hello_31] at h
    refine jr_iload 31 C d_Mo_hello_31 rfl ?_
    refine jr_bipush 33 6 C d_Mo_hello_33 (by decide) ?_
    refine jr_icmp_ge 35 165 C d_Mo_hello_35 (by decide) (fun c1_ => ?_) (fun c1_ => ?_)
    · have h := jz_t c1_ h
      refine jr_iload 165 C d_Mo_hello_165 rfl ?_
      obtain rfl := Option.some.inj h
      exact jr_iret 167 (v := x5) C d_Mo_hello_167 rfl
    · have h := jz_f c1_ h
      refine jr_aload_n 38 C d_Mo_hello_38 rfl ?_
      refine jr_iload 39 C d_Mo_hello_39 rfl ?_
      refine jr_iload_n 41 C d_Mo_hello_41 rfl ?_
      refine jr_iload_n 42 C d_Mo_hello_42 rfl ?_
      refine jr_iload_n 43 C d_Mo_hello_43 rfl ?_
      obtain ⟨v2_, ev2_, h⟩ := jz_b h
      refine jr_callV 44 [.int x6, .int x1, .int x2, .int x3] C d_Mo_hello_44 (c_Mo_receives (xz_l X) C.2.2.2.2.2.2.1  ev2_) sz_Mo_receives tz_Mo_receives lk_Mo_105 oz_Mo rfl (by decide) rfl rfl (Nat.le_of_ble_eq_true rfl) rfl ?_
      refine jr_if_eq 47 159 C d_Mo_hello_47 (by decide) (fun c3_ => ?_) (fun c3_ => ?_)
      · have h := jz_t c3_ h
        obtain ⟨x4_, ex4_, h⟩ := jz_ne h
        refine jr_iinc 159 [(0, .ref (gz_ad (mz_G Z) 0)), (1, .int x1), (2, .int x2), (3, .int x3), (5, .int x5), (6, .int x4_)] C d_Mo_hello_159 rfl (by decide) rfl (by rw [ex4_]; rfl) rfl ?_
        refine jr_goto 162 31 C d_Mo_hello_162 (by decide) ?_
        refine jr_sub [0, 1, 2, 3, 4, 5] rfl ?_
        exact ih x1 x2 x3 x5 x4_ m  h
      · have h := jz_f c3_ h
        obtain ⟨x5_, ex5_, h⟩ := jz_ne h
        refine jr_iinc 50 [(0, .ref (gz_ad (mz_G Z) 0)), (1, .int x1), (2, .int x2), (3, .int x3), (5, .int x5_), (6, .int x6)] C d_Mo_hello_50 rfl (by decide) rfl (by rw [ex5_]; rfl) rfl ?_
        refine jr_iconst 53 1 C d_Mo_hello_53 (by decide) ?_
        refine jr_istore 54 [(0, .ref (gz_ad (mz_G Z) 0)), (1, .int x1), (2, .int x2), (3, .int x3), (5, .int x5_), (6, .int x6), (7, .int 1)] C d_Mo_hello_54 rfl (by decide) rfl ?_
        refine jr_sub [0, 1, 2, 3, 4, 5, 6] rfl ?_
        exact t_Mo_hello_56 C (f_Mo_hello_31 fu) ih 1000000 x1 x2 x3 x5_ x6 1 m h
def f_Mo_hello (a1 : Int32) (a2 : Int32) (a3 : Int32) (m : jz_M) : Option (Int32 × jz_M) :=
  (f_Mo_barred a1 a2 m).bind fun v1_ =>
  if v1_ ≤ 0 then
    jz_n (jz_up m 0 0 0) fun m3_ =>
    f_Mo_hello_31 1000000 a1 a2 a3 0 0 m3_
  else
    (f_Mo_raise v1_ m).bind fun v4_ =>
    some (v4_.1, v4_.2)
set_option maxHeartbeats 4000000 in
set_option maxRecDepth 100000 in
theorem c_Mo_hello {Z : cz_Z} (l : Launch) (hI : jz_I (mz_G Z)) {a1 : Int32} {a2 : Int32} {a3 : Int32} {m : jz_M} {r : Int32 × jz_M} (h : f_Mo_hello a1 a2 a3 m = some r) : jz_m l y_Mo_hello cd_Mo_hello rm_Mo_hello (mz_G Z) [.ref (gz_ad (mz_G Z) 0), .int a1, .int a2, .int a3] m (some (.int r.1)) r.2 := by
  refine jz_met (own := R_Mo) (by decide) rfl hI (Nat.le_of_ble_eq_true rfl) (fun X hX C => ?_)
  subst hX
  show jz_J X 9 (mz_G Z) _ m [(0, .ref (gz_ad (mz_G Z) 0)), (1, .int a1), (2, .int a2), (3, .int a3)] 0 []
  unfold f_Mo_hello at h
  refine jr_aload_n 0 C d_Mo_hello_0 rfl ?_
  refine jr_iload_n 1 C d_Mo_hello_1 rfl ?_
  refine jr_iload_n 2 C d_Mo_hello_2 rfl ?_
  obtain ⟨v1_, ev1_, h⟩ := jz_b h
  refine jr_callV 3 [.int a1, .int a2] C d_Mo_hello_3 (c_Mo_barred (xz_l X) C.2.2.2.2.2.2.1 ev1_) sz_Mo_barred tz_Mo_barred lk_Mo_95 oz_Mo rfl (by decide) rfl rfl (Nat.le_of_ble_eq_true rfl) rfl ?_
  refine jr_istore 6 [(0, .ref (gz_ad (mz_G Z) 0)), (1, .int a1), (2, .int a2), (3, .int a3), (4, .int v1_)] C d_Mo_hello_6 rfl (by decide) rfl ?_
  refine jr_iload 8 C d_Mo_hello_8 rfl ?_
  refine jr_if_le 10 20 C d_Mo_hello_10 (by decide) (fun c2_ => ?_) (fun c2_ => ?_)
  · have h := jz_t c2_ h
    refine jr_aload_n 20 C d_Mo_hello_20 rfl ?_
    refine jr_iconst 21 0 C d_Mo_hello_21 (by decide) ?_
    obtain ⟨m3_, em3_, h⟩ := jz_ne h
    refine pf_Mo_71 22 C d_Mo_hello_22 ?_
    refine jr_mem em3_ ?_
    refine jr_iconst 25 0 C d_Mo_hello_25 (by decide) ?_
    refine jr_istore 26 [(0, .ref (gz_ad (mz_G Z) 0)), (1, .int a1), (2, .int a2), (3, .int a3), (4, .int v1_), (5, .int 0)] C d_Mo_hello_26 rfl (by decide) rfl ?_
    refine jr_iconst 28 0 C d_Mo_hello_28 (by decide) ?_
    refine jr_istore 29 [(0, .ref (gz_ad (mz_G Z) 0)), (1, .int a1), (2, .int a2), (3, .int a3), (4, .int v1_), (5, .int 0), (6, .int 0)] C d_Mo_hello_29 rfl (by decide) rfl ?_
    refine jr_sub [0, 1, 2, 3, 5, 6] rfl ?_
    exact t_Mo_hello_31 C  1000000 a1 a2 a3 0 0 m3_ h
  · have h := jz_f c2_ h
    refine jr_aload_n 13 C d_Mo_hello_13 rfl ?_
    refine jr_iload 14 C d_Mo_hello_14 rfl ?_
    obtain ⟨v4_, ev4_, h⟩ := jz_b h
    refine jr_callV 16 [.int v1_] C d_Mo_hello_16 (c_Mo_raise (xz_l X) C.2.2.2.2.2.2.1  ev4_) sz_Mo_raise tz_Mo_raise lk_Mo_102 oz_Mo rfl (by decide) rfl rfl (Nat.le_of_ble_eq_true rfl) rfl ?_
    obtain rfl := Option.some.inj h
    exact jr_iret 19 (v := v4_.1) C d_Mo_hello_19 rfl
abbrev rm_Mo_at : Room := { frames := 0, cells := 0, slots := 0, locals := 0 }
abbrev cd_Mo_at : Cond := .code y_Mo_at b_Mo_at 3 (some .int)
def f_Mo_at (a0 : Int32) (a1 : Int32) (a2 : Int32) (m : jz_M) : Option (Int32) :=
  some ((((84 : Int32) * a0) + ((42 : Int32) * (a1 - 1))) + a2)
set_option maxHeartbeats 4000000 in
set_option maxRecDepth 100000 in
theorem c_Mo_at {Z : cz_Z} (l : Launch) (hI : jz_I (mz_G Z)) {a0 : Int32} {a1 : Int32} {a2 : Int32} {m : jz_M} {r : Int32} (h : f_Mo_at a0 a1 a2 m = some r) : jz_m l y_Mo_at cd_Mo_at rm_Mo_at (mz_G Z) [.int a0, .int a1, .int a2] m (some (.int r)) m := by
  refine jz_met (own := R_Mo) (by decide) rfl hI (Nat.le_of_ble_eq_true rfl) (fun X hX C => ?_)
  subst hX
  show jz_J X 3 (mz_G Z) _ m [(0, .int a0), (1, .int a1), (2, .int a2)] 0 []
  unfold f_Mo_at at h
  refine jr_bipush 0 84 C d_Mo_at_0 (by decide) ?_
  refine jr_iload_n 2 C d_Mo_at_2 rfl ?_
  refine jr_imul 3 C d_Mo_at_3 ?_
  refine jr_bipush 4 42 C d_Mo_at_4 (by decide) ?_
  refine jr_iload_n 6 C d_Mo_at_6 rfl ?_
  refine jr_iconst 7 1 C d_Mo_at_7 (by decide) ?_
  refine jr_isub 8 C d_Mo_at_8 ?_
  refine jr_imul 9 C d_Mo_at_9 ?_
  refine jr_iadd 10 C d_Mo_at_10 ?_
  refine jr_iload_n 11 C d_Mo_at_11 rfl ?_
  refine jr_iadd 12 C d_Mo_at_12 ?_
  obtain rfl := Option.some.inj h
  exact jr_iret 13 (v := ((((84 : Int32) * a0) + ((42 : Int32) * (a1 - 1))) + a2)) C d_Mo_at_13 rfl
abbrev rm_Mo_put : Room := { frames := 0, cells := 0, slots := 0, locals := 0 }
abbrev cd_Mo_put : Cond := .code y_Mo_put b_Mo_put 3 none
def f_Mo_put (a1 : Int32) (a2 : Int32) (m : jz_M) : Option (jz_M) :=
  (jz_ix 10 (m 0 1)).bind fun j1_ =>
  jz_n (jz_up m 18 j1_ (a1 + ((64 : Int32) * a2))) fun m2_ =>
  jz_n (jz_up m2_ 0 1 ((m2_ 0 1) + 1)) fun m3_ =>
  some m3_
set_option maxHeartbeats 4000000 in
set_option maxRecDepth 100000 in
theorem c_Mo_put {Z : cz_Z} (l : Launch) (hI : jz_I (mz_G Z)) {a1 : Int32} {a2 : Int32} {m : jz_M} {r : jz_M} (h : f_Mo_put a1 a2 m = some r) : jz_m l y_Mo_put cd_Mo_put rm_Mo_put (mz_G Z) [.ref (gz_ad (mz_G Z) 0), .int a1, .int a2] m none r := by
  refine jz_met (own := R_Mo) (by decide) rfl hI (Nat.le_of_ble_eq_true rfl) (fun X hX C => ?_)
  subst hX
  show jz_J X 3 (mz_G Z) _ m [(0, .ref (gz_ad (mz_G Z) 0)), (1, .int a1), (2, .int a2)] 0 []
  unfold f_Mo_put at h
  refine jr_aload_n 0 C d_Mo_put_0 rfl ?_
  refine gf_Mo_62 1 C d_Mo_put_1 ?_
  refine jr_aload_n 4 C d_Mo_put_4 rfl ?_
  refine gf_Mo_108 5 C d_Mo_put_5 ?_
  refine jr_iload_n 8 C d_Mo_put_8 rfl ?_
  refine jr_bipush 9 64 C d_Mo_put_9 (by decide) ?_
  refine jr_iload_n 11 C d_Mo_put_11 rfl ?_
  refine jr_imul 12 C d_Mo_put_12 ?_
  refine jr_iadd 13 C d_Mo_put_13 ?_
  obtain ⟨j1_, ej1_, h⟩ := jz_b h
  obtain ⟨m2_, em2_, h⟩ := jz_ne h
  refine jr_iast 14 C d_Mo_put_14 zk_Mo_now ej1_ ?_
  refine jr_mem em2_ ?_
  refine jr_aload_n 15 C d_Mo_put_15 rfl ?_
  refine jr_dup 16 C d_Mo_put_16 rfl ?_
  refine gf_Mo_108 17 C d_Mo_put_17 ?_
  refine jr_iconst 20 1 C d_Mo_put_20 (by decide) ?_
  refine jr_iadd 21 C d_Mo_put_21 ?_
  obtain ⟨m3_, em3_, h⟩ := jz_ne h
  refine pf_Mo_108 22 C d_Mo_put_22 ?_
  refine jr_mem em3_ ?_
  obtain rfl := Option.some.inj h
  exact jr_vret 25 C d_Mo_put_25 rfl
abbrev rm_Mo_ownLink : Room := { frames := 3, cells := 0, slots := 0, locals := 75 }
abbrev cd_Mo_ownLink : Cond := .code y_Mo_ownLink b_Mo_ownLink 5 none
def f_Mo_ownLink_41 : Nat → Int32 → Int32 → Int32 → Int32 → jz_M → Option (jz_M)
  | 0, _, _, _, _, _ => none
  | fu + 1, x1, x2, x3, x4, m =>
    if 6 ≤ x4 then
      some m
    else
      (f_Mo_near x1 x2 x3 x4 m).bind fun v2_ =>
      if v2_ = 0 then
        jz_n (x4 + 1) fun x4_ =>
        f_Mo_ownLink_41 fu x1 x2 x3 x4_ m
      else
        (jz_ix 36 (((6 : Int32) * x1) + x2)).bind fun j5_ =>
        (f_Mo_put ((7 : Int32) * x4) (m 4 j5_) m).bind fun v6_ =>
        jz_n (x4 + 1) fun x7_ =>
        f_Mo_ownLink_41 fu x1 x2 x3 x7_ v6_
set_option maxHeartbeats 4000000 in
set_option maxRecDepth 100000 in
theorem t_Mo_ownLink_41 {Z : cz_Z} {X : jz_X} {r : jz_M} (C : jz_C X 5 b_Mo_ownLink R_Mo none rm_Mo_ownLink (mz_G Z)) : ∀ (fu : Nat) (x1 : Int32) (x2 : Int32) (x3 : Int32) (x4 : Int32) (m : jz_M) , f_Mo_ownLink_41 fu x1 x2 x3 x4 m = some r → jz_J X 5 (mz_G Z) (jz_q X (mz_G Z) none r) m [(0, .ref (gz_ad (mz_G Z) 0)), (1, .int x1), (2, .int x2), (3, .int x3), (4, .int x4)] 41 [] := by
  intro fu
  induction fu with
  | zero => intro x1 x2 x3 x4 m h; cases h
  | succ fu ih =>
    intro x1 x2 x3 x4 m h
    rw [f_Mo_ownLink_41] at h
    refine jr_iload 41 C d_Mo_ownLink_41 rfl ?_
    refine jr_bipush 43 6 C d_Mo_ownLink_43 (by decide) ?_
    refine jr_icmp_ge 45 86 C d_Mo_ownLink_45 (by decide) (fun c1_ => ?_) (fun c1_ => ?_)
    · have h := jz_t c1_ h
      obtain rfl := Option.some.inj h
      exact jr_vret 86 C d_Mo_ownLink_86 rfl
    · have h := jz_f c1_ h
      refine jr_aload_n 48 C d_Mo_ownLink_48 rfl ?_
      refine jr_iload_n 49 C d_Mo_ownLink_49 rfl ?_
      refine jr_iload_n 50 C d_Mo_ownLink_50 rfl ?_
      refine jr_iload_n 51 C d_Mo_ownLink_51 rfl ?_
      refine jr_iload 52 C d_Mo_ownLink_52 rfl ?_
      obtain ⟨v2_, ev2_, h⟩ := jz_b h
      refine jr_callV 54 [.int x1, .int x2, .int x3, .int x4] C d_Mo_ownLink_54 (c_Mo_near (xz_l X) C.2.2.2.2.2.2.1  ev2_) sz_Mo_near tz_Mo_near lk_Mo_87 oz_Mo rfl (by decide) rfl rfl (Nat.le_of_ble_eq_true rfl) rfl ?_
      refine jr_if_eq 57 80 C d_Mo_ownLink_57 (by decide) (fun c3_ => ?_) (fun c3_ => ?_)
      · have h := jz_t c3_ h
        obtain ⟨x4_, ex4_, h⟩ := jz_ne h
        refine jr_iinc 80 [(0, .ref (gz_ad (mz_G Z) 0)), (1, .int x1), (2, .int x2), (3, .int x3), (4, .int x4_)] C d_Mo_ownLink_80 rfl (by decide) rfl (by rw [ex4_]; rfl) rfl ?_
        refine jr_goto 83 41 C d_Mo_ownLink_83 (by decide) ?_
        refine jr_sub [0, 1, 2, 3, 4] rfl ?_
        exact ih x1 x2 x3 x4_ m  h
      · have h := jz_f c3_ h
        refine jr_aload_n 60 C d_Mo_ownLink_60 rfl ?_
        refine jr_bipush 61 7 C d_Mo_ownLink_61 (by decide) ?_
        refine jr_iload 63 C d_Mo_ownLink_63 rfl ?_
        refine jr_imul 65 C d_Mo_ownLink_65 ?_
        refine jr_aload_n 66 C d_Mo_ownLink_66 rfl ?_
        refine gf_Mo_20 67 C d_Mo_ownLink_67 ?_
        refine jr_bipush 70 6 C d_Mo_ownLink_70 (by decide) ?_
        refine jr_iload_n 72 C d_Mo_ownLink_72 rfl ?_
        refine jr_imul 73 C d_Mo_ownLink_73 ?_
        refine jr_iload_n 74 C d_Mo_ownLink_74 rfl ?_
        refine jr_iadd 75 C d_Mo_ownLink_75 ?_
        obtain ⟨j5_, ej5_, h⟩ := jz_b h
        refine jr_iald 76 C d_Mo_ownLink_76 zk_Mo_metric ej5_ ?_
        obtain ⟨v6_, ev6_, h⟩ := jz_b h
        refine jr_callV 77 [.int ((7 : Int32) * x4), .int (m 4 j5_)] C d_Mo_ownLink_77 (c_Mo_put (xz_l X) C.2.2.2.2.2.2.1  ev6_) sz_Mo_put tz_Mo_put lk_Mo_122 oz_Mo rfl (by decide) rfl rfl (Nat.le_of_ble_eq_true rfl) rfl ?_
        obtain ⟨x7_, ex7_, h⟩ := jz_ne h
        refine jr_iinc 80 [(0, .ref (gz_ad (mz_G Z) 0)), (1, .int x1), (2, .int x2), (3, .int x3), (4, .int x7_)] C d_Mo_ownLink_80 rfl (by decide) rfl (by rw [ex7_]; rfl) rfl ?_
        refine jr_goto 83 41 C d_Mo_ownLink_83 (by decide) ?_
        refine jr_sub [0, 1, 2, 3, 4] rfl ?_
        exact ih x1 x2 x3 x7_ v6_  h
def f_Mo_ownLink (a1 : Int32) (a2 : Int32) (a3 : Int32) (m : jz_M) : Option (jz_M) :=
  (f_Mo_isShared a2 m).bind fun v1_ =>
  if v1_ = 0 then
    f_Mo_ownLink_41 1000000 a1 a2 a3 0 m
  else
    (f_Mo_speakerOf a1 a2 a3 m).bind fun v3_ =>
    (jz_ix 36 (((6 : Int32) * a1) + a2)).bind fun j4_ =>
    (f_Mo_put ((((7 : Int32) * v3_) + 1) + a2) (m 4 j4_) m).bind fun v5_ =>
    some v5_
set_option maxHeartbeats 4000000 in
set_option maxRecDepth 100000 in
theorem c_Mo_ownLink {Z : cz_Z} (l : Launch) (hI : jz_I (mz_G Z)) {a1 : Int32} {a2 : Int32} {a3 : Int32} {m : jz_M} {r : jz_M} (h : f_Mo_ownLink a1 a2 a3 m = some r) : jz_m l y_Mo_ownLink cd_Mo_ownLink rm_Mo_ownLink (mz_G Z) [.ref (gz_ad (mz_G Z) 0), .int a1, .int a2, .int a3] m none r := by
  refine jz_met (own := R_Mo) (by decide) rfl hI (Nat.le_of_ble_eq_true rfl) (fun X hX C => ?_)
  subst hX
  show jz_J X 5 (mz_G Z) _ m [(0, .ref (gz_ad (mz_G Z) 0)), (1, .int a1), (2, .int a2), (3, .int a3)] 0 []
  unfold f_Mo_ownLink at h
  refine jr_aload_n 0 C d_Mo_ownLink_0 rfl ?_
  refine jr_iload_n 1 C d_Mo_ownLink_1 rfl ?_
  obtain ⟨v1_, ev1_, h⟩ := jz_b h
  refine jr_callV 2 [.int a2] C d_Mo_ownLink_2 (c_Mo_isShared (xz_l X) C.2.2.2.2.2.2.1 ev1_) sz_Mo_isShared tz_Mo_isShared lk_Mo_111 oz_Mo rfl (by decide) rfl rfl (Nat.le_of_ble_eq_true rfl) rfl ?_
  refine jr_if_eq 5 38 C d_Mo_ownLink_5 (by decide) (fun c2_ => ?_) (fun c2_ => ?_)
  · have h := jz_t c2_ h
    refine jr_iconst 38 0 C d_Mo_ownLink_38 (by decide) ?_
    refine jr_istore 39 [(0, .ref (gz_ad (mz_G Z) 0)), (1, .int a1), (2, .int a2), (3, .int a3), (4, .int 0)] C d_Mo_ownLink_39 rfl (by decide) rfl ?_
    refine jr_sub [0, 1, 2, 3, 4] rfl ?_
    exact t_Mo_ownLink_41 C  1000000 a1 a2 a3 0 m h
  · have h := jz_f c2_ h
    refine jr_aload_n 8 C d_Mo_ownLink_8 rfl ?_
    refine jr_bipush 9 7 C d_Mo_ownLink_9 (by decide) ?_
    refine jr_aload_n 11 C d_Mo_ownLink_11 rfl ?_
    refine jr_iload_n 12 C d_Mo_ownLink_12 rfl ?_
    refine jr_iload_n 13 C d_Mo_ownLink_13 rfl ?_
    refine jr_iload_n 14 C d_Mo_ownLink_14 rfl ?_
    obtain ⟨v3_, ev3_, h⟩ := jz_b h
    refine jr_callV 15 [.int a1, .int a2, .int a3] C d_Mo_ownLink_15 (c_Mo_speakerOf (xz_l X) C.2.2.2.2.2.2.1  ev3_) sz_Mo_speakerOf tz_Mo_speakerOf lk_Mo_118 oz_Mo rfl (by decide) rfl rfl (Nat.le_of_ble_eq_true rfl) rfl ?_
    refine jr_imul 18 C d_Mo_ownLink_18 ?_
    refine jr_iconst 19 1 C d_Mo_ownLink_19 (by decide) ?_
    refine jr_iadd 20 C d_Mo_ownLink_20 ?_
    refine jr_iload_n 21 C d_Mo_ownLink_21 rfl ?_
    refine jr_iadd 22 C d_Mo_ownLink_22 ?_
    refine jr_aload_n 23 C d_Mo_ownLink_23 rfl ?_
    refine gf_Mo_20 24 C d_Mo_ownLink_24 ?_
    refine jr_bipush 27 6 C d_Mo_ownLink_27 (by decide) ?_
    refine jr_iload_n 29 C d_Mo_ownLink_29 rfl ?_
    refine jr_imul 30 C d_Mo_ownLink_30 ?_
    refine jr_iload_n 31 C d_Mo_ownLink_31 rfl ?_
    refine jr_iadd 32 C d_Mo_ownLink_32 ?_
    obtain ⟨j4_, ej4_, h⟩ := jz_b h
    refine jr_iald 33 C d_Mo_ownLink_33 zk_Mo_metric ej4_ ?_
    obtain ⟨v5_, ev5_, h⟩ := jz_b h
    refine jr_callV 34 [.int ((((7 : Int32) * v3_) + 1) + a2), .int (m 4 j4_)] C d_Mo_ownLink_34 (c_Mo_put (xz_l X) C.2.2.2.2.2.2.1  ev5_) sz_Mo_put tz_Mo_put lk_Mo_122 oz_Mo rfl (by decide) rfl rfl (Nat.le_of_ble_eq_true rfl) rfl ?_
    obtain rfl := Option.some.inj h
    exact jr_vret 37 C d_Mo_ownLink_37 rfl
abbrev rm_Mo_describes : Room := { frames := 4, cells := 0, slots := 0, locals := 99 }
abbrev cd_Mo_describes : Cond := .code y_Mo_describes b_Mo_describes 6 (some .boolean)
def f_Mo_describes_111 : Nat → Int32 → Int32 → Int32 → jz_M → Option (Int32 × jz_M)
  | 0, _, _, _, _ => none
  | fu + 1, x1, x2, x4, m =>
    if 6 ≤ x4 then
      some (1, m)
    else
      (f_Mo_isOn x1 x4 m).bind fun v2_ =>
      if v2_ = 0 then
        jz_n (x4 + 1) fun x4_ =>
        f_Mo_describes_111 fu x1 x2 x4_ m
      else
        (f_Mo_anyNear x1 x4 x2 m).bind fun v5_ =>
        if v5_ = 0 then
          jz_n (x4 + 1) fun x7_ =>
          f_Mo_describes_111 fu x1 x2 x7_ m
        else
          (f_Mo_ownLink x1 x4 x2 m).bind fun v8_ =>
          jz_n (x4 + 1) fun x9_ =>
          f_Mo_describes_111 fu x1 x2 x9_ v8_
set_option maxHeartbeats 4000000 in
set_option maxRecDepth 100000 in
theorem t_Mo_describes_111 {Z : cz_Z} {X : jz_X} {r : Int32 × jz_M} (C : jz_C X 6 b_Mo_describes R_Mo (some .boolean) rm_Mo_describes (mz_G Z)) : ∀ (fu : Nat) (x1 : Int32) (x2 : Int32) (x4 : Int32) (m : jz_M) , f_Mo_describes_111 fu x1 x2 x4 m = some r → jz_J X 6 (mz_G Z) (jz_q X (mz_G Z) (some (.int r.1)) r.2) m [(0, .ref (gz_ad (mz_G Z) 0)), (1, .int x1), (2, .int x2), (4, .int x4)] 111 [] := by
  intro fu
  induction fu with
  | zero => intro x1 x2 x4 m h; cases h
  | succ fu ih =>
    intro x1 x2 x4 m h
    rw [f_Mo_describes_111] at h
    refine jr_iload 111 C d_Mo_describes_111 rfl ?_
    refine jr_bipush 113 6 C d_Mo_describes_113 (by decide) ?_
    refine jr_icmp_ge 115 153 C d_Mo_describes_115 (by decide) (fun c1_ => ?_) (fun c1_ => ?_)
    · have h := jz_t c1_ h
      refine jr_iconst 153 1 C d_Mo_describes_153 (by decide) ?_
      obtain rfl := Option.some.inj h
      exact jr_zret 154 (v := 1) C d_Mo_describes_154 rfl nb_1
    · have h := jz_f c1_ h
      refine jr_aload_n 118 C d_Mo_describes_118 rfl ?_
      refine jr_iload_n 119 C d_Mo_describes_119 rfl ?_
      refine jr_iload 120 C d_Mo_describes_120 rfl ?_
      obtain ⟨v2_, ev2_, h⟩ := jz_b h
      refine jr_callV 122 [.int x1, .int x4] C d_Mo_describes_122 (c_Mo_isOn (xz_l X) C.2.2.2.2.2.2.1  ev2_) sz_Mo_isOn tz_Mo_isOn lk_Mo_75 oz_Mo rfl (by decide) rfl rfl (Nat.le_of_ble_eq_true rfl) rfl ?_
      refine jr_if_eq 125 147 C d_Mo_describes_125 (by decide) (fun c3_ => ?_) (fun c3_ => ?_)
      · have h := jz_t c3_ h
        obtain ⟨x4_, ex4_, h⟩ := jz_ne h
        refine jr_iinc 147 [(0, .ref (gz_ad (mz_G Z) 0)), (1, .int x1), (2, .int x2), (4, .int x4_)] C d_Mo_describes_147 rfl (by decide) rfl (by rw [ex4_]; rfl) rfl ?_
        refine jr_goto 150 111 C d_Mo_describes_150 (by decide) ?_
        refine jr_sub [0, 1, 2, 3] rfl ?_
        exact ih x1 x2 x4_ m  h
      · have h := jz_f c3_ h
        refine jr_aload_n 128 C d_Mo_describes_128 rfl ?_
        refine jr_iload_n 129 C d_Mo_describes_129 rfl ?_
        refine jr_iload 130 C d_Mo_describes_130 rfl ?_
        refine jr_iload_n 132 C d_Mo_describes_132 rfl ?_
        obtain ⟨v5_, ev5_, h⟩ := jz_b h
        refine jr_callV 133 [.int x1, .int x4, .int x2] C d_Mo_describes_133 (c_Mo_anyNear (xz_l X) C.2.2.2.2.2.2.1  ev5_) sz_Mo_anyNear tz_Mo_anyNear lk_Mo_114 oz_Mo rfl (by decide) rfl rfl (Nat.le_of_ble_eq_true rfl) rfl ?_
        refine jr_if_eq 136 147 C d_Mo_describes_136 (by decide) (fun c6_ => ?_) (fun c6_ => ?_)
        · have h := jz_t c6_ h
          obtain ⟨x7_, ex7_, h⟩ := jz_ne h
          refine jr_iinc 147 [(0, .ref (gz_ad (mz_G Z) 0)), (1, .int x1), (2, .int x2), (4, .int x7_)] C d_Mo_describes_147 rfl (by decide) rfl (by rw [ex7_]; rfl) rfl ?_
          refine jr_goto 150 111 C d_Mo_describes_150 (by decide) ?_
          refine jr_sub [0, 1, 2, 3] rfl ?_
          exact ih x1 x2 x7_ m  h
        · have h := jz_f c6_ h
          refine jr_aload_n 139 C d_Mo_describes_139 rfl ?_
          refine jr_iload_n 140 C d_Mo_describes_140 rfl ?_
          refine jr_iload 141 C d_Mo_describes_141 rfl ?_
          refine jr_iload_n 143 C d_Mo_describes_143 rfl ?_
          obtain ⟨v8_, ev8_, h⟩ := jz_b h
          refine jr_callV 144 [.int x1, .int x4, .int x2] C d_Mo_describes_144 (c_Mo_ownLink (xz_l X) C.2.2.2.2.2.2.1  ev8_) sz_Mo_ownLink tz_Mo_ownLink lk_Mo_126 oz_Mo rfl (by decide) rfl rfl (Nat.le_of_ble_eq_true rfl) rfl ?_
          obtain ⟨x9_, ex9_, h⟩ := jz_ne h
          refine jr_iinc 147 [(0, .ref (gz_ad (mz_G Z) 0)), (1, .int x1), (2, .int x2), (4, .int x9_)] C d_Mo_describes_147 rfl (by decide) rfl (by rw [ex9_]; rfl) rfl ?_
          refine jr_goto 150 111 C d_Mo_describes_150 (by decide) ?_
          refine jr_sub [0, 1, 2, 3] rfl ?_
          exact ih x1 x2 x9_ v8_  h
def f_Mo_describes_70 : Nat → Int32 → Int32 → Int32 → Int32 → jz_M → Option (Int32 × jz_M)
  | 0, _, _, _, _, _ => none
  | fu + 1, x1, x2, x4, x5, m =>
    if 6 ≤ x5 then
      some (1, m)
    else
      (f_Mo_near x1 x4 x2 x5 m).bind fun v2_ =>
      if v2_ = 0 then
        jz_n (x5 + 1) fun x4_ =>
        f_Mo_describes_70 fu x1 x2 x4 x4_ m
      else
        (f_Mo_put ((7 : Int32) * x5) 0 m).bind fun v5_ =>
        jz_n (x5 + 1) fun x6_ =>
        f_Mo_describes_70 fu x1 x2 x4 x6_ v5_
set_option maxHeartbeats 4000000 in
set_option maxRecDepth 100000 in
theorem t_Mo_describes_70 {Z : cz_Z} {X : jz_X} {r : Int32 × jz_M} (C : jz_C X 6 b_Mo_describes R_Mo (some .boolean) rm_Mo_describes (mz_G Z)) : ∀ (fu : Nat) (x1 : Int32) (x2 : Int32) (x4 : Int32) (x5 : Int32) (m : jz_M) , f_Mo_describes_70 fu x1 x2 x4 x5 m = some r → jz_J X 6 (mz_G Z) (jz_q X (mz_G Z) (some (.int r.1)) r.2) m [(0, .ref (gz_ad (mz_G Z) 0)), (1, .int x1), (2, .int x2), (4, .int x4), (5, .int x5)] 70 [] := by
  intro fu
  induction fu with
  | zero => intro x1 x2 x4 x5 m h; cases h
  | succ fu ih =>
    intro x1 x2 x4 x5 m h
    rw [f_Mo_describes_70] at h
    refine jr_iload 70 C d_Mo_describes_70 rfl ?_
    refine jr_bipush 72 6 C d_Mo_describes_72 (by decide) ?_
    refine jr_icmp_ge 74 106 C d_Mo_describes_74 (by decide) (fun c1_ => ?_) (fun c1_ => ?_)
    · have h := jz_t c1_ h
      refine jr_iconst 106 1 C d_Mo_describes_106 (by decide) ?_
      obtain rfl := Option.some.inj h
      exact jr_zret 107 (v := 1) C d_Mo_describes_107 rfl nb_1
    · have h := jz_f c1_ h
      refine jr_aload_n 77 C d_Mo_describes_77 rfl ?_
      refine jr_iload_n 78 C d_Mo_describes_78 rfl ?_
      refine jr_iload 79 C d_Mo_describes_79 rfl ?_
      refine jr_iload_n 81 C d_Mo_describes_81 rfl ?_
      refine jr_iload 82 C d_Mo_describes_82 rfl ?_
      obtain ⟨v2_, ev2_, h⟩ := jz_b h
      refine jr_callV 84 [.int x1, .int x4, .int x2, .int x5] C d_Mo_describes_84 (c_Mo_near (xz_l X) C.2.2.2.2.2.2.1  ev2_) sz_Mo_near tz_Mo_near lk_Mo_87 oz_Mo rfl (by decide) rfl rfl (Nat.le_of_ble_eq_true rfl) rfl ?_
      refine jr_if_eq 87 100 C d_Mo_describes_87 (by decide) (fun c3_ => ?_) (fun c3_ => ?_)
      · have h := jz_t c3_ h
        obtain ⟨x4_, ex4_, h⟩ := jz_ne h
        refine jr_iinc 100 [(0, .ref (gz_ad (mz_G Z) 0)), (1, .int x1), (2, .int x2), (4, .int x4), (5, .int x4_)] C d_Mo_describes_100 rfl (by decide) rfl (by rw [ex4_]; rfl) rfl ?_
        refine jr_goto 103 70 C d_Mo_describes_103 (by decide) ?_
        refine jr_sub [0, 1, 2, 3, 4] rfl ?_
        exact ih x1 x2 x4 x4_ m  h
      · have h := jz_f c3_ h
        refine jr_aload_n 90 C d_Mo_describes_90 rfl ?_
        refine jr_bipush 91 7 C d_Mo_describes_91 (by decide) ?_
        refine jr_iload 93 C d_Mo_describes_93 rfl ?_
        refine jr_imul 95 C d_Mo_describes_95 ?_
        refine jr_iconst 96 0 C d_Mo_describes_96 (by decide) ?_
        obtain ⟨v5_, ev5_, h⟩ := jz_b h
        refine jr_callV 97 [.int ((7 : Int32) * x5), .int 0] C d_Mo_describes_97 (c_Mo_put (xz_l X) C.2.2.2.2.2.2.1  ev5_) sz_Mo_put tz_Mo_put lk_Mo_122 oz_Mo rfl (by decide) rfl rfl (Nat.le_of_ble_eq_true rfl) rfl ?_
        obtain ⟨x6_, ex6_, h⟩ := jz_ne h
        refine jr_iinc 100 [(0, .ref (gz_ad (mz_G Z) 0)), (1, .int x1), (2, .int x2), (4, .int x4), (5, .int x6_)] C d_Mo_describes_100 rfl (by decide) rfl (by rw [ex6_]; rfl) rfl ?_
        refine jr_goto 103 70 C d_Mo_describes_103 (by decide) ?_
        refine jr_sub [0, 1, 2, 3, 4] rfl ?_
        exact ih x1 x2 x4 x6_ v5_  h
def f_Mo_describes (a1 : Int32) (a2 : Int32) (a3 : Int32) (m : jz_M) : Option (Int32 × jz_M) :=
  jz_n (jz_up m 0 1 0) fun m1_ =>
  if a3 ≤ 0 then
    f_Mo_describes_111 1000000 a1 a2 0 m1_
  else
    jz_n (a3 - 1) fun x3_ =>
    (f_Mo_isOn a1 x3_ m1_).bind fun v4_ =>
    if v4_ = 0 then
      some (0, m1_)
    else
      (f_Mo_isShared x3_ m1_).bind fun v6_ =>
      if v6_ = 0 then
        some (0, m1_)
      else
        (f_Mo_anyNear a1 x3_ a2 m1_).bind fun v8_ =>
        if v8_ = 0 then
          some (0, m1_)
        else
          (f_Mo_speakerOf a1 x3_ a2 m1_).bind fun v10_ =>
          if v10_ = a1 then
            (f_Mo_put ((7 : Int32) * a1) 0 m1_).bind fun v12_ =>
            f_Mo_describes_70 1000000 a1 a2 x3_ 0 v12_
          else
            some (0, m1_)
set_option maxHeartbeats 4000000 in
set_option maxRecDepth 100000 in
theorem c_Mo_describes {Z : cz_Z} (l : Launch) (hI : jz_I (mz_G Z)) {a1 : Int32} {a2 : Int32} {a3 : Int32} {m : jz_M} {r : Int32 × jz_M} (h : f_Mo_describes a1 a2 a3 m = some r) : jz_m l y_Mo_describes cd_Mo_describes rm_Mo_describes (mz_G Z) [.ref (gz_ad (mz_G Z) 0), .int a1, .int a2, .int a3] m (some (.int r.1)) r.2 := by
  refine jz_met (own := R_Mo) (by decide) rfl hI (Nat.le_of_ble_eq_true rfl) (fun X hX C => ?_)
  subst hX
  show jz_J X 6 (mz_G Z) _ m [(0, .ref (gz_ad (mz_G Z) 0)), (1, .int a1), (2, .int a2), (3, .int a3)] 0 []
  unfold f_Mo_describes at h
  refine jr_aload_n 0 C d_Mo_describes_0 rfl ?_
  refine jr_iconst 1 0 C d_Mo_describes_1 (by decide) ?_
  obtain ⟨m1_, em1_, h⟩ := jz_ne h
  refine pf_Mo_108 2 C d_Mo_describes_2 ?_
  refine jr_mem em1_ ?_
  refine jr_iload_n 5 C d_Mo_describes_5 rfl ?_
  refine jr_if_le 6 108 C d_Mo_describes_6 (by decide) (fun c2_ => ?_) (fun c2_ => ?_)
  · have h := jz_t c2_ h
    refine jr_iconst 108 0 C d_Mo_describes_108 (by decide) ?_
    refine jr_istore 109 [(0, .ref (gz_ad (mz_G Z) 0)), (1, .int a1), (2, .int a2), (3, .int a3), (4, .int 0)] C d_Mo_describes_109 rfl (by decide) rfl ?_
    refine jr_sub [0, 1, 2, 4] rfl ?_
    exact t_Mo_describes_111 C  1000000 a1 a2 0 m1_ h
  · have h := jz_f c2_ h
    refine jr_iload_n 9 C d_Mo_describes_9 rfl ?_
    refine jr_iconst 10 1 C d_Mo_describes_10 (by decide) ?_
    refine jr_isub 11 C d_Mo_describes_11 ?_
    obtain ⟨x3_, ex3_, h⟩ := jz_ne h
    refine jr_top ex3_ ?_
    refine jr_istore 12 [(0, .ref (gz_ad (mz_G Z) 0)), (1, .int a1), (2, .int a2), (3, .int a3), (4, .int x3_)] C d_Mo_describes_12 rfl (by decide) rfl ?_
    refine jr_aload_n 14 C d_Mo_describes_14 rfl ?_
    refine jr_iload_n 15 C d_Mo_describes_15 rfl ?_
    refine jr_iload 16 C d_Mo_describes_16 rfl ?_
    obtain ⟨v4_, ev4_, h⟩ := jz_b h
    refine jr_callV 18 [.int a1, .int x3_] C d_Mo_describes_18 (c_Mo_isOn (xz_l X) C.2.2.2.2.2.2.1  ev4_) sz_Mo_isOn tz_Mo_isOn lk_Mo_75 oz_Mo rfl (by decide) rfl rfl (Nat.le_of_ble_eq_true rfl) rfl ?_
    refine jr_if_eq 21 56 C d_Mo_describes_21 (by decide) (fun c5_ => ?_) (fun c5_ => ?_)
    · have h := jz_t c5_ h
      refine jr_iconst 56 0 C d_Mo_describes_56 (by decide) ?_
      obtain rfl := Option.some.inj h
      exact jr_zret 57 (v := 0) C d_Mo_describes_57 rfl nb_0
    · have h := jz_f c5_ h
      refine jr_aload_n 24 C d_Mo_describes_24 rfl ?_
      refine jr_iload 25 C d_Mo_describes_25 rfl ?_
      obtain ⟨v6_, ev6_, h⟩ := jz_b h
      refine jr_callV 27 [.int x3_] C d_Mo_describes_27 (c_Mo_isShared (xz_l X) C.2.2.2.2.2.2.1  ev6_) sz_Mo_isShared tz_Mo_isShared lk_Mo_111 oz_Mo rfl (by decide) rfl rfl (Nat.le_of_ble_eq_true rfl) rfl ?_
      refine jr_if_eq 30 56 C d_Mo_describes_30 (by decide) (fun c7_ => ?_) (fun c7_ => ?_)
      · have h := jz_t c7_ h
        refine jr_iconst 56 0 C d_Mo_describes_56 (by decide) ?_
        obtain rfl := Option.some.inj h
        exact jr_zret 57 (v := 0) C d_Mo_describes_57 rfl nb_0
      · have h := jz_f c7_ h
        refine jr_aload_n 33 C d_Mo_describes_33 rfl ?_
        refine jr_iload_n 34 C d_Mo_describes_34 rfl ?_
        refine jr_iload 35 C d_Mo_describes_35 rfl ?_
        refine jr_iload_n 37 C d_Mo_describes_37 rfl ?_
        obtain ⟨v8_, ev8_, h⟩ := jz_b h
        refine jr_callV 38 [.int a1, .int x3_, .int a2] C d_Mo_describes_38 (c_Mo_anyNear (xz_l X) C.2.2.2.2.2.2.1  ev8_) sz_Mo_anyNear tz_Mo_anyNear lk_Mo_114 oz_Mo rfl (by decide) rfl rfl (Nat.le_of_ble_eq_true rfl) rfl ?_
        refine jr_if_eq 41 56 C d_Mo_describes_41 (by decide) (fun c9_ => ?_) (fun c9_ => ?_)
        · have h := jz_t c9_ h
          refine jr_iconst 56 0 C d_Mo_describes_56 (by decide) ?_
          obtain rfl := Option.some.inj h
          exact jr_zret 57 (v := 0) C d_Mo_describes_57 rfl nb_0
        · have h := jz_f c9_ h
          refine jr_aload_n 44 C d_Mo_describes_44 rfl ?_
          refine jr_iload_n 45 C d_Mo_describes_45 rfl ?_
          refine jr_iload 46 C d_Mo_describes_46 rfl ?_
          refine jr_iload_n 48 C d_Mo_describes_48 rfl ?_
          obtain ⟨v10_, ev10_, h⟩ := jz_b h
          refine jr_callV 49 [.int a1, .int x3_, .int a2] C d_Mo_describes_49 (c_Mo_speakerOf (xz_l X) C.2.2.2.2.2.2.1  ev10_) sz_Mo_speakerOf tz_Mo_speakerOf lk_Mo_118 oz_Mo rfl (by decide) rfl rfl (Nat.le_of_ble_eq_true rfl) rfl ?_
          refine jr_iload_n 52 C d_Mo_describes_52 rfl ?_
          refine jr_icmp_eq 53 58 C d_Mo_describes_53 (by decide) (fun c11_ => ?_) (fun c11_ => ?_)
          · have h := jz_t c11_ h
            refine jr_aload_n 58 C d_Mo_describes_58 rfl ?_
            refine jr_bipush 59 7 C d_Mo_describes_59 (by decide) ?_
            refine jr_iload_n 61 C d_Mo_describes_61 rfl ?_
            refine jr_imul 62 C d_Mo_describes_62 ?_
            refine jr_iconst 63 0 C d_Mo_describes_63 (by decide) ?_
            obtain ⟨v12_, ev12_, h⟩ := jz_b h
            refine jr_callV 64 [.int ((7 : Int32) * a1), .int 0] C d_Mo_describes_64 (c_Mo_put (xz_l X) C.2.2.2.2.2.2.1  ev12_) sz_Mo_put tz_Mo_put lk_Mo_122 oz_Mo rfl (by decide) rfl rfl (Nat.le_of_ble_eq_true rfl) rfl ?_
            refine jr_iconst 67 0 C d_Mo_describes_67 (by decide) ?_
            refine jr_istore 68 [(0, .ref (gz_ad (mz_G Z) 0)), (1, .int a1), (2, .int a2), (3, .int a3), (4, .int x3_), (5, .int 0)] C d_Mo_describes_68 rfl (by decide) rfl ?_
            refine jr_sub [0, 1, 2, 4, 5] rfl ?_
            exact t_Mo_describes_70 C  1000000 a1 a2 x3_ 0 v12_ h
          · have h := jz_f c11_ h
            refine jr_iconst 56 0 C d_Mo_describes_56 (by decide) ?_
            obtain rfl := Option.some.inj h
            exact jr_zret 57 (v := 0) C d_Mo_describes_57 rfl nb_0
