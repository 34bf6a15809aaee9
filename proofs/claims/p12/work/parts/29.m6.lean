abbrev rm_Mo_request : Room := { frames := 3, cells := 0, slots := 0, locals := 68 }
abbrev cd_Mo_request : Cond := .code y_Mo_request b_Mo_request 10 (some .int)
def f_Mo_request_89 (k32 : Int32 → Int32 → Int32 → Int32 → Int32 → Int32 → jz_M → Option (Int32 × jz_M)) : Nat → Int32 → Int32 → Int32 → Int32 → Int32 → Int32 → Int32 → jz_M → Option (Int32 × jz_M)
  | 0, _, _, _, _, _, _, _, _ => none
  | fu + 1, x1, x2, x3, x4, x6, x7, x9, m =>
    if 6 ≤ x9 then
      jz_n (x7 + 1) fun x2_ =>
      k32 x1 x2 x3 x4 x6 x2_ m
    else
      (f_Mo_receives x9 x1 x2 x4 m).bind fun v3_ =>
      if v3_ = 0 then
        jz_n (x9 + 1) fun x5_ =>
        f_Mo_request_89 k32 fu x1 x2 x3 x4 x6 x7 x5_ m
      else
        (f_Mo_near x9 x2 x3 x1 m).bind fun v6_ =>
        if v6_ = 0 then
          jz_n (x9 + 1) fun x8_ =>
          f_Mo_request_89 k32 fu x1 x2 x3 x4 x6 x7 x8_ m
        else
          (f_Mo_told x9 x1 x2 x3 x7 m).bind fun v9_ =>
          jz_n (x9 + 1) fun x10_ =>
          f_Mo_request_89 k32 fu x1 x2 x3 x4 x6 x7 x10_ v9_
set_option maxHeartbeats 4000000 in
set_option maxRecDepth 100000 in
theorem t_Mo_request_89 {Z : cz_Z} {X : jz_X} {r : Int32 × jz_M} (C : jz_C X 10 b_Mo_request R_Mo (some .int) rm_Mo_request (mz_G Z)) (k32 : Int32 → Int32 → Int32 → Int32 → Int32 → Int32 → jz_M → Option (Int32 × jz_M)) (hk32 : ∀ (x1 : Int32) (x2 : Int32) (x3 : Int32) (x4 : Int32) (x6 : Int32) (x7 : Int32) (m : jz_M), k32 x1 x2 x3 x4 x6 x7 m = some r → jz_J X 10 (mz_G Z) (jz_q X (mz_G Z) (some (.int r.1)) r.2) m [(0, .ref (gz_ad (mz_G Z) 0)), (1, .int x1), (2, .int x2), (3, .int x3), (4, .int x4), (6, .int x6), (7, .int x7)] 32 []) : ∀ (fu : Nat) (x1 : Int32) (x2 : Int32) (x3 : Int32) (x4 : Int32) (x6 : Int32) (x7 : Int32) (x9 : Int32) (m : jz_M) , f_Mo_request_89 k32 fu x1 x2 x3 x4 x6 x7 x9 m = some r → jz_J X 10 (mz_G Z) (jz_q X (mz_G Z) (some (.int r.1)) r.2) m [(0, .ref (gz_ad (mz_G Z) 0)), (1, .int x1), (2, .int x2), (3, .int x3), (4, .int x4), (6, .int x6), (7, .int x7), (9, .int x9)] 89 [] := by
  intro fu
  induction fu with
  | zero => intro x1 x2 x3 x4 x6 x7 x9 m h; cases h
  | succ fu ih =>
    intro x1 x2 x3 x4 x6 x7 x9 m h
    rw [f_Mo_request_89] at h
    refine jr_iload 89 C d_Mo_request_89 rfl ?_
    refine jr_bipush 91 6 C d_Mo_request_91 (by decide) ?_
    refine jr_icmp_ge 93 138 C d_Mo_request_93 (by decide) (fun c1_ => ?_) (fun c1_ => ?_)
    · have h := jz_t c1_ h
      obtain ⟨x2_, ex2_, h⟩ := jz_ne h
      refine jr_iinc 138 [(0, .ref (gz_ad (mz_G Z) 0)), (1, .int x1), (2, .int x2), (3, .int x3), (4, .int x4), (6, .int x6), (7, .int x2_), (9, .int x9)] C d_Mo_request_138 rfl (by decide) rfl (by rw [ex2_]; rfl) rfl ?_
      refine jr_goto 141 32 C d_Mo_request_141 (by decide) ?_
      refine jr_sub [0, 1, 2, 3, 4, 5, 6] rfl ?_
      exact hk32 x1 x2 x3 x4 x6 x2_ m  h
    · have h := jz_f c1_ h
      refine jr_aload_n 96 C d_Mo_request_96 rfl ?_
      refine jr_iload 97 C d_Mo_request_97 rfl ?_
      refine jr_iload_n 99 C d_Mo_request_99 rfl ?_
      refine jr_iload_n 100 C d_Mo_request_100 rfl ?_
      refine jr_iload 101 C d_Mo_request_101 rfl ?_
      obtain ⟨v3_, ev3_, h⟩ := jz_b h
      refine jr_callV 103 [.int x9, .int x1, .int x2, .int x4] C d_Mo_request_103 (c_Mo_receives (xz_l X) C.2.2.2.2.2.2.1  ev3_) sz_Mo_receives tz_Mo_receives lk_Mo_105 oz_Mo rfl (by decide) rfl rfl (Nat.le_of_ble_eq_true rfl) rfl ?_
      refine jr_if_eq 106 132 C d_Mo_request_106 (by decide) (fun c4_ => ?_) (fun c4_ => ?_)
      · have h := jz_t c4_ h
        obtain ⟨x5_, ex5_, h⟩ := jz_ne h
        refine jr_iinc 132 [(0, .ref (gz_ad (mz_G Z) 0)), (1, .int x1), (2, .int x2), (3, .int x3), (4, .int x4), (6, .int x6), (7, .int x7), (9, .int x5_)] C d_Mo_request_132 rfl (by decide) rfl (by rw [ex5_]; rfl) rfl ?_
        refine jr_goto 135 89 C d_Mo_request_135 (by decide) ?_
        refine jr_sub [0, 1, 2, 3, 4, 5, 6, 7] rfl ?_
        exact ih x1 x2 x3 x4 x6 x7 x5_ m  h
      · have h := jz_f c4_ h
        refine jr_aload_n 109 C d_Mo_request_109 rfl ?_
        refine jr_iload 110 C d_Mo_request_110 rfl ?_
        refine jr_iload_n 112 C d_Mo_request_112 rfl ?_
        refine jr_iload_n 113 C d_Mo_request_113 rfl ?_
        refine jr_iload_n 114 C d_Mo_request_114 rfl ?_
        obtain ⟨v6_, ev6_, h⟩ := jz_b h
        refine jr_callV 115 [.int x9, .int x2, .int x3, .int x1] C d_Mo_request_115 (c_Mo_near (xz_l X) C.2.2.2.2.2.2.1  ev6_) sz_Mo_near tz_Mo_near lk_Mo_87 oz_Mo rfl (by decide) rfl rfl (Nat.le_of_ble_eq_true rfl) rfl ?_
        refine jr_if_eq 118 132 C d_Mo_request_118 (by decide) (fun c7_ => ?_) (fun c7_ => ?_)
        · have h := jz_t c7_ h
          obtain ⟨x8_, ex8_, h⟩ := jz_ne h
          refine jr_iinc 132 [(0, .ref (gz_ad (mz_G Z) 0)), (1, .int x1), (2, .int x2), (3, .int x3), (4, .int x4), (6, .int x6), (7, .int x7), (9, .int x8_)] C d_Mo_request_132 rfl (by decide) rfl (by rw [ex8_]; rfl) rfl ?_
          refine jr_goto 135 89 C d_Mo_request_135 (by decide) ?_
          refine jr_sub [0, 1, 2, 3, 4, 5, 6, 7] rfl ?_
          exact ih x1 x2 x3 x4 x6 x7 x8_ m  h
        · have h := jz_f c7_ h
          refine jr_aload_n 121 C d_Mo_request_121 rfl ?_
          refine jr_iload 122 C d_Mo_request_122 rfl ?_
          refine jr_iload_n 124 C d_Mo_request_124 rfl ?_
          refine jr_iload_n 125 C d_Mo_request_125 rfl ?_
          refine jr_iload_n 126 C d_Mo_request_126 rfl ?_
          refine jr_iload 127 C d_Mo_request_127 rfl ?_
          obtain ⟨v9_, ev9_, h⟩ := jz_b h
          refine jr_callV 129 [.int x9, .int x1, .int x2, .int x3, .int x7] C d_Mo_request_129 (c_Mo_told (xz_l X) C.2.2.2.2.2.2.1  ev9_) sz_Mo_told tz_Mo_told lk_Mo_174 oz_Mo rfl (by decide) rfl rfl (Nat.le_of_ble_eq_true rfl) rfl ?_
          obtain ⟨x10_, ex10_, h⟩ := jz_ne h
          refine jr_iinc 132 [(0, .ref (gz_ad (mz_G Z) 0)), (1, .int x1), (2, .int x2), (3, .int x3), (4, .int x4), (6, .int x6), (7, .int x7), (9, .int x10_)] C d_Mo_request_132 rfl (by decide) rfl (by rw [ex10_]; rfl) rfl ?_
          refine jr_goto 135 89 C d_Mo_request_135 (by decide) ?_
          refine jr_sub [0, 1, 2, 3, 4, 5, 6, 7] rfl ?_
          exact ih x1 x2 x3 x4 x6 x7 x10_ v9_  h
def f_Mo_request_32 : Nat → Int32 → Int32 → Int32 → Int32 → Int32 → Int32 → jz_M → Option (Int32 × jz_M)
  | 0, _, _, _, _, _, _, _ => none
  | fu + 1, x1, x2, x3, x4, x6, x7, m =>
    if 42 ≤ x7 then
      some (x6, m)
    else
      (f_Mo_at x1 x3 x7 m).bind fun v2_ =>
      (jz_ix 504 v2_).bind fun j3_ =>
      if ¬ (((m 17 j3_) >>> (x2 &&& 31)) &&& 1) = 1 then
        jz_n (x7 + 1) fun x5_ =>
        f_Mo_request_32 fu x1 x2 x3 x4 x6 x5_ m
      else
        jz_n (x6 + 1) fun x6_ =>
        (jz_ix 504 v2_).bind fun j7_ =>
        (jz_ix 504 v2_).bind fun j8_ =>
        jz_n (jz_up m 17 j8_ ((m 17 j7_) &&& (((1 : Int32) <<< (x2 &&& 31)) ^^^ (-1)))) fun m9_ =>
        f_Mo_request_89 (f_Mo_request_32 fu) 1000000 x1 x2 x3 x4 x6_ x7 0 m9_
set_option maxHeartbeats 4000000 in
set_option maxRecDepth 100000 in
theorem t_Mo_request_32 {Z : cz_Z} {X : jz_X} {r : Int32 × jz_M} (C : jz_C X 10 b_Mo_request R_Mo (some .int) rm_Mo_request (mz_G Z)) : ∀ (fu : Nat) (x1 : Int32) (x2 : Int32) (x3 : Int32) (x4 : Int32) (x6 : Int32) (x7 : Int32) (m : jz_M) , f_Mo_request_32 fu x1 x2 x3 x4 x6 x7 m = some r → jz_J X 10 (mz_G Z) (jz_q X (mz_G Z) (some (.int r.1)) r.2) m [(0, .ref (gz_ad (mz_G Z) 0)), (1, .int x1), (2, .int x2), (3, .int x3), (4, .int x4), (6, .int x6), (7, .int x7)] 32 [] := by
  intro fu
  induction fu with
  | zero => intro x1 x2 x3 x4 x6 x7 m h; cases h
  | succ fu ih =>
    intro x1 x2 x3 x4 x6 x7 m h
    rw [f_Mo_request_32] at h
    refine jr_iload 32 C d_Mo_request_32 rfl ?_
    refine jr_bipush 34 42 C d_Mo_request_34 (by decide) ?_
    refine jr_icmp_ge 36 144 C d_Mo_request_36 (by decide) (fun c1_ => ?_) (fun c1_ => ?_)
    · have h := jz_t c1_ h
      refine jr_iload 144 C d_Mo_request_144 rfl ?_
      obtain rfl := Option.some.inj h
      exact jr_iret 146 (v := x6) C d_Mo_request_146 rfl
    · have h := jz_f c1_ h
      refine jr_iload_n 39 C d_Mo_request_39 rfl ?_
      refine jr_iload_n 40 C d_Mo_request_40 rfl ?_
      refine jr_iload 41 C d_Mo_request_41 rfl ?_
      obtain ⟨v2_, ev2_, h⟩ := jz_b h
      refine jr_callS 43 [.int x1, .int x3, .int x7] C d_Mo_request_43 (c_Mo_at (xz_l X) C.2.2.2.2.2.2.1  ev2_) sz_Mo_at tz_Mo_at lk_Mo_133 (by decide) rfl rfl (Nat.le_of_ble_eq_true rfl) rfl ?_
      refine jr_istore 46 [(0, .ref (gz_ad (mz_G Z) 0)), (1, .int x1), (2, .int x2), (3, .int x3), (4, .int x4), (6, .int x6), (7, .int x7), (8, .int v2_)] C d_Mo_request_46 rfl (by decide) rfl ?_
      refine jr_aload_n 48 C d_Mo_request_48 rfl ?_
      refine gf_Mo_59 49 C d_Mo_request_49 ?_
      refine jr_iload 52 C d_Mo_request_52 rfl ?_
      obtain ⟨j3_, ej3_, h⟩ := jz_b h
      refine jr_iald 54 C d_Mo_request_54 zk_Mo_asked ej3_ ?_
      refine jr_iload_n 55 C d_Mo_request_55 rfl ?_
      refine jr_ishr 56 C d_Mo_request_56 ?_
      refine jr_iconst 57 1 C d_Mo_request_57 (by decide) ?_
      refine jr_iand 58 C d_Mo_request_58 ?_
      refine jr_iconst 59 1 C d_Mo_request_59 (by decide) ?_
      refine jr_icmp_ne 60 138 C d_Mo_request_60 (by decide) (fun c4_ => ?_) (fun c4_ => ?_)
      · have h := jz_t c4_ h
        obtain ⟨x5_, ex5_, h⟩ := jz_ne h
        refine jr_iinc 138 [(0, .ref (gz_ad (mz_G Z) 0)), (1, .int x1), (2, .int x2), (3, .int x3), (4, .int x4), (6, .int x6), (7, .int x5_), (8, .int v2_)] C d_Mo_request_138 rfl (by decide) rfl (by rw [ex5_]; rfl) rfl ?_
        refine jr_goto 141 32 C d_Mo_request_141 (by decide) ?_
        refine jr_sub [0, 1, 2, 3, 4, 5, 6] rfl ?_
        exact ih x1 x2 x3 x4 x6 x5_ m  h
      · have h := jz_f c4_ h
        obtain ⟨x6_, ex6_, h⟩ := jz_ne h
        refine jr_iinc 63 [(0, .ref (gz_ad (mz_G Z) 0)), (1, .int x1), (2, .int x2), (3, .int x3), (4, .int x4), (6, .int x6_), (7, .int x7), (8, .int v2_)] C d_Mo_request_63 rfl (by decide) rfl (by rw [ex6_]; rfl) rfl ?_
        refine jr_aload_n 66 C d_Mo_request_66 rfl ?_
        refine gf_Mo_59 67 C d_Mo_request_67 ?_
        refine jr_iload 70 C d_Mo_request_70 rfl ?_
        refine jr_aload_n 72 C d_Mo_request_72 rfl ?_
        refine gf_Mo_59 73 C d_Mo_request_73 ?_
        refine jr_iload 76 C d_Mo_request_76 rfl ?_
        obtain ⟨j7_, ej7_, h⟩ := jz_b h
        refine jr_iald 78 C d_Mo_request_78 zk_Mo_asked ej7_ ?_
        refine jr_iconst 79 1 C d_Mo_request_79 (by decide) ?_
        refine jr_iload_n 80 C d_Mo_request_80 rfl ?_
        refine jr_ishl 81 C d_Mo_request_81 ?_
        refine jr_iconst 82 (-1) C d_Mo_request_82 (by decide) ?_
        refine jr_ixor 83 C d_Mo_request_83 ?_
        refine jr_iand 84 C d_Mo_request_84 ?_
        obtain ⟨j8_, ej8_, h⟩ := jz_b h
        obtain ⟨m9_, em9_, h⟩ := jz_ne h
        refine jr_iast 85 C d_Mo_request_85 zk_Mo_asked ej8_ ?_
        refine jr_mem em9_ ?_
        refine jr_iconst 86 0 C d_Mo_request_86 (by decide) ?_
        refine jr_istore 87 [(0, .ref (gz_ad (mz_G Z) 0)), (1, .int x1), (2, .int x2), (3, .int x3), (4, .int x4), (6, .int x6_), (7, .int x7), (8, .int v2_), (9, .int 0)] C d_Mo_request_87 rfl (by decide) rfl ?_
        refine jr_sub [0, 1, 2, 3, 4, 5, 6, 8] rfl ?_
        exact t_Mo_request_89 C (f_Mo_request_32 fu) ih 1000000 x1 x2 x3 x4 x6_ x7 0 m9_ h
def f_Mo_request (a1 : Int32) (a2 : Int32) (a3 : Int32) (a4 : Int32) (m : jz_M) : Option (Int32 × jz_M) :=
  (f_Mo_barredAt a1 a2 a3 m).bind fun v1_ =>
  if v1_ ≤ 0 then
    jz_n (jz_up m 0 0 0) fun m3_ =>
    f_Mo_request_32 1000000 a1 a2 a3 a4 0 0 m3_
  else
    (f_Mo_raise v1_ m).bind fun v4_ =>
    some (v4_.1, v4_.2)
set_option maxHeartbeats 4000000 in
set_option maxRecDepth 100000 in
theorem c_Mo_request {Z : cz_Z} (l : Launch) (hI : jz_I (mz_G Z)) {a1 : Int32} {a2 : Int32} {a3 : Int32} {a4 : Int32} {m : jz_M} {r : Int32 × jz_M} (h : f_Mo_request a1 a2 a3 a4 m = some r) : jz_m l y_Mo_request cd_Mo_request rm_Mo_request (mz_G Z) [.ref (gz_ad (mz_G Z) 0), .int a1, .int a2, .int a3, .int a4] m (some (.int r.1)) r.2 := by
  refine jz_met (own := R_Mo) (by decide) rfl hI (Nat.le_of_ble_eq_true rfl) (fun X hX C => ?_)
  subst hX
  show jz_J X 10 (mz_G Z) _ m [(0, .ref (gz_ad (mz_G Z) 0)), (1, .int a1), (2, .int a2), (3, .int a3), (4, .int a4)] 0 []
  unfold f_Mo_request at h
  refine jr_aload_n 0 C d_Mo_request_0 rfl ?_
  refine jr_iload_n 1 C d_Mo_request_1 rfl ?_
  refine jr_iload_n 2 C d_Mo_request_2 rfl ?_
  refine jr_iload_n 3 C d_Mo_request_3 rfl ?_
  obtain ⟨v1_, ev1_, h⟩ := jz_b h
  refine jr_callV 4 [.int a1, .int a2, .int a3] C d_Mo_request_4 (c_Mo_barredAt (xz_l X) C.2.2.2.2.2.2.1 ev1_) sz_Mo_barredAt tz_Mo_barredAt lk_Mo_167 oz_Mo rfl (by decide) rfl rfl (Nat.le_of_ble_eq_true rfl) rfl ?_
  refine jr_istore 7 [(0, .ref (gz_ad (mz_G Z) 0)), (1, .int a1), (2, .int a2), (3, .int a3), (4, .int a4), (5, .int v1_)] C d_Mo_request_7 rfl (by decide) rfl ?_
  refine jr_iload 9 C d_Mo_request_9 rfl ?_
  refine jr_if_le 11 21 C d_Mo_request_11 (by decide) (fun c2_ => ?_) (fun c2_ => ?_)
  · have h := jz_t c2_ h
    refine jr_aload_n 21 C d_Mo_request_21 rfl ?_
    refine jr_iconst 22 0 C d_Mo_request_22 (by decide) ?_
    obtain ⟨m3_, em3_, h⟩ := jz_ne h
    refine pf_Mo_71 23 C d_Mo_request_23 ?_
    refine jr_mem em3_ ?_
    refine jr_iconst 26 0 C d_Mo_request_26 (by decide) ?_
    refine jr_istore 27 [(0, .ref (gz_ad (mz_G Z) 0)), (1, .int a1), (2, .int a2), (3, .int a3), (4, .int a4), (5, .int v1_), (6, .int 0)] C d_Mo_request_27 rfl (by decide) rfl ?_
    refine jr_iconst 29 0 C d_Mo_request_29 (by decide) ?_
    refine jr_istore 30 [(0, .ref (gz_ad (mz_G Z) 0)), (1, .int a1), (2, .int a2), (3, .int a3), (4, .int a4), (5, .int v1_), (6, .int 0), (7, .int 0)] C d_Mo_request_30 rfl (by decide) rfl ?_
    refine jr_sub [0, 1, 2, 3, 4, 6, 7] rfl ?_
    exact t_Mo_request_32 C  1000000 a1 a2 a3 a4 0 0 m3_ h
  · have h := jz_f c2_ h
    refine jr_aload_n 14 C d_Mo_request_14 rfl ?_
    refine jr_iload 15 C d_Mo_request_15 rfl ?_
    obtain ⟨v4_, ev4_, h⟩ := jz_b h
    refine jr_callV 17 [.int v1_] C d_Mo_request_17 (c_Mo_raise (xz_l X) C.2.2.2.2.2.2.1  ev4_) sz_Mo_raise tz_Mo_raise lk_Mo_102 oz_Mo rfl (by decide) rfl rfl (Nat.le_of_ble_eq_true rfl) rfl ?_
    obtain rfl := Option.some.inj h
    exact jr_iret 20 (v := v4_.1) C d_Mo_request_20 rfl
abbrev rm_Mo_tick : Room := { frames := 3, cells := 0, slots := 0, locals := 67 }
abbrev cd_Mo_tick : Cond := .code y_Mo_tick b_Mo_tick 2 none
def f_Mo_tick_105 (k49 : Int32 → jz_M → Option (jz_M)) (x1 : Int32) (m : jz_M) : Option (jz_M) :=
  (jz_ix 504 x1).bind fun j1_ =>
  if (m 8 j1_) ≤ 0 then
    jz_n (x1 + 1) fun x3_ =>
    k49 x3_ m
  else
    (jz_ix 504 x1).bind fun j4_ =>
    (jz_ix 504 x1).bind fun j5_ =>
    jz_n (jz_up m 11 j5_ ((m 11 j4_) + 1)) fun m6_ =>
    (jz_ix 504 x1).bind fun j7_ =>
    if ¬ (m6_ 11 j7_) = 3 then
      jz_n (x1 + 1) fun x9_ =>
      k49 x9_ m6_
    else
      (jz_ix 504 x1).bind fun j10_ =>
      jz_n (jz_up m6_ 8 j10_ 0) fun m11_ =>
      (jz_ix 504 x1).bind fun j12_ =>
      jz_n (jz_up m11_ 16 j12_ 0) fun m13_ =>
      (jz_ix 504 x1).bind fun j14_ =>
      jz_n (jz_up m13_ 17 j14_ 0) fun m15_ =>
      jz_n (x1 + 1) fun x16_ =>
      k49 x16_ m15_
set_option maxHeartbeats 4000000 in
set_option maxRecDepth 100000 in
theorem t_Mo_tick_105 {Z : cz_Z} {X : jz_X} {r : jz_M} (C : jz_C X 2 b_Mo_tick R_Mo none rm_Mo_tick (mz_G Z)) (k49 : Int32 → jz_M → Option (jz_M)) (hk49 : ∀ (x1 : Int32) (m : jz_M), k49 x1 m = some r → jz_J X 2 (mz_G Z) (jz_q X (mz_G Z) none r) m [(0, .ref (gz_ad (mz_G Z) 0)), (1, .int x1)] 49 []) : ∀ (x1 : Int32) (m : jz_M) , f_Mo_tick_105 k49 x1 m = some r → jz_J X 2 (mz_G Z) (jz_q X (mz_G Z) none r) m [(0, .ref (gz_ad (mz_G Z) 0)), (1, .int x1)] 105 [] := by
  intro x1 m h
  unfold f_Mo_tick_105 at h
  refine jr_aload_n 105 C d_Mo_tick_105 rfl ?_
  refine gf_Mo_32 106 C d_Mo_tick_106 ?_
  refine jr_iload_n 109 C d_Mo_tick_109 rfl ?_
  obtain ⟨j1_, ej1_, h⟩ := jz_b h
  refine jr_iald 110 C d_Mo_tick_110 zk_Mo_sequence ej1_ ?_
  refine jr_if_le 111 155 C d_Mo_tick_111 (by decide) (fun c2_ => ?_) (fun c2_ => ?_)
  · have h := jz_t c2_ h
    obtain ⟨x3_, ex3_, h⟩ := jz_ne h
    refine jr_iinc 155 [(0, .ref (gz_ad (mz_G Z) 0)), (1, .int x3_)] C d_Mo_tick_155 rfl (by decide) rfl (by rw [ex3_]; rfl) rfl ?_
    refine jr_goto 158 49 C d_Mo_tick_158 (by decide) ?_
    refine jr_sub [0, 1] rfl ?_
    exact hk49 x3_ m  h
  · have h := jz_f c2_ h
    refine jr_aload_n 114 C d_Mo_tick_114 rfl ?_
    refine gf_Mo_41 115 C d_Mo_tick_115 ?_
    refine jr_iload_n 118 C d_Mo_tick_118 rfl ?_
    refine jr_dup2 119 C d_Mo_tick_119 rfl rfl ?_
    obtain ⟨j4_, ej4_, h⟩ := jz_b h
    refine jr_iald 120 C d_Mo_tick_120 zk_Mo_gone ej4_ ?_
    refine jr_iconst 121 1 C d_Mo_tick_121 (by decide) ?_
    refine jr_iadd 122 C d_Mo_tick_122 ?_
    obtain ⟨j5_, ej5_, h⟩ := jz_b h
    obtain ⟨m6_, em6_, h⟩ := jz_ne h
    refine jr_iast 123 C d_Mo_tick_123 zk_Mo_gone ej5_ ?_
    refine jr_mem em6_ ?_
    refine jr_aload_n 124 C d_Mo_tick_124 rfl ?_
    refine gf_Mo_41 125 C d_Mo_tick_125 ?_
    refine jr_iload_n 128 C d_Mo_tick_128 rfl ?_
    obtain ⟨j7_, ej7_, h⟩ := jz_b h
    refine jr_iald 129 C d_Mo_tick_129 zk_Mo_gone ej7_ ?_
    refine jr_iconst 130 3 C d_Mo_tick_130 (by decide) ?_
    refine jr_icmp_ne 131 155 C d_Mo_tick_131 (by decide) (fun c8_ => ?_) (fun c8_ => ?_)
    · have h := jz_t c8_ h
      obtain ⟨x9_, ex9_, h⟩ := jz_ne h
      refine jr_iinc 155 [(0, .ref (gz_ad (mz_G Z) 0)), (1, .int x9_)] C d_Mo_tick_155 rfl (by decide) rfl (by rw [ex9_]; rfl) rfl ?_
      refine jr_goto 158 49 C d_Mo_tick_158 (by decide) ?_
      refine jr_sub [0, 1] rfl ?_
      exact hk49 x9_ m6_  h
    · have h := jz_f c8_ h
      refine jr_aload_n 134 C d_Mo_tick_134 rfl ?_
      refine gf_Mo_32 135 C d_Mo_tick_135 ?_
      refine jr_iload_n 138 C d_Mo_tick_138 rfl ?_
      refine jr_iconst 139 0 C d_Mo_tick_139 (by decide) ?_
      obtain ⟨j10_, ej10_, h⟩ := jz_b h
      obtain ⟨m11_, em11_, h⟩ := jz_ne h
      refine jr_iast 140 C d_Mo_tick_140 zk_Mo_sequence ej10_ ?_
      refine jr_mem em11_ ?_
      refine jr_aload_n 141 C d_Mo_tick_141 rfl ?_
      refine gf_Mo_56 142 C d_Mo_tick_142 ?_
      refine jr_iload_n 145 C d_Mo_tick_145 rfl ?_
      refine jr_iconst 146 0 C d_Mo_tick_146 (by decide) ?_
      obtain ⟨j12_, ej12_, h⟩ := jz_b h
      obtain ⟨m13_, em13_, h⟩ := jz_ne h
      refine jr_iast 147 C d_Mo_tick_147 zk_Mo_due ej12_ ?_
      refine jr_mem em13_ ?_
      refine jr_aload_n 148 C d_Mo_tick_148 rfl ?_
      refine gf_Mo_59 149 C d_Mo_tick_149 ?_
      refine jr_iload_n 152 C d_Mo_tick_152 rfl ?_
      refine jr_iconst 153 0 C d_Mo_tick_153 (by decide) ?_
      obtain ⟨j14_, ej14_, h⟩ := jz_b h
      obtain ⟨m15_, em15_, h⟩ := jz_ne h
      refine jr_iast 154 C d_Mo_tick_154 zk_Mo_asked ej14_ ?_
      refine jr_mem em15_ ?_
      obtain ⟨x16_, ex16_, h⟩ := jz_ne h
      refine jr_iinc 155 [(0, .ref (gz_ad (mz_G Z) 0)), (1, .int x16_)] C d_Mo_tick_155 rfl (by decide) rfl (by rw [ex16_]; rfl) rfl ?_
      refine jr_goto 158 49 C d_Mo_tick_158 (by decide) ?_
      refine jr_sub [0, 1] rfl ?_
      exact hk49 x16_ m15_  h
def f_Mo_tick_49 : Nat → Int32 → jz_M → Option (jz_M)
  | 0, _, _ => none
  | fu + 1, x1, m =>
    if 504 ≤ x1 then
      some m
    else
      (jz_ix 504 x1).bind fun j2_ =>
      if (m 8 j2_) ≤ 0 then
        f_Mo_tick_105 (f_Mo_tick_49 fu) x1 m
      else
        (jz_ix 504 x1).bind fun j4_ =>
        if (m 10 j4_) ≤ 0 then
          f_Mo_tick_105 (f_Mo_tick_49 fu) x1 m
        else
          (jz_ix 504 x1).bind fun j6_ =>
          (jz_ix 504 x1).bind fun j7_ =>
          jz_n (jz_up m 10 j7_ ((m 10 j6_) - 1)) fun m8_ =>
          (jz_ix 504 x1).bind fun j9_ =>
          if ¬ (m8_ 10 j9_) = 0 then
            jz_n (x1 + 1) fun x11_ =>
            f_Mo_tick_49 fu x11_ m8_
          else
            (f_Mo_die (x1 / 84) x1 m8_).bind fun v12_ =>
            jz_n (x1 + 1) fun x13_ =>
            f_Mo_tick_49 fu x13_ v12_
set_option maxHeartbeats 4000000 in
set_option maxRecDepth 100000 in
theorem t_Mo_tick_49 {Z : cz_Z} {X : jz_X} {r : jz_M} (C : jz_C X 2 b_Mo_tick R_Mo none rm_Mo_tick (mz_G Z)) : ∀ (fu : Nat) (x1 : Int32) (m : jz_M) , f_Mo_tick_49 fu x1 m = some r → jz_J X 2 (mz_G Z) (jz_q X (mz_G Z) none r) m [(0, .ref (gz_ad (mz_G Z) 0)), (1, .int x1)] 49 [] := by
  intro fu
  induction fu with
  | zero => intro x1 m h; cases h
  | succ fu ih =>
    intro x1 m h
    rw [f_Mo_tick_49] at h
    refine jr_iload_n 49 C d_Mo_tick_49 rfl ?_
    refine jr_sipush 50 504 C d_Mo_tick_50 (by decide) ?_
    refine jr_icmp_ge 53 161 C d_Mo_tick_53 (by decide) (fun c1_ => ?_) (fun c1_ => ?_)
    · have h := jz_t c1_ h
      obtain rfl := Option.some.inj h
      exact jr_vret 161 C d_Mo_tick_161 rfl
    · have h := jz_f c1_ h
      refine jr_aload_n 56 C d_Mo_tick_56 rfl ?_
      refine gf_Mo_32 57 C d_Mo_tick_57 ?_
      refine jr_iload_n 60 C d_Mo_tick_60 rfl ?_
      obtain ⟨j2_, ej2_, h⟩ := jz_b h
      refine jr_iald 61 C d_Mo_tick_61 zk_Mo_sequence ej2_ ?_
      refine jr_if_le 62 105 C d_Mo_tick_62 (by decide) (fun c3_ => ?_) (fun c3_ => ?_)
      · have h := jz_t c3_ h
        refine jr_sub [0, 1] rfl ?_
        exact t_Mo_tick_105 C (f_Mo_tick_49 fu) ih x1 m h
      · have h := jz_f c3_ h
        refine jr_aload_n 65 C d_Mo_tick_65 rfl ?_
        refine gf_Mo_38 66 C d_Mo_tick_66 ?_
        refine jr_iload_n 69 C d_Mo_tick_69 rfl ?_
        obtain ⟨j4_, ej4_, h⟩ := jz_b h
        refine jr_iald 70 C d_Mo_tick_70 zk_Mo_life ej4_ ?_
        refine jr_if_le 71 105 C d_Mo_tick_71 (by decide) (fun c5_ => ?_) (fun c5_ => ?_)
        · have h := jz_t c5_ h
          refine jr_sub [0, 1] rfl ?_
          exact t_Mo_tick_105 C (f_Mo_tick_49 fu) ih x1 m h
        · have h := jz_f c5_ h
          refine jr_aload_n 74 C d_Mo_tick_74 rfl ?_
          refine gf_Mo_38 75 C d_Mo_tick_75 ?_
          refine jr_iload_n 78 C d_Mo_tick_78 rfl ?_
          refine jr_dup2 79 C d_Mo_tick_79 rfl rfl ?_
          obtain ⟨j6_, ej6_, h⟩ := jz_b h
          refine jr_iald 80 C d_Mo_tick_80 zk_Mo_life ej6_ ?_
          refine jr_iconst 81 1 C d_Mo_tick_81 (by decide) ?_
          refine jr_isub 82 C d_Mo_tick_82 ?_
          obtain ⟨j7_, ej7_, h⟩ := jz_b h
          obtain ⟨m8_, em8_, h⟩ := jz_ne h
          refine jr_iast 83 C d_Mo_tick_83 zk_Mo_life ej7_ ?_
          refine jr_mem em8_ ?_
          refine jr_aload_n 84 C d_Mo_tick_84 rfl ?_
          refine gf_Mo_38 85 C d_Mo_tick_85 ?_
          refine jr_iload_n 88 C d_Mo_tick_88 rfl ?_
          obtain ⟨j9_, ej9_, h⟩ := jz_b h
          refine jr_iald 89 C d_Mo_tick_89 zk_Mo_life ej9_ ?_
          refine jr_if_ne 90 155 C d_Mo_tick_90 (by decide) (fun c10_ => ?_) (fun c10_ => ?_)
          · have h := jz_t c10_ h
            obtain ⟨x11_, ex11_, h⟩ := jz_ne h
            refine jr_iinc 155 [(0, .ref (gz_ad (mz_G Z) 0)), (1, .int x11_)] C d_Mo_tick_155 rfl (by decide) rfl (by rw [ex11_]; rfl) rfl ?_
            refine jr_goto 158 49 C d_Mo_tick_158 (by decide) ?_
            refine jr_sub [0, 1] rfl ?_
            exact ih x11_ m8_  h
          · have h := jz_f c10_ h
            refine jr_aload_n 93 C d_Mo_tick_93 rfl ?_
            refine jr_iload_n 94 C d_Mo_tick_94 rfl ?_
            refine jr_bipush 95 84 C d_Mo_tick_95 (by decide) ?_
            refine jr_idiv 97 C d_Mo_tick_97 (by decide) ?_
            refine jr_iload_n 98 C d_Mo_tick_98 rfl ?_
            obtain ⟨v12_, ev12_, h⟩ := jz_b h
            refine jr_callV 99 [.int (x1 / 84), .int x1] C d_Mo_tick_99 (c_Mo_die (xz_l X) C.2.2.2.2.2.2.1  ev12_) sz_Mo_die tz_Mo_die lk_Mo_151 oz_Mo rfl (by decide) rfl rfl (Nat.le_of_ble_eq_true rfl) rfl ?_
            refine jr_goto 102 155 C d_Mo_tick_102 (by decide) ?_
            obtain ⟨x13_, ex13_, h⟩ := jz_ne h
            refine jr_iinc 155 [(0, .ref (gz_ad (mz_G Z) 0)), (1, .int x13_)] C d_Mo_tick_155 rfl (by decide) rfl (by rw [ex13_]; rfl) rfl ?_
            refine jr_goto 158 49 C d_Mo_tick_158 (by decide) ?_
            refine jr_sub [0, 1] rfl ?_
            exact ih x13_ v12_  h
def f_Mo_tick_7 : Nat → Int32 → jz_M → Option (jz_M)
  | 0, _, _ => none
  | fu + 1, x1, m =>
    if 432 ≤ x1 then
      f_Mo_tick_49 1000000 0 m
    else
      (jz_ix 432 x1).bind fun j2_ =>
      if (m 6 j2_) ≤ 0 then
        (jz_ix 432 x1).bind fun j4_ =>
        jz_n (jz_up m 6 j4_ 0) fun m5_ =>
        jz_n (x1 + 1) fun x6_ =>
        f_Mo_tick_7 fu x6_ m5_
      else
        (jz_ix 432 x1).bind fun j7_ =>
        (jz_ix 432 x1).bind fun j8_ =>
        jz_n (jz_up m 6 j8_ ((m 6 j7_) - 1)) fun m9_ =>
        jz_n (x1 + 1) fun x10_ =>
        f_Mo_tick_7 fu x10_ m9_
set_option maxHeartbeats 4000000 in
set_option maxRecDepth 100000 in
theorem t_Mo_tick_7 {Z : cz_Z} {X : jz_X} {r : jz_M} (C : jz_C X 2 b_Mo_tick R_Mo none rm_Mo_tick (mz_G Z)) : ∀ (fu : Nat) (x1 : Int32) (m : jz_M) , f_Mo_tick_7 fu x1 m = some r → jz_J X 2 (mz_G Z) (jz_q X (mz_G Z) none r) m [(0, .ref (gz_ad (mz_G Z) 0)), (1, .int x1)] 7 [] := by
  intro fu
  induction fu with
  | zero => intro x1 m h; cases h
  | succ fu ih =>
    intro x1 m h
    rw [f_Mo_tick_7] at h
    refine jr_iload_n 7 C d_Mo_tick_7 rfl ?_
    refine jr_sipush 8 432 C d_Mo_tick_8 (by decide) ?_
    refine jr_icmp_ge 11 47 C d_Mo_tick_11 (by decide) (fun c1_ => ?_) (fun c1_ => ?_)
    · have h := jz_t c1_ h
      refine jr_iconst 47 0 C d_Mo_tick_47 (by decide) ?_
      refine jr_istore_n 48 [(0, .ref (gz_ad (mz_G Z) 0)), (1, .int 0)] C d_Mo_tick_48 rfl (by decide) rfl ?_
      refine jr_sub [0, 1] rfl ?_
      exact t_Mo_tick_49 C  1000000 0 m h
    · have h := jz_f c1_ h
      refine jr_aload_n 14 C d_Mo_tick_14 rfl ?_
      refine gf_Mo_26 15 C d_Mo_tick_15 ?_
      refine jr_iload_n 18 C d_Mo_tick_18 rfl ?_
      refine jr_aload_n 19 C d_Mo_tick_19 rfl ?_
      refine gf_Mo_26 20 C d_Mo_tick_20 ?_
      refine jr_iload_n 23 C d_Mo_tick_23 rfl ?_
      obtain ⟨j2_, ej2_, h⟩ := jz_b h
      refine jr_iald 24 C d_Mo_tick_24 zk_Mo_heard ej2_ ?_
      refine jr_if_le 25 39 C d_Mo_tick_25 (by decide) (fun c3_ => ?_) (fun c3_ => ?_)
      · have h := jz_t c3_ h
        refine jr_iconst 39 0 C d_Mo_tick_39 (by decide) ?_
        obtain ⟨j4_, ej4_, h⟩ := jz_b h
        obtain ⟨m5_, em5_, h⟩ := jz_ne h
        refine jr_iast 40 C d_Mo_tick_40 zk_Mo_heard ej4_ ?_
        refine jr_mem em5_ ?_
        obtain ⟨x6_, ex6_, h⟩ := jz_ne h
        refine jr_iinc 41 [(0, .ref (gz_ad (mz_G Z) 0)), (1, .int x6_)] C d_Mo_tick_41 rfl (by decide) rfl (by rw [ex6_]; rfl) rfl ?_
        refine jr_goto 44 7 C d_Mo_tick_44 (by decide) ?_
        refine jr_sub [0, 1] rfl ?_
        exact ih x6_ m5_  h
      · have h := jz_f c3_ h
        refine jr_aload_n 28 C d_Mo_tick_28 rfl ?_
        refine gf_Mo_26 29 C d_Mo_tick_29 ?_
        refine jr_iload_n 32 C d_Mo_tick_32 rfl ?_
        obtain ⟨j7_, ej7_, h⟩ := jz_b h
        refine jr_iald 33 C d_Mo_tick_33 zk_Mo_heard ej7_ ?_
        refine jr_iconst 34 1 C d_Mo_tick_34 (by decide) ?_
        refine jr_isub 35 C d_Mo_tick_35 ?_
        refine jr_goto 36 40 C d_Mo_tick_36 (by decide) ?_
        obtain ⟨j8_, ej8_, h⟩ := jz_b h
        obtain ⟨m9_, em9_, h⟩ := jz_ne h
        refine jr_iast 40 C d_Mo_tick_40 zk_Mo_heard ej8_ ?_
        refine jr_mem em9_ ?_
        obtain ⟨x10_, ex10_, h⟩ := jz_ne h
        refine jr_iinc 41 [(0, .ref (gz_ad (mz_G Z) 0)), (1, .int x10_)] C d_Mo_tick_41 rfl (by decide) rfl (by rw [ex10_]; rfl) rfl ?_
        refine jr_goto 44 7 C d_Mo_tick_44 (by decide) ?_
        refine jr_sub [0, 1] rfl ?_
        exact ih x10_ m9_  h
def f_Mo_tick (m : jz_M) : Option (jz_M) :=
  jz_n (jz_up m 0 0 0) fun m1_ =>
  f_Mo_tick_7 1000000 0 m1_
set_option maxHeartbeats 4000000 in
set_option maxRecDepth 100000 in
theorem c_Mo_tick {Z : cz_Z} (l : Launch) (hI : jz_I (mz_G Z)) {m : jz_M} {r : jz_M} (h : f_Mo_tick m = some r) : jz_m l y_Mo_tick cd_Mo_tick rm_Mo_tick (mz_G Z) [.ref (gz_ad (mz_G Z) 0)] m none r := by
  refine jz_met (own := R_Mo) (by decide) rfl hI (Nat.le_of_ble_eq_true rfl) (fun X hX C => ?_)
  subst hX
  show jz_J X 2 (mz_G Z) _ m [(0, .ref (gz_ad (mz_G Z) 0))] 0 []
  unfold f_Mo_tick at h
  refine jr_aload_n 0 C d_Mo_tick_0 rfl ?_
  refine jr_iconst 1 0 C d_Mo_tick_1 (by decide) ?_
  obtain ⟨m1_, em1_, h⟩ := jz_ne h
  refine pf_Mo_71 2 C d_Mo_tick_2 ?_
  refine jr_mem em1_ ?_
  refine jr_iconst 5 0 C d_Mo_tick_5 (by decide) ?_
  refine jr_istore_n 6 [(0, .ref (gz_ad (mz_G Z) 0)), (1, .int 0)] C d_Mo_tick_6 rfl (by decide) rfl ?_
  refine jr_sub [0, 1] rfl ?_
  exact t_Mo_tick_7 C 1000000 0 m1_ h
abbrev rm_Mo_place : Room := { frames := 1, cells := 0, slots := 0, locals := 20 }
abbrev cd_Mo_place : Cond := .code y_Mo_place b_Mo_place 4 (some .boolean)
def f_Mo_place (a1 : Int32) (a2 : Int32) (a3 : Int32) (m : jz_M) : Option (Int32 × jz_M) :=
  jz_n (jz_up m 0 0 0) fun m1_ =>
  (f_Mo_isOne a1 m1_).bind fun v2_ =>
  if v2_ = 0 then
    some (0, m1_)
  else
    if a2 < 0 then
      some (0, m1_)
    else
      if 2 < a2 then
        some (0, m1_)
      else
        if a3 < 1 then
          some (0, m1_)
        else
          if 3 < a3 then
            some (0, m1_)
          else
            (jz_ix 6 a1).bind fun j8_ =>
            if (m1_ 3 j8_) = 0 then
              (jz_ix 6 a1).bind fun j10_ =>
              jz_n (jz_up m1_ 1 j10_ a2) fun m11_ =>
              (jz_ix 6 a1).bind fun j12_ =>
              jz_n (jz_up m11_ 2 j12_ a3) fun m13_ =>
              some (1, m13_)
            else
              some (0, m1_)
set_option maxHeartbeats 4000000 in
set_option maxRecDepth 100000 in
theorem c_Mo_place {Z : cz_Z} (l : Launch) (hI : jz_I (mz_G Z)) {a1 : Int32} {a2 : Int32} {a3 : Int32} {m : jz_M} {r : Int32 × jz_M} (h : f_Mo_place a1 a2 a3 m = some r) : jz_m l y_Mo_place cd_Mo_place rm_Mo_place (mz_G Z) [.ref (gz_ad (mz_G Z) 0), .int a1, .int a2, .int a3] m (some (.int r.1)) r.2 := by
  refine jz_met (own := R_Mo) (by decide) rfl hI (Nat.le_of_ble_eq_true rfl) (fun X hX C => ?_)
  subst hX
  show jz_J X 4 (mz_G Z) _ m [(0, .ref (gz_ad (mz_G Z) 0)), (1, .int a1), (2, .int a2), (3, .int a3)] 0 []
  unfold f_Mo_place at h
  refine jr_aload_n 0 C d_Mo_place_0 rfl ?_
  refine jr_iconst 1 0 C d_Mo_place_1 (by decide) ?_
  obtain ⟨m1_, em1_, h⟩ := jz_ne h
  refine pf_Mo_71 2 C d_Mo_place_2 ?_
  refine jr_mem em1_ ?_
  refine jr_iload_n 5 C d_Mo_place_5 rfl ?_
  obtain ⟨v2_, ev2_, h⟩ := jz_b h
  refine jr_callS 6 [.int a1] C d_Mo_place_6 (c_Mo_isOne (xz_l X) C.2.2.2.2.2.2.1 ev2_) sz_Mo_isOne tz_Mo_isOne lk_Mo_91 (by decide) rfl rfl (Nat.le_of_ble_eq_true rfl) rfl ?_
  refine jr_if_eq 9 40 C d_Mo_place_9 (by decide) (fun c3_ => ?_) (fun c3_ => ?_)
  · have h := jz_t c3_ h
    refine jr_iconst 40 0 C d_Mo_place_40 (by decide) ?_
    obtain rfl := Option.some.inj h
    exact jr_zret 41 (v := 0) C d_Mo_place_41 rfl nb_0
  · have h := jz_f c3_ h
    refine jr_iload_n 12 C d_Mo_place_12 rfl ?_
    refine jr_if_lt 13 40 C d_Mo_place_13 (by decide) (fun c4_ => ?_) (fun c4_ => ?_)
    · have h := jz_t c4_ h
      refine jr_iconst 40 0 C d_Mo_place_40 (by decide) ?_
      obtain rfl := Option.some.inj h
      exact jr_zret 41 (v := 0) C d_Mo_place_41 rfl nb_0
    · have h := jz_f c4_ h
      refine jr_iload_n 16 C d_Mo_place_16 rfl ?_
      refine jr_iconst 17 2 C d_Mo_place_17 (by decide) ?_
      refine jr_icmp_gt 18 40 C d_Mo_place_18 (by decide) (fun c5_ => ?_) (fun c5_ => ?_)
      · have h := jz_t c5_ h
        refine jr_iconst 40 0 C d_Mo_place_40 (by decide) ?_
        obtain rfl := Option.some.inj h
        exact jr_zret 41 (v := 0) C d_Mo_place_41 rfl nb_0
      · have h := jz_f c5_ h
        refine jr_iload_n 21 C d_Mo_place_21 rfl ?_
        refine jr_iconst 22 1 C d_Mo_place_22 (by decide) ?_
        refine jr_icmp_lt 23 40 C d_Mo_place_23 (by decide) (fun c6_ => ?_) (fun c6_ => ?_)
        · have h := jz_t c6_ h
          refine jr_iconst 40 0 C d_Mo_place_40 (by decide) ?_
          obtain rfl := Option.some.inj h
          exact jr_zret 41 (v := 0) C d_Mo_place_41 rfl nb_0
        · have h := jz_f c6_ h
          refine jr_iload_n 26 C d_Mo_place_26 rfl ?_
          refine jr_iconst 27 3 C d_Mo_place_27 (by decide) ?_
          refine jr_icmp_gt 28 40 C d_Mo_place_28 (by decide) (fun c7_ => ?_) (fun c7_ => ?_)
          · have h := jz_t c7_ h
            refine jr_iconst 40 0 C d_Mo_place_40 (by decide) ?_
            obtain rfl := Option.some.inj h
            exact jr_zret 41 (v := 0) C d_Mo_place_41 rfl nb_0
          · have h := jz_f c7_ h
            refine jr_aload_n 31 C d_Mo_place_31 rfl ?_
            refine gf_Mo_16 32 C d_Mo_place_32 ?_
            refine jr_iload_n 35 C d_Mo_place_35 rfl ?_
            obtain ⟨j8_, ej8_, h⟩ := jz_b h
            refine jr_zald 36 C d_Mo_place_36 zk_Mo_placed ej8_ ?_
            refine jr_if_eq 37 42 C d_Mo_place_37 (by decide) (fun c9_ => ?_) (fun c9_ => ?_)
            · have h := jz_t c9_ h
              refine jr_aload_n 42 C d_Mo_place_42 rfl ?_
              refine gf_Mo_7 43 C d_Mo_place_43 ?_
              refine jr_iload_n 46 C d_Mo_place_46 rfl ?_
              refine jr_iload_n 47 C d_Mo_place_47 rfl ?_
              obtain ⟨j10_, ej10_, h⟩ := jz_b h
              obtain ⟨m11_, em11_, h⟩ := jz_ne h
              refine jr_iast 48 C d_Mo_place_48 zk_Mo_area ej10_ ?_
              refine jr_mem em11_ ?_
              refine jr_aload_n 49 C d_Mo_place_49 rfl ?_
              refine gf_Mo_13 50 C d_Mo_place_50 ?_
              refine jr_iload_n 53 C d_Mo_place_53 rfl ?_
              refine jr_iload_n 54 C d_Mo_place_54 rfl ?_
              obtain ⟨j12_, ej12_, h⟩ := jz_b h
              obtain ⟨m13_, em13_, h⟩ := jz_ne h
              refine jr_iast 55 C d_Mo_place_55 zk_Mo_levels ej12_ ?_
              refine jr_mem em13_ ?_
              refine jr_iconst 56 1 C d_Mo_place_56 (by decide) ?_
              obtain rfl := Option.some.inj h
              exact jr_zret 57 (v := 1) C d_Mo_place_57 rfl nb_1
            · have h := jz_f c9_ h
              refine jr_iconst 40 0 C d_Mo_place_40 (by decide) ?_
              obtain rfl := Option.some.inj h
              exact jr_zret 41 (v := 0) C d_Mo_place_41 rfl nb_0
abbrev rm_Mo_attach : Room := { frames := 2, cells := 0, slots := 0, locals := 45 }
abbrev cd_Mo_attach : Cond := .code y_Mo_attach b_Mo_attach 5 (some .boolean)
def f_Mo_attach_62 (x1 : Int32) (x2 : Int32) (x3 : Int32) (x4 : Int32) (m : jz_M) : Option (Int32 × jz_M) :=
  (jz_ix 6 x1).bind fun j1_ =>
  jz_n (jz_up m 3 j1_ (vp_nar .boolean 1)) fun m2_ =>
  (jz_ix 36 (((6 : Int32) * x1) + x2)).bind fun j3_ =>
  jz_n (jz_up m2_ 4 j3_ x3) fun m4_ =>
  (jz_ix 36 (((6 : Int32) * x1) + x2)).bind fun j5_ =>
  jz_n (jz_up m4_ 5 j5_ x4) fun m6_ =>
  some (1, m6_)
set_option maxHeartbeats 4000000 in
set_option maxRecDepth 100000 in
theorem t_Mo_attach_62 {Z : cz_Z} {X : jz_X} {r : Int32 × jz_M} (C : jz_C X 5 b_Mo_attach R_Mo (some .boolean) rm_Mo_attach (mz_G Z)) : ∀ (x1 : Int32) (x2 : Int32) (x3 : Int32) (x4 : Int32) (m : jz_M) , f_Mo_attach_62 x1 x2 x3 x4 m = some r → jz_J X 5 (mz_G Z) (jz_q X (mz_G Z) (some (.int r.1)) r.2) m [(0, .ref (gz_ad (mz_G Z) 0)), (1, .int x1), (2, .int x2), (3, .int x3), (4, .int x4)] 62 [] := by
  intro x1 x2 x3 x4 m h
  unfold f_Mo_attach_62 at h
  refine jr_aload_n 62 C d_Mo_attach_62 rfl ?_
  refine gf_Mo_16 63 C d_Mo_attach_63 ?_
  refine jr_iload_n 66 C d_Mo_attach_66 rfl ?_
  refine jr_iconst 67 1 C d_Mo_attach_67 (by decide) ?_
  obtain ⟨j1_, ej1_, h⟩ := jz_b h
  obtain ⟨m2_, em2_, h⟩ := jz_ne h
  refine jr_zast 68 C d_Mo_attach_68 zk_Mo_placed ej1_ ?_
  refine jr_mem em2_ ?_
  refine jr_aload_n 69 C d_Mo_attach_69 rfl ?_
  refine gf_Mo_20 70 C d_Mo_attach_70 ?_
  refine jr_bipush 73 6 C d_Mo_attach_73 (by decide) ?_
  refine jr_iload_n 75 C d_Mo_attach_75 rfl ?_
  refine jr_imul 76 C d_Mo_attach_76 ?_
  refine jr_iload_n 77 C d_Mo_attach_77 rfl ?_
  refine jr_iadd 78 C d_Mo_attach_78 ?_
  refine jr_iload_n 79 C d_Mo_attach_79 rfl ?_
  obtain ⟨j3_, ej3_, h⟩ := jz_b h
  obtain ⟨m4_, em4_, h⟩ := jz_ne h
  refine jr_iast 80 C d_Mo_attach_80 zk_Mo_metric ej3_ ?_
  refine jr_mem em4_ ?_
  refine jr_aload_n 81 C d_Mo_attach_81 rfl ?_
  refine gf_Mo_23 82 C d_Mo_attach_82 ?_
  refine jr_bipush 85 6 C d_Mo_attach_85 (by decide) ?_
  refine jr_iload_n 87 C d_Mo_attach_87 rfl ?_
  refine jr_imul 88 C d_Mo_attach_88 ?_
  refine jr_iload_n 89 C d_Mo_attach_89 rfl ?_
  refine jr_iadd 90 C d_Mo_attach_90 ?_
  refine jr_iload 91 C d_Mo_attach_91 rfl ?_
  obtain ⟨j5_, ej5_, h⟩ := jz_b h
  obtain ⟨m6_, em6_, h⟩ := jz_ne h
  refine jr_iast 93 C d_Mo_attach_93 zk_Mo_priority ej5_ ?_
  refine jr_mem em6_ ?_
  refine jr_iconst 94 1 C d_Mo_attach_94 (by decide) ?_
  obtain rfl := Option.some.inj h
  exact jr_zret 95 (v := 1) C d_Mo_attach_95 rfl nb_1
def f_Mo_attach (a1 : Int32) (a2 : Int32) (a3 : Int32) (a4 : Int32) (m : jz_M) : Option (Int32 × jz_M) :=
  jz_n (jz_up m 0 0 0) fun m1_ =>
  (f_Mo_isOne a1 m1_).bind fun v2_ =>
  if v2_ = 0 then
    some (0, m1_)
  else
    (f_Mo_isOne a2 m1_).bind fun v4_ =>
    if v4_ = 0 then
      some (0, m1_)
    else
      if a3 < 1 then
        some (0, m1_)
      else
        if 60 < a3 then
          some (0, m1_)
        else
          if a4 < 0 then
            some (0, m1_)
          else
            if 100 < a4 then
              some (0, m1_)
            else
              (f_Mo_isOn a1 a2 m1_).bind fun v10_ =>
              if ¬ v10_ = 0 then
                f_Mo_attach_62 a1 a2 a3 a4 m1_
              else
                (f_Mo_attached a2 m1_).bind fun v12_ =>
                if ¬ v12_ = 4 then
                  f_Mo_attach_62 a1 a2 a3 a4 m1_
                else
                  some (0, m1_)
set_option maxHeartbeats 4000000 in
set_option maxRecDepth 100000 in
theorem c_Mo_attach {Z : cz_Z} (l : Launch) (hI : jz_I (mz_G Z)) {a1 : Int32} {a2 : Int32} {a3 : Int32} {a4 : Int32} {m : jz_M} {r : Int32 × jz_M} (h : f_Mo_attach a1 a2 a3 a4 m = some r) : jz_m l y_Mo_attach cd_Mo_attach rm_Mo_attach (mz_G Z) [.ref (gz_ad (mz_G Z) 0), .int a1, .int a2, .int a3, .int a4] m (some (.int r.1)) r.2 := by
  refine jz_met (own := R_Mo) (by decide) rfl hI (Nat.le_of_ble_eq_true rfl) (fun X hX C => ?_)
  subst hX
  show jz_J X 5 (mz_G Z) _ m [(0, .ref (gz_ad (mz_G Z) 0)), (1, .int a1), (2, .int a2), (3, .int a3), (4, .int a4)] 0 []
  unfold f_Mo_attach at h
  refine jr_aload_n 0 C d_Mo_attach_0 rfl ?_
  refine jr_iconst 1 0 C d_Mo_attach_1 (by decide) ?_
  obtain ⟨m1_, em1_, h⟩ := jz_ne h
  refine pf_Mo_71 2 C d_Mo_attach_2 ?_
  refine jr_mem em1_ ?_
  refine jr_iload_n 5 C d_Mo_attach_5 rfl ?_
  obtain ⟨v2_, ev2_, h⟩ := jz_b h
  refine jr_callS 6 [.int a1] C d_Mo_attach_6 (c_Mo_isOne (xz_l X) C.2.2.2.2.2.2.1 ev2_) sz_Mo_isOne tz_Mo_isOne lk_Mo_91 (by decide) rfl rfl (Nat.le_of_ble_eq_true rfl) rfl ?_
  refine jr_if_eq 9 60 C d_Mo_attach_9 (by decide) (fun c3_ => ?_) (fun c3_ => ?_)
  · have h := jz_t c3_ h
    refine jr_iconst 60 0 C d_Mo_attach_60 (by decide) ?_
    obtain rfl := Option.some.inj h
    exact jr_zret 61 (v := 0) C d_Mo_attach_61 rfl nb_0
  · have h := jz_f c3_ h
    refine jr_iload_n 12 C d_Mo_attach_12 rfl ?_
    obtain ⟨v4_, ev4_, h⟩ := jz_b h
    refine jr_callS 13 [.int a2] C d_Mo_attach_13 (c_Mo_isOne (xz_l X) C.2.2.2.2.2.2.1  ev4_) sz_Mo_isOne tz_Mo_isOne lk_Mo_91 (by decide) rfl rfl (Nat.le_of_ble_eq_true rfl) rfl ?_
    refine jr_if_eq 16 60 C d_Mo_attach_16 (by decide) (fun c5_ => ?_) (fun c5_ => ?_)
    · have h := jz_t c5_ h
      refine jr_iconst 60 0 C d_Mo_attach_60 (by decide) ?_
      obtain rfl := Option.some.inj h
      exact jr_zret 61 (v := 0) C d_Mo_attach_61 rfl nb_0
    · have h := jz_f c5_ h
      refine jr_iload_n 19 C d_Mo_attach_19 rfl ?_
      refine jr_iconst 20 1 C d_Mo_attach_20 (by decide) ?_
      refine jr_icmp_lt 21 60 C d_Mo_attach_21 (by decide) (fun c6_ => ?_) (fun c6_ => ?_)
      · have h := jz_t c6_ h
        refine jr_iconst 60 0 C d_Mo_attach_60 (by decide) ?_
        obtain rfl := Option.some.inj h
        exact jr_zret 61 (v := 0) C d_Mo_attach_61 rfl nb_0
      · have h := jz_f c6_ h
        refine jr_iload_n 24 C d_Mo_attach_24 rfl ?_
        refine jr_bipush 25 60 C d_Mo_attach_25 (by decide) ?_
        refine jr_icmp_gt 27 60 C d_Mo_attach_27 (by decide) (fun c7_ => ?_) (fun c7_ => ?_)
        · have h := jz_t c7_ h
          refine jr_iconst 60 0 C d_Mo_attach_60 (by decide) ?_
          obtain rfl := Option.some.inj h
          exact jr_zret 61 (v := 0) C d_Mo_attach_61 rfl nb_0
        · have h := jz_f c7_ h
          refine jr_iload 30 C d_Mo_attach_30 rfl ?_
          refine jr_if_lt 32 60 C d_Mo_attach_32 (by decide) (fun c8_ => ?_) (fun c8_ => ?_)
          · have h := jz_t c8_ h
            refine jr_iconst 60 0 C d_Mo_attach_60 (by decide) ?_
            obtain rfl := Option.some.inj h
            exact jr_zret 61 (v := 0) C d_Mo_attach_61 rfl nb_0
          · have h := jz_f c8_ h
            refine jr_iload 35 C d_Mo_attach_35 rfl ?_
            refine jr_bipush 37 100 C d_Mo_attach_37 (by decide) ?_
            refine jr_icmp_gt 39 60 C d_Mo_attach_39 (by decide) (fun c9_ => ?_) (fun c9_ => ?_)
            · have h := jz_t c9_ h
              refine jr_iconst 60 0 C d_Mo_attach_60 (by decide) ?_
              obtain rfl := Option.some.inj h
              exact jr_zret 61 (v := 0) C d_Mo_attach_61 rfl nb_0
            · have h := jz_f c9_ h
              refine jr_aload_n 42 C d_Mo_attach_42 rfl ?_
              refine jr_iload_n 43 C d_Mo_attach_43 rfl ?_
              refine jr_iload_n 44 C d_Mo_attach_44 rfl ?_
              obtain ⟨v10_, ev10_, h⟩ := jz_b h
              refine jr_callV 45 [.int a1, .int a2] C d_Mo_attach_45 (c_Mo_isOn (xz_l X) C.2.2.2.2.2.2.1  ev10_) sz_Mo_isOn tz_Mo_isOn lk_Mo_75 oz_Mo rfl (by decide) rfl rfl (Nat.le_of_ble_eq_true rfl) rfl ?_
              refine jr_if_ne 48 62 C d_Mo_attach_48 (by decide) (fun c11_ => ?_) (fun c11_ => ?_)
              · have h := jz_t c11_ h
                refine jr_sub [0, 1, 2, 3, 4] rfl ?_
                exact t_Mo_attach_62 C  a1 a2 a3 a4 m1_ h
              · have h := jz_f c11_ h
                refine jr_aload_n 51 C d_Mo_attach_51 rfl ?_
                refine jr_iload_n 52 C d_Mo_attach_52 rfl ?_
                obtain ⟨v12_, ev12_, h⟩ := jz_b h
                refine jr_callV 53 [.int a2] C d_Mo_attach_53 (c_Mo_attached (xz_l X) C.2.2.2.2.2.2.1  ev12_) sz_Mo_attached tz_Mo_attached lk_Mo_79 oz_Mo rfl (by decide) rfl rfl (Nat.le_of_ble_eq_true rfl) rfl ?_
                refine jr_iconst 56 4 C d_Mo_attach_56 (by decide) ?_
                refine jr_icmp_ne 57 62 C d_Mo_attach_57 (by decide) (fun c13_ => ?_) (fun c13_ => ?_)
                · have h := jz_t c13_ h
                  refine jr_sub [0, 1, 2, 3, 4] rfl ?_
                  exact t_Mo_attach_62 C  a1 a2 a3 a4 m1_ h
                · have h := jz_f c13_ h
                  refine jr_iconst 60 0 C d_Mo_attach_60 (by decide) ?_
                  obtain rfl := Option.some.inj h
                  exact jr_zret 61 (v := 0) C d_Mo_attach_61 rfl nb_0
