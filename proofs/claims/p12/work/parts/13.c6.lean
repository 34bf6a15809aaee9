abbrev rm_AR_request : Room := { frames := 3, cells := 0, slots := 0, locals := 67 }
abbrev cd_AR_request : Cond := .code y_AR_request b_AR_request 9 (some .int)
def f_AR_request_59 (k26 : Int32 → Int32 → Int32 → Int32 → Nat → Int32 → Int32 → jz_M → Option (Int32 × jz_M)) : Nat → Int32 → Int32 → Int32 → Int32 → Nat → Int32 → Int32 → Int32 → jz_M → Option (Int32 × jz_M)
  | 0, _, _, _, _, _, _, _, _, _ => none
  | fu + 1, x1, x2, x3, x4, o5, x6, x7, x8, m =>
    if 6 ≤ x8 then
      jz_n (x7 + 1) fun x2_ =>
      k26 x1 x2 x3 x4 o5 x6 x2_ m
    else
      (f_AR_isReached x8 x1 x2 x3 x4 m).bind fun v3_ =>
      if v3_ = 0 then
        jz_n (x8 + 1) fun x5_ =>
        f_AR_request_59 k26 fu x1 x2 x3 x4 o5 x6 x7 x5_ m
      else
        (f_AR_baseOf x8 x3 m).bind fun v6_ =>
        (f_Ba_compareWithTold v6_ o5 x7 x2 m).bind fun v7_ =>
        jz_n (x8 + 1) fun x8_ =>
        f_AR_request_59 k26 fu x1 x2 x3 x4 o5 x6 x7 x8_ v7_
set_option maxHeartbeats 4000000 in
set_option maxRecDepth 100000 in
theorem t_AR_request_59 {Z : cz_Z} {X : jz_X} {r : Int32 × jz_M} (C : jz_C X 9 b_AR_request R_AR (some .int) rm_AR_request (cz_G Z)) (k26 : Int32 → Int32 → Int32 → Int32 → Nat → Int32 → Int32 → jz_M → Option (Int32 × jz_M)) (hk26 : ∀ (x1 : Int32) (x2 : Int32) (x3 : Int32) (x4 : Int32) (o5 : Nat) (x6 : Int32) (x7 : Int32) (m : jz_M), kz_Ba o5 → k26 x1 x2 x3 x4 o5 x6 x7 m = some r → jz_J X 9 (cz_G Z) (jz_q X (cz_G Z) (some (.int r.1)) r.2) m [(0, .ref (gz_ad (cz_G Z) 0)), (1, .int x1), (2, .int x2), (3, .int x3), (4, .int x4), (5, .ref (gz_ad (cz_G Z) o5)), (6, .int x6), (7, .int x7)] 26 []) : ∀ (fu : Nat) (x1 : Int32) (x2 : Int32) (x3 : Int32) (x4 : Int32) (o5 : Nat) (x6 : Int32) (x7 : Int32) (x8 : Int32) (m : jz_M) , kz_Ba o5 → f_AR_request_59 k26 fu x1 x2 x3 x4 o5 x6 x7 x8 m = some r → jz_J X 9 (cz_G Z) (jz_q X (cz_G Z) (some (.int r.1)) r.2) m [(0, .ref (gz_ad (cz_G Z) 0)), (1, .int x1), (2, .int x2), (3, .int x3), (4, .int x4), (5, .ref (gz_ad (cz_G Z) o5)), (6, .int x6), (7, .int x7), (8, .int x8)] 59 [] := by
  intro fu
  induction fu with
  | zero => intro x1 x2 x3 x4 o5 x6 x7 x8 m k5 h; cases h
  | succ fu ih =>
    intro x1 x2 x3 x4 o5 x6 x7 x8 m k5 h
    rw [f_AR_request_59] at h
    refine jr_iload 59 C d_AR_request_59 rfl ?_
    refine jr_bipush 61 6 C d_AR_request_61 (by decide) ?_
    refine jr_icmp_ge 63 101 C d_AR_request_63 (by decide) (fun c1_ => ?_) (fun c1_ => ?_)
    · have h := jz_t c1_ h
      obtain ⟨x2_, ex2_, h⟩ := jz_ne h
      refine jr_iinc 101 [(0, .ref (gz_ad (cz_G Z) 0)), (1, .int x1), (2, .int x2), (3, .int x3), (4, .int x4), (5, .ref (gz_ad (cz_G Z) o5)), (6, .int x6), (7, .int x2_), (8, .int x8)] C d_AR_request_101 rfl (by decide) rfl (by rw [ex2_]; rfl) rfl ?_
      refine jr_goto 104 26 C d_AR_request_104 (by decide) ?_
      refine jr_sub [0, 1, 2, 3, 4, 5, 6, 7] rfl ?_
      exact hk26 x1 x2 x3 x4 o5 x6 x2_ m k5 h
    · have h := jz_f c1_ h
      refine jr_aload_n 66 C d_AR_request_66 rfl ?_
      refine jr_iload 67 C d_AR_request_67 rfl ?_
      refine jr_iload_n 69 C d_AR_request_69 rfl ?_
      refine jr_iload_n 70 C d_AR_request_70 rfl ?_
      refine jr_iload_n 71 C d_AR_request_71 rfl ?_
      refine jr_iload 72 C d_AR_request_72 rfl ?_
      obtain ⟨v3_, ev3_, h⟩ := jz_b h
      refine jr_callV 74 [.int x8, .int x1, .int x2, .int x3, .int x4] C d_AR_request_74 (c_AR_isReached (xz_l X) C.2.2.2.2.2.2.1  ev3_) sz_AR_isReached tz_AR_isReached lk_AR_94 oz_AR rfl (by decide) rfl rfl (Nat.le_of_ble_eq_true rfl) rfl ?_
      refine jr_if_eq 77 95 C d_AR_request_77 (by decide) (fun c4_ => ?_) (fun c4_ => ?_)
      · have h := jz_t c4_ h
        obtain ⟨x5_, ex5_, h⟩ := jz_ne h
        refine jr_iinc 95 [(0, .ref (gz_ad (cz_G Z) 0)), (1, .int x1), (2, .int x2), (3, .int x3), (4, .int x4), (5, .ref (gz_ad (cz_G Z) o5)), (6, .int x6), (7, .int x7), (8, .int x5_)] C d_AR_request_95 rfl (by decide) rfl (by rw [ex5_]; rfl) rfl ?_
        refine jr_goto 98 59 C d_AR_request_98 (by decide) ?_
        refine jr_sub [0, 1, 2, 3, 4, 5, 6, 7, 8] rfl ?_
        exact ih x1 x2 x3 x4 o5 x6 x7 x5_ m k5 h
      · have h := jz_f c4_ h
        refine jr_aload_n 80 C d_AR_request_80 rfl ?_
        refine jr_iload 81 C d_AR_request_81 rfl ?_
        refine jr_iload_n 83 C d_AR_request_83 rfl ?_
        obtain ⟨v6_, ev6_, h⟩ := jz_b h
        refine jr_callV 84 [.int x8, .int x3] C d_AR_request_84 (c_AR_baseOf (xz_l X) C.2.2.2.2.2.2.1  ev6_) sz_AR_baseOf tz_AR_baseOf lk_AR_87 oz_AR rfl (by decide) rfl rfl (Nat.le_of_ble_eq_true rfl) rfl ?_
        refine jr_aload 87 C d_AR_request_87 rfl ?_
        refine jr_iload 89 C d_AR_request_89 rfl ?_
        refine jr_iload_n 91 C d_AR_request_91 rfl ?_
        obtain ⟨v7_, ev7_, h⟩ := jz_b h
        refine jr_callVN 92 [.ref (gz_ad (cz_G Z) o5), .int x7, .int x2] C d_AR_request_92 (c_Ba_compareWithTold (xz_l X) C.2.2.2.2.2.2.1 (kr_AR_baseOf ev6_) k5 ev7_) sz_Ba_compareWithTold tz_Ba_compareWithTold lk_AR_123 (oz_Ba (kr_AR_baseOf ev6_)) rfl (by decide) rfl rfl (Nat.le_of_ble_eq_true rfl) rfl ?_
        obtain ⟨x8_, ex8_, h⟩ := jz_ne h
        refine jr_iinc 95 [(0, .ref (gz_ad (cz_G Z) 0)), (1, .int x1), (2, .int x2), (3, .int x3), (4, .int x4), (5, .ref (gz_ad (cz_G Z) o5)), (6, .int x6), (7, .int x7), (8, .int x8_)] C d_AR_request_95 rfl (by decide) rfl (by rw [ex8_]; rfl) rfl ?_
        refine jr_goto 98 59 C d_AR_request_98 (by decide) ?_
        refine jr_sub [0, 1, 2, 3, 4, 5, 6, 7, 8] rfl ?_
        exact ih x1 x2 x3 x4 o5 x6 x7 x8_ v7_ k5 h
def f_AR_request_26 : Nat → Int32 → Int32 → Int32 → Int32 → Nat → Int32 → Int32 → jz_M → Option (Int32 × jz_M)
  | 0, _, _, _, _, _, _, _, _ => none
  | fu + 1, x1, x2, x3, x4, o5, x6, x7, m =>
    if 42 ≤ x7 then
      some (x6, m)
    else
      (f_Ba_isAsked o5 x7 x2 m).bind fun v2_ =>
      if v2_ = 0 then
        jz_n (x7 + 1) fun x4_ =>
        f_AR_request_26 fu x1 x2 x3 x4 o5 x6 x4_ m
      else
        jz_n (x6 + 1) fun x5_ =>
        (f_Ba_setAsked o5 x7 x2 0 m).bind fun v6_ =>
        f_AR_request_59 (f_AR_request_26 fu) 1000 x1 x2 x3 x4 o5 x5_ x7 0 v6_
set_option maxHeartbeats 4000000 in
set_option maxRecDepth 100000 in
theorem t_AR_request_26 {Z : cz_Z} {X : jz_X} {r : Int32 × jz_M} (C : jz_C X 9 b_AR_request R_AR (some .int) rm_AR_request (cz_G Z)) : ∀ (fu : Nat) (x1 : Int32) (x2 : Int32) (x3 : Int32) (x4 : Int32) (o5 : Nat) (x6 : Int32) (x7 : Int32) (m : jz_M) , kz_Ba o5 → f_AR_request_26 fu x1 x2 x3 x4 o5 x6 x7 m = some r → jz_J X 9 (cz_G Z) (jz_q X (cz_G Z) (some (.int r.1)) r.2) m [(0, .ref (gz_ad (cz_G Z) 0)), (1, .int x1), (2, .int x2), (3, .int x3), (4, .int x4), (5, .ref (gz_ad (cz_G Z) o5)), (6, .int x6), (7, .int x7)] 26 [] := by
  intro fu
  induction fu with
  | zero => intro x1 x2 x3 x4 o5 x6 x7 m k5 h; cases h
  | succ fu ih =>
    intro x1 x2 x3 x4 o5 x6 x7 m k5 h
    rw [f_AR_request_26] at h
    refine jr_iload 26 C d_AR_request_26 rfl ?_
    refine jr_bipush 28 42 C d_AR_request_28 (by decide) ?_
    refine jr_icmp_ge 30 107 C d_AR_request_30 (by decide) (fun c1_ => ?_) (fun c1_ => ?_)
    · have h := jz_t c1_ h
      refine jr_iload 107 C d_AR_request_107 rfl ?_
      obtain rfl := Option.some.inj h
      exact jr_iret 109 (v := x6) C d_AR_request_109 rfl
    · have h := jz_f c1_ h
      refine jr_aload 33 C d_AR_request_33 rfl ?_
      refine jr_iload 35 C d_AR_request_35 rfl ?_
      refine jr_iload_n 37 C d_AR_request_37 rfl ?_
      obtain ⟨v2_, ev2_, h⟩ := jz_b h
      refine jr_callVN 38 [.int x7, .int x2] C d_AR_request_38 (c_Ba_isAsked (xz_l X) C.2.2.2.2.2.2.1 k5 ev2_) sz_Ba_isAsked tz_Ba_isAsked lk_AR_117 (oz_Ba k5) rfl (by decide) rfl rfl (Nat.le_of_ble_eq_true rfl) rfl ?_
      refine jr_if_eq 41 101 C d_AR_request_41 (by decide) (fun c3_ => ?_) (fun c3_ => ?_)
      · have h := jz_t c3_ h
        obtain ⟨x4_, ex4_, h⟩ := jz_ne h
        refine jr_iinc 101 [(0, .ref (gz_ad (cz_G Z) 0)), (1, .int x1), (2, .int x2), (3, .int x3), (4, .int x4), (5, .ref (gz_ad (cz_G Z) o5)), (6, .int x6), (7, .int x4_)] C d_AR_request_101 rfl (by decide) rfl (by rw [ex4_]; rfl) rfl ?_
        refine jr_goto 104 26 C d_AR_request_104 (by decide) ?_
        refine jr_sub [0, 1, 2, 3, 4, 5, 6, 7] rfl ?_
        exact ih x1 x2 x3 x4 o5 x6 x4_ m k5 h
      · have h := jz_f c3_ h
        obtain ⟨x5_, ex5_, h⟩ := jz_ne h
        refine jr_iinc 44 [(0, .ref (gz_ad (cz_G Z) 0)), (1, .int x1), (2, .int x2), (3, .int x3), (4, .int x4), (5, .ref (gz_ad (cz_G Z) o5)), (6, .int x5_), (7, .int x7)] C d_AR_request_44 rfl (by decide) rfl (by rw [ex5_]; rfl) rfl ?_
        refine jr_aload 47 C d_AR_request_47 rfl ?_
        refine jr_iload 49 C d_AR_request_49 rfl ?_
        refine jr_iload_n 51 C d_AR_request_51 rfl ?_
        refine jr_iconst 52 0 C d_AR_request_52 (by decide) ?_
        obtain ⟨v6_, ev6_, h⟩ := jz_b h
        refine jr_callVN 53 [.int x7, .int x2, .int 0] C d_AR_request_53 (c_Ba_setAsked (xz_l X) C.2.2.2.2.2.2.1 k5 ev6_) sz_Ba_setAsked tz_Ba_setAsked lk_AR_120 (oz_Ba k5) rfl (by decide) rfl rfl (Nat.le_of_ble_eq_true rfl) rfl ?_
        refine jr_iconst 56 0 C d_AR_request_56 (by decide) ?_
        refine jr_istore 57 [(0, .ref (gz_ad (cz_G Z) 0)), (1, .int x1), (2, .int x2), (3, .int x3), (4, .int x4), (5, .ref (gz_ad (cz_G Z) o5)), (6, .int x5_), (7, .int x7), (8, .int 0)] C d_AR_request_57 rfl (by decide) rfl ?_
        refine jr_sub [0, 1, 2, 3, 4, 5, 6, 7, 8] rfl ?_
        exact t_AR_request_59 C (f_AR_request_26 fu) ih 1000 x1 x2 x3 x4 o5 x5_ x7 0 v6_ k5 h
def f_AR_request (a1 : Int32) (a2 : Int32) (a3 : Int32) (a4 : Int32) (m : jz_M) : Option (Int32 × jz_M) :=
  (f_AR_checkSender a1 a2 m).bind fun v1_ =>
  (f_AR_checkLevel a1 a3 m).bind fun v2_ =>
  (f_AR_baseOf a1 a3 m).bind fun v3_ =>
  f_AR_request_26 1000 a1 a2 a3 a4 v3_ 0 0 m
set_option maxHeartbeats 4000000 in
set_option maxRecDepth 100000 in
theorem c_AR_request {Z : cz_Z} (l : Launch) (hI : jz_I (cz_G Z)) {a1 : Int32} {a2 : Int32} {a3 : Int32} {a4 : Int32} {m : jz_M} {r : Int32 × jz_M} (h : f_AR_request a1 a2 a3 a4 m = some r) : jz_m l y_AR_request cd_AR_request rm_AR_request (cz_G Z) [.ref (gz_ad (cz_G Z) 0), .int a1, .int a2, .int a3, .int a4] m (some (.int r.1)) r.2 := by
  refine jz_met (own := R_AR) (by decide) rfl hI (Nat.le_of_ble_eq_true rfl) (fun X hX C => ?_)
  subst hX
  show jz_J X 9 (cz_G Z) _ m [(0, .ref (gz_ad (cz_G Z) 0)), (1, .int a1), (2, .int a2), (3, .int a3), (4, .int a4)] 0 []
  unfold f_AR_request at h
  refine jr_aload_n 0 C d_AR_request_0 rfl ?_
  refine jr_iload_n 1 C d_AR_request_1 rfl ?_
  refine jr_iload_n 2 C d_AR_request_2 rfl ?_
  obtain ⟨v1_, ev1_, h⟩ := jz_b h
  refine jr_callV 3 [.int a1, .int a2] C d_AR_request_3 (c_AR_checkSender (xz_l X) C.2.2.2.2.2.2.1 ev1_) sz_AR_checkSender tz_AR_checkSender lk_AR_73 oz_AR rfl (by decide) rfl rfl (Nat.le_of_ble_eq_true rfl) rfl ?_
  refine jr_aload_n 6 C d_AR_request_6 rfl ?_
  refine jr_iload_n 7 C d_AR_request_7 rfl ?_
  refine jr_iload_n 8 C d_AR_request_8 rfl ?_
  obtain ⟨v2_, ev2_, h⟩ := jz_b h
  refine jr_callV 9 [.int a1, .int a3] C d_AR_request_9 (c_AR_checkLevel (xz_l X) C.2.2.2.2.2.2.1 ev2_) sz_AR_checkLevel tz_AR_checkLevel lk_AR_84 oz_AR rfl (by decide) rfl rfl (Nat.le_of_ble_eq_true rfl) rfl ?_
  refine jr_aload_n 12 C d_AR_request_12 rfl ?_
  refine jr_iload_n 13 C d_AR_request_13 rfl ?_
  refine jr_iload_n 14 C d_AR_request_14 rfl ?_
  obtain ⟨v3_, ev3_, h⟩ := jz_b h
  refine jr_callV 15 [.int a1, .int a3] C d_AR_request_15 (c_AR_baseOf (xz_l X) C.2.2.2.2.2.2.1 ev3_) sz_AR_baseOf tz_AR_baseOf lk_AR_87 oz_AR rfl (by decide) rfl rfl (Nat.le_of_ble_eq_true rfl) rfl ?_
  refine jr_astore 18 [(0, .ref (gz_ad (cz_G Z) 0)), (1, .int a1), (2, .int a2), (3, .int a3), (4, .int a4), (5, .ref (gz_ad (cz_G Z) v3_))] C d_AR_request_18 rfl (by decide) rfl ?_
  refine jr_iconst 20 0 C d_AR_request_20 (by decide) ?_
  refine jr_istore 21 [(0, .ref (gz_ad (cz_G Z) 0)), (1, .int a1), (2, .int a2), (3, .int a3), (4, .int a4), (5, .ref (gz_ad (cz_G Z) v3_)), (6, .int 0)] C d_AR_request_21 rfl (by decide) rfl ?_
  refine jr_iconst 23 0 C d_AR_request_23 (by decide) ?_
  refine jr_istore 24 [(0, .ref (gz_ad (cz_G Z) 0)), (1, .int a1), (2, .int a2), (3, .int a3), (4, .int a4), (5, .ref (gz_ad (cz_G Z) v3_)), (6, .int 0), (7, .int 0)] C d_AR_request_24 rfl (by decide) rfl ?_
  refine jr_sub [0, 1, 2, 3, 4, 5, 6, 7] rfl ?_
  exact t_AR_request_26 C 1000 a1 a2 a3 a4 v3_ 0 0 m (kr_AR_baseOf ev3_) h
abbrev rm_Ba_linkOf : Room := { frames := 0, cells := 0, slots := 0, locals := 0 }
abbrev cd_Ba_linkOf : Cond := .code y_Ba_linkOf b_Ba_linkOf 3 (some .int)
def f_Ba_linkOf (o0 : Nat) (a1 : Int32) (a2 : Int32) (m : jz_M) : Option (Int32) :=
  (jz_ix 420 ((a1 * 10) + a2)).bind fun j1_ =>
  some (m (o0 + 8) j1_)
set_option maxHeartbeats 4000000 in
set_option maxRecDepth 100000 in
theorem c_Ba_linkOf {Z : cz_Z} (l : Launch) (hI : jz_I (cz_G Z)) {o0 : Nat} {a1 : Int32} {a2 : Int32} {m : jz_M} {r : Int32} (ko0 : kz_Ba o0) (h : f_Ba_linkOf o0 a1 a2 m = some r) : jz_m l y_Ba_linkOf cd_Ba_linkOf rm_Ba_linkOf (cz_G Z) [.ref (gz_ad (cz_G Z) o0), .int a1, .int a2] m (some (.int r)) m := by
  refine jz_met (own := R_Ba) (by decide) rfl hI (Nat.le_of_ble_eq_true rfl) (fun X hX C => ?_)
  subst hX
  show jz_J X 3 (cz_G Z) _ m [(0, .ref (gz_ad (cz_G Z) o0)), (1, .int a1), (2, .int a2)] 0 []
  unfold f_Ba_linkOf at h
  refine jr_aload_n 0 C d_Ba_linkOf_0 rfl ?_
  refine gf_Ba_34 1 C d_Ba_linkOf_1 ko0 ?_
  refine jr_iload_n 4 C d_Ba_linkOf_4 rfl ?_
  refine jr_bipush 5 10 C d_Ba_linkOf_5 (by decide) ?_
  refine jr_imul 7 C d_Ba_linkOf_7 ?_
  refine jr_iload_n 8 C d_Ba_linkOf_8 rfl ?_
  refine jr_iadd 9 C d_Ba_linkOf_9 ?_
  obtain ⟨j1_, ej1_, h⟩ := jz_b h
  refine jr_iald 10 C d_Ba_linkOf_10 (zk_Ba_links ko0) ej1_ ?_
  obtain rfl := Option.some.inj h
  exact jr_iret 11 (v := (m (o0 + 8) j1_)) C d_Ba_linkOf_11 rfl
abbrev rm_Ba_isStillTrue : Room := { frames := 1, cells := 0, slots := 0, locals := 22 }
abbrev cd_Ba_isStillTrue : Cond := .code y_Ba_isStillTrue b_Ba_isStillTrue 4 (some .boolean)
def f_Ba_isStillTrue_40 (m : jz_M) : Nat → Nat → Int32 → Int32 → Option (Int32)
  | 0, _, _, _ => none
  | fu + 1, o0, x1, x3 =>
    if (m 146 0) ≤ x3 then
      some 1
    else
      (f_Ba_linkOf o0 x1 x3 m).bind fun v2_ =>
      (jz_ix 10 x3).bind fun j3_ =>
      if v2_ = (m 147 j3_) then
        jz_n (x3 + 1) fun x5_ =>
        f_Ba_isStillTrue_40 m fu o0 x1 x5_
      else
        some 0
set_option maxHeartbeats 4000000 in
set_option maxRecDepth 100000 in
theorem t_Ba_isStillTrue_40 {Z : cz_Z} {X : jz_X} {m : jz_M} {r : Int32} (C : jz_C X 4 b_Ba_isStillTrue R_Ba (some .boolean) rm_Ba_isStillTrue (cz_G Z)) : ∀ (fu : Nat) (o0 : Nat) (x1 : Int32) (x3 : Int32) , kz_Ba o0 → f_Ba_isStillTrue_40 m fu o0 x1 x3 = some r → jz_J X 4 (cz_G Z) (jz_q X (cz_G Z) (some (.int r)) m) m [(0, .ref (gz_ad (cz_G Z) o0)), (1, .int x1), (2, .ref (gz_ad (cz_G Z) 146)), (3, .int x3)] 40 [] := by
  intro fu
  induction fu with
  | zero => intro o0 x1 x3 k0 h; cases h
  | succ fu ih =>
    intro o0 x1 x3 k0 h
    rw [f_Ba_isStillTrue_40] at h
    refine jr_iload_n 40 C d_Ba_isStillTrue_40 rfl ?_
    refine jr_aload_n 41 C d_Ba_isStillTrue_41 rfl ?_
    refine gf_Ba_75 42 C d_Ba_isStillTrue_42 ?_
    refine jr_icmp_ge 45 71 C d_Ba_isStillTrue_45 (by decide) (fun c1_ => ?_) (fun c1_ => ?_)
    · have h := jz_t c1_ h
      refine jr_iconst 71 1 C d_Ba_isStillTrue_71 (by decide) ?_
      obtain rfl := Option.some.inj h
      exact jr_zret 72 (v := 1) C d_Ba_isStillTrue_72 rfl nb_1
    · have h := jz_f c1_ h
      refine jr_aload_n 48 C d_Ba_isStillTrue_48 rfl ?_
      refine jr_iload_n 49 C d_Ba_isStillTrue_49 rfl ?_
      refine jr_iload_n 50 C d_Ba_isStillTrue_50 rfl ?_
      obtain ⟨v2_, ev2_, h⟩ := jz_b h
      refine jr_callV 51 [.int x1, .int x3] C d_Ba_isStillTrue_51 (c_Ba_linkOf (xz_l X) C.2.2.2.2.2.2.1 k0 ev2_) sz_Ba_linkOf tz_Ba_linkOf lk_Ba_47 (oz_Ba k0) rfl (by decide) rfl rfl (Nat.le_of_ble_eq_true rfl) rfl ?_
      refine jr_aload_n 54 C d_Ba_isStillTrue_54 rfl ?_
      refine gf_Ba_79 55 C d_Ba_isStillTrue_55 ?_
      refine jr_iload_n 58 C d_Ba_isStillTrue_58 rfl ?_
      obtain ⟨j3_, ej3_, h⟩ := jz_b h
      refine jr_iald 59 C d_Ba_isStillTrue_59 zk_Dr_links ej3_ ?_
      refine jr_icmp_eq 60 65 C d_Ba_isStillTrue_60 (by decide) (fun c4_ => ?_) (fun c4_ => ?_)
      · have h := jz_t c4_ h
        obtain ⟨x5_, ex5_, h⟩ := jz_ne h
        refine jr_iinc 65 [(0, .ref (gz_ad (cz_G Z) o0)), (1, .int x1), (2, .ref (gz_ad (cz_G Z) 146)), (3, .int x5_)] C d_Ba_isStillTrue_65 rfl (by decide) rfl (by rw [ex5_]; rfl) rfl ?_
        refine jr_goto 68 40 C d_Ba_isStillTrue_68 (by decide) ?_
        refine jr_sub [0, 1, 2, 3] rfl ?_
        exact ih o0 x1 x5_ k0 h
      · have h := jz_f c4_ h
        refine jr_iconst 63 0 C d_Ba_isStillTrue_63 (by decide) ?_
        obtain rfl := Option.some.inj h
        exact jr_zret 64 (v := 0) C d_Ba_isStillTrue_64 rfl nb_0
def f_Ba_isStillTrue (o0 : Nat) (a1 : Int32) (m : jz_M) : Option (Int32) :=
  (jz_ix 42 a1).bind fun j1_ =>
  if (m (o0 + 3) j1_) ≤ 5 then
    some 0
  else
    (jz_ix 42 a1).bind fun j3_ =>
    if ¬ (m (o0 + 5) j3_) = (m 146 2) then
      some 0
    else
      (jz_ix 42 a1).bind fun j5_ =>
      if (m (o0 + 7) j5_) = (m 146 0) then
        f_Ba_isStillTrue_40 m 1000 o0 a1 0
      else
        some 0
set_option maxHeartbeats 4000000 in
set_option maxRecDepth 100000 in
theorem c_Ba_isStillTrue {Z : cz_Z} (l : Launch) (hI : jz_I (cz_G Z)) {o0 : Nat} {a1 : Int32} {m : jz_M} {r : Int32} (ko0 : kz_Ba o0) (h : f_Ba_isStillTrue o0 a1 m = some r) : jz_m l y_Ba_isStillTrue cd_Ba_isStillTrue rm_Ba_isStillTrue (cz_G Z) [.ref (gz_ad (cz_G Z) o0), .int a1, .ref (gz_ad (cz_G Z) 146)] m (some (.int r)) m := by
  refine jz_met (own := R_Ba) (by decide) rfl hI (Nat.le_of_ble_eq_true rfl) (fun X hX C => ?_)
  subst hX
  show jz_J X 4 (cz_G Z) _ m [(0, .ref (gz_ad (cz_G Z) o0)), (1, .int a1), (2, .ref (gz_ad (cz_G Z) 146))] 0 []
  unfold f_Ba_isStillTrue at h
  refine jr_aload_n 0 C d_Ba_isStillTrue_0 rfl ?_
  refine gf_Ba_18 1 C d_Ba_isStillTrue_1 ko0 ?_
  refine jr_iload_n 4 C d_Ba_isStillTrue_4 rfl ?_
  obtain ⟨j1_, ej1_, h⟩ := jz_b h
  refine jr_iald 5 C d_Ba_isStillTrue_5 (zk_Ba_lives ko0) ej1_ ?_
  refine jr_iconst 6 5 C d_Ba_isStillTrue_6 (by decide) ?_
  refine jr_icmp_le 7 36 C d_Ba_isStillTrue_7 (by decide) (fun c2_ => ?_) (fun c2_ => ?_)
  · have h := jz_t c2_ h
    refine jr_iconst 36 0 C d_Ba_isStillTrue_36 (by decide) ?_
    obtain rfl := Option.some.inj h
    exact jr_zret 37 (v := 0) C d_Ba_isStillTrue_37 rfl nb_0
  · have h := jz_f c2_ h
    refine jr_aload_n 10 C d_Ba_isStillTrue_10 rfl ?_
    refine gf_Ba_24 11 C d_Ba_isStillTrue_11 ko0 ?_
    refine jr_iload_n 14 C d_Ba_isStillTrue_14 rfl ?_
    obtain ⟨j3_, ej3_, h⟩ := jz_b h
    refine jr_zald 15 C d_Ba_isStillTrue_15 (zk_Ba_exits ko0) ej3_ ?_
    refine jr_aload_n 16 C d_Ba_isStillTrue_16 rfl ?_
    refine gf_Ba_69 17 C d_Ba_isStillTrue_17 ?_
    refine jr_icmp_ne 20 36 C d_Ba_isStillTrue_20 (by decide) (fun c4_ => ?_) (fun c4_ => ?_)
    · have h := jz_t c4_ h
      refine jr_iconst 36 0 C d_Ba_isStillTrue_36 (by decide) ?_
      obtain rfl := Option.some.inj h
      exact jr_zret 37 (v := 0) C d_Ba_isStillTrue_37 rfl nb_0
    · have h := jz_f c4_ h
      refine jr_aload_n 23 C d_Ba_isStillTrue_23 rfl ?_
      refine gf_Ba_31 24 C d_Ba_isStillTrue_24 ko0 ?_
      refine jr_iload_n 27 C d_Ba_isStillTrue_27 rfl ?_
      obtain ⟨j5_, ej5_, h⟩ := jz_b h
      refine jr_iald 28 C d_Ba_isStillTrue_28 (zk_Ba_linkCounts ko0) ej5_ ?_
      refine jr_aload_n 29 C d_Ba_isStillTrue_29 rfl ?_
      refine gf_Ba_75 30 C d_Ba_isStillTrue_30 ?_
      refine jr_icmp_eq 33 38 C d_Ba_isStillTrue_33 (by decide) (fun c6_ => ?_) (fun c6_ => ?_)
      · have h := jz_t c6_ h
        refine jr_iconst 38 0 C d_Ba_isStillTrue_38 (by decide) ?_
        refine jr_istore_n 39 [(0, .ref (gz_ad (cz_G Z) o0)), (1, .int a1), (2, .ref (gz_ad (cz_G Z) 146)), (3, .int 0)] C d_Ba_isStillTrue_39 rfl (by decide) rfl ?_
        refine jr_sub [0, 1, 2, 3] rfl ?_
        exact t_Ba_isStillTrue_40 C  1000 o0 a1 0 ko0 h
      · have h := jz_f c6_ h
        refine jr_iconst 36 0 C d_Ba_isStillTrue_36 (by decide) ?_
        obtain rfl := Option.some.inj h
        exact jr_zret 37 (v := 0) C d_Ba_isStillTrue_37 rfl nb_0
abbrev rm_AR_bringUpToDate : Room := { frames := 5, cells := 0, slots := 0, locals := 114 }
abbrev cd_AR_bringUpToDate : Cond := .code y_AR_bringUpToDate b_AR_bringUpToDate 6 (some .boolean)
def f_AR_bringUpToDate (a1 : Int32) (a2 : Int32) (a3 : Int32) (m : jz_M) : Option (Int32 × jz_M) :=
  (f_AR_baseOf a1 a2 m).bind fun v1_ =>
  (f_AR_nameOf a1 a3 m).bind fun v2_ =>
  (f_AR_draftPart a1 a2 a3 m).bind fun v3_ =>
  if v3_.1 = 0 then
    (f_Ba_isAlive v1_ v2_ v3_.2).bind fun v5_ =>
    if ¬ v5_ = 0 then
      (f_Wi_circuitsOf a1 v3_.2).bind fun v7_ =>
      (f_Ba_end v1_ v2_ v7_ v3_.2).bind fun v8_ =>
      some (1, v8_)
    else
      some (0, v3_.2)
  else
    (f_Ba_isStillTrue v1_ v2_ v3_.2).bind fun v9_ =>
    if v9_ = 0 then
      (f_Wi_circuitsOf a1 v3_.2).bind fun v11_ =>
      (f_Ba_renew v1_ v2_ v11_ v3_.2).bind fun v12_ =>
      some (1, v12_)
    else
      some (0, v3_.2)
set_option maxHeartbeats 4000000 in
set_option maxRecDepth 100000 in
theorem c_AR_bringUpToDate {Z : cz_Z} (l : Launch) (hI : jz_I (cz_G Z)) {a1 : Int32} {a2 : Int32} {a3 : Int32} {m : jz_M} {r : Int32 × jz_M} (h : f_AR_bringUpToDate a1 a2 a3 m = some r) : jz_m l y_AR_bringUpToDate cd_AR_bringUpToDate rm_AR_bringUpToDate (cz_G Z) [.ref (gz_ad (cz_G Z) 0), .int a1, .int a2, .int a3] m (some (.int r.1)) r.2 := by
  refine jz_met (own := R_AR) (by decide) rfl hI (Nat.le_of_ble_eq_true rfl) (fun X hX C => ?_)
  subst hX
  show jz_J X 6 (cz_G Z) _ m [(0, .ref (gz_ad (cz_G Z) 0)), (1, .int a1), (2, .int a2), (3, .int a3)] 0 []
  unfold f_AR_bringUpToDate at h
  refine jr_aload_n 0 C d_AR_bringUpToDate_0 rfl ?_
  refine jr_iload_n 1 C d_AR_bringUpToDate_1 rfl ?_
  refine jr_iload_n 2 C d_AR_bringUpToDate_2 rfl ?_
  obtain ⟨v1_, ev1_, h⟩ := jz_b h
  refine jr_callV 3 [.int a1, .int a2] C d_AR_bringUpToDate_3 (c_AR_baseOf (xz_l X) C.2.2.2.2.2.2.1 ev1_) sz_AR_baseOf tz_AR_baseOf lk_AR_87 oz_AR rfl (by decide) rfl rfl (Nat.le_of_ble_eq_true rfl) rfl ?_
  refine jr_astore 6 [(0, .ref (gz_ad (cz_G Z) 0)), (1, .int a1), (2, .int a2), (3, .int a3), (4, .ref (gz_ad (cz_G Z) v1_))] C d_AR_bringUpToDate_6 rfl (by decide) rfl ?_
  refine jr_iload_n 8 C d_AR_bringUpToDate_8 rfl ?_
  refine jr_iload_n 9 C d_AR_bringUpToDate_9 rfl ?_
  obtain ⟨v2_, ev2_, h⟩ := jz_b h
  refine jr_callS 10 [.int a1, .int a3] C d_AR_bringUpToDate_10 (c_AR_nameOf (xz_l X) C.2.2.2.2.2.2.1 ev2_) sz_AR_nameOf tz_AR_nameOf lk_AR_215 (by decide) rfl rfl (Nat.le_of_ble_eq_true rfl) rfl ?_
  refine jr_istore 13 [(0, .ref (gz_ad (cz_G Z) 0)), (1, .int a1), (2, .int a2), (3, .int a3), (4, .ref (gz_ad (cz_G Z) v1_)), (5, .int v2_)] C d_AR_bringUpToDate_13 rfl (by decide) rfl ?_
  refine jr_aload_n 15 C d_AR_bringUpToDate_15 rfl ?_
  refine jr_iload_n 16 C d_AR_bringUpToDate_16 rfl ?_
  refine jr_iload_n 17 C d_AR_bringUpToDate_17 rfl ?_
  refine jr_iload_n 18 C d_AR_bringUpToDate_18 rfl ?_
  obtain ⟨v3_, ev3_, h⟩ := jz_b h
  refine jr_callV 19 [.int a1, .int a2, .int a3] C d_AR_bringUpToDate_19 (c_AR_draftPart (xz_l X) C.2.2.2.2.2.2.1 ev3_) sz_AR_draftPart tz_AR_draftPart lk_AR_224 oz_AR rfl (by decide) rfl rfl (Nat.le_of_ble_eq_true rfl) rfl ?_
  refine jr_if_eq 22 62 C d_AR_bringUpToDate_22 (by decide) (fun c4_ => ?_) (fun c4_ => ?_)
  · have h := jz_t c4_ h
    refine jr_aload 62 C d_AR_bringUpToDate_62 rfl ?_
    refine jr_iload 64 C d_AR_bringUpToDate_64 rfl ?_
    obtain ⟨v5_, ev5_, h⟩ := jz_b h
    refine jr_callVN 66 [.int v2_] C d_AR_bringUpToDate_66 (c_Ba_isAlive (xz_l X) C.2.2.2.2.2.2.1 (kr_AR_baseOf ev1_) ev5_) sz_Ba_isAlive tz_Ba_isAlive lk_AR_235 (oz_Ba (kr_AR_baseOf ev1_)) rfl (by decide) rfl rfl (Nat.le_of_ble_eq_true rfl) rfl ?_
    refine jr_if_ne 69 74 C d_AR_bringUpToDate_69 (by decide) (fun c6_ => ?_) (fun c6_ => ?_)
    · have h := jz_t c6_ h
      refine jr_aload 74 C d_AR_bringUpToDate_74 rfl ?_
      refine jr_iload 76 C d_AR_bringUpToDate_76 rfl ?_
      refine jr_aload_n 78 C d_AR_bringUpToDate_78 rfl ?_
      refine gf_AR_19 79 C d_AR_bringUpToDate_79 ?_
      refine jr_iload_n 82 C d_AR_bringUpToDate_82 rfl ?_
      obtain ⟨v7_, ev7_, h⟩ := jz_b h
      refine jr_callVN 83 [.int a1] C d_AR_bringUpToDate_83 (c_Wi_circuitsOf (xz_l X) C.2.2.2.2.2.2.1  ev7_) sz_Wi_circuitsOf tz_Wi_circuitsOf lk_AR_55 oz_Wi rfl (by decide) rfl rfl (Nat.le_of_ble_eq_true rfl) rfl ?_
      obtain ⟨v8_, ev8_, h⟩ := jz_b h
      refine jr_callVN 86 [.int v2_, .int v7_] C d_AR_bringUpToDate_86 (c_Ba_end (xz_l X) C.2.2.2.2.2.2.1 (kr_AR_baseOf ev1_) ev8_) sz_Ba_end tz_Ba_end lk_AR_238 (oz_Ba (kr_AR_baseOf ev1_)) rfl (by decide) rfl rfl (Nat.le_of_ble_eq_true rfl) rfl ?_
      refine jr_iconst 89 1 C d_AR_bringUpToDate_89 (by decide) ?_
      obtain rfl := Option.some.inj h
      exact jr_zret 90 (v := 1) C d_AR_bringUpToDate_90 rfl nb_1
    · have h := jz_f c6_ h
      refine jr_iconst 72 0 C d_AR_bringUpToDate_72 (by decide) ?_
      obtain rfl := Option.some.inj h
      exact jr_zret 73 (v := 0) C d_AR_bringUpToDate_73 rfl nb_0
  · have h := jz_f c4_ h
    refine jr_aload 25 C d_AR_bringUpToDate_25 rfl ?_
    refine jr_iload 27 C d_AR_bringUpToDate_27 rfl ?_
    refine jr_aload_n 29 C d_AR_bringUpToDate_29 rfl ?_
    refine gf_AR_40 30 C d_AR_bringUpToDate_30 ?_
    obtain ⟨v9_, ev9_, h⟩ := jz_b h
    refine jr_callVN 33 [.int v2_, .ref (gz_ad (cz_G Z) 146)] C d_AR_bringUpToDate_33 (c_Ba_isStillTrue (xz_l X) C.2.2.2.2.2.2.1 (kr_AR_baseOf ev1_) ev9_) sz_Ba_isStillTrue tz_Ba_isStillTrue lk_AR_227 (oz_Ba (kr_AR_baseOf ev1_)) rfl (by decide) rfl rfl (Nat.le_of_ble_eq_true rfl) rfl ?_
    refine jr_if_eq 36 41 C d_AR_bringUpToDate_36 (by decide) (fun c10_ => ?_) (fun c10_ => ?_)
    · have h := jz_t c10_ h
      refine jr_aload 41 C d_AR_bringUpToDate_41 rfl ?_
      refine jr_iload 43 C d_AR_bringUpToDate_43 rfl ?_
      refine jr_aload_n 45 C d_AR_bringUpToDate_45 rfl ?_
      refine gf_AR_40 46 C d_AR_bringUpToDate_46 ?_
      refine jr_aload_n 49 C d_AR_bringUpToDate_49 rfl ?_
      refine gf_AR_19 50 C d_AR_bringUpToDate_50 ?_
      refine jr_iload_n 53 C d_AR_bringUpToDate_53 rfl ?_
      obtain ⟨v11_, ev11_, h⟩ := jz_b h
      refine jr_callVN 54 [.int a1] C d_AR_bringUpToDate_54 (c_Wi_circuitsOf (xz_l X) C.2.2.2.2.2.2.1  ev11_) sz_Wi_circuitsOf tz_Wi_circuitsOf lk_AR_55 oz_Wi rfl (by decide) rfl rfl (Nat.le_of_ble_eq_true rfl) rfl ?_
      obtain ⟨v12_, ev12_, h⟩ := jz_b h
      refine jr_callVN 57 [.int v2_, .ref (gz_ad (cz_G Z) 146), .int v11_] C d_AR_bringUpToDate_57 (c_Ba_renew (xz_l X) C.2.2.2.2.2.2.1 (kr_AR_baseOf ev1_) ev12_) sz_Ba_renew tz_Ba_renew lk_AR_231 (oz_Ba (kr_AR_baseOf ev1_)) rfl (by decide) rfl rfl (Nat.le_of_ble_eq_true rfl) rfl ?_
      refine jr_iconst 60 1 C d_AR_bringUpToDate_60 (by decide) ?_
      obtain rfl := Option.some.inj h
      exact jr_zret 61 (v := 1) C d_AR_bringUpToDate_61 rfl nb_1
    · have h := jz_f c10_ h
      refine jr_iconst 39 0 C d_AR_bringUpToDate_39 (by decide) ?_
      obtain rfl := Option.some.inj h
      exact jr_zret 40 (v := 0) C d_AR_bringUpToDate_40 rfl nb_0
abbrev rm_AR_describe : Room := { frames := 6, cells := 0, slots := 0, locals := 139 }
abbrev cd_AR_describe : Cond := .code y_AR_describe b_AR_describe 5 (some .int)
def f_AR_describe_38 (k21 : Int32 → Int32 → Int32 → jz_M → Option (Int32 × jz_M)) : Nat → Int32 → Int32 → Int32 → Int32 → jz_M → Option (Int32 × jz_M)
  | 0, _, _, _, _, _ => none
  | fu + 1, x1, x2, x3, x4, m =>
    if 7 ≤ x4 then
      jz_n (x3 + 1) fun x2_ =>
      k21 x1 x2 x2_ m
    else
      (f_AR_bringUpToDate x1 x3 x4 m).bind fun v3_ =>
      if v3_.1 = 0 then
        jz_n (x4 + 1) fun x5_ =>
        f_AR_describe_38 k21 fu x1 x2 x3 x5_ v3_.2
      else
        jz_n (x2 + 1) fun x6_ =>
        jz_n (x4 + 1) fun x7_ =>
        f_AR_describe_38 k21 fu x1 x6_ x3 x7_ v3_.2
set_option maxHeartbeats 4000000 in
set_option maxRecDepth 100000 in
theorem t_AR_describe_38 {Z : cz_Z} {X : jz_X} {r : Int32 × jz_M} (C : jz_C X 5 b_AR_describe R_AR (some .int) rm_AR_describe (cz_G Z)) (k21 : Int32 → Int32 → Int32 → jz_M → Option (Int32 × jz_M)) (hk21 : ∀ (x1 : Int32) (x2 : Int32) (x3 : Int32) (m : jz_M), k21 x1 x2 x3 m = some r → jz_J X 5 (cz_G Z) (jz_q X (cz_G Z) (some (.int r.1)) r.2) m [(0, .ref (gz_ad (cz_G Z) 0)), (1, .int x1), (2, .int x2), (3, .int x3)] 21 []) : ∀ (fu : Nat) (x1 : Int32) (x2 : Int32) (x3 : Int32) (x4 : Int32) (m : jz_M) , f_AR_describe_38 k21 fu x1 x2 x3 x4 m = some r → jz_J X 5 (cz_G Z) (jz_q X (cz_G Z) (some (.int r.1)) r.2) m [(0, .ref (gz_ad (cz_G Z) 0)), (1, .int x1), (2, .int x2), (3, .int x3), (4, .int x4)] 38 [] := by
  intro fu
  induction fu with
  | zero => intro x1 x2 x3 x4 m h; cases h
  | succ fu ih =>
    intro x1 x2 x3 x4 m h
    rw [f_AR_describe_38] at h
    refine jr_iload 38 C d_AR_describe_38 rfl ?_
    refine jr_bipush 40 7 C d_AR_describe_40 (by decide) ?_
    refine jr_icmp_ge 42 65 C d_AR_describe_42 (by decide) (fun c1_ => ?_) (fun c1_ => ?_)
    · have h := jz_t c1_ h
      obtain ⟨x2_, ex2_, h⟩ := jz_ne h
      refine jr_iinc 65 [(0, .ref (gz_ad (cz_G Z) 0)), (1, .int x1), (2, .int x2), (3, .int x2_), (4, .int x4)] C d_AR_describe_65 rfl (by decide) rfl (by rw [ex2_]; rfl) rfl ?_
      refine jr_goto 68 21 C d_AR_describe_68 (by decide) ?_
      refine jr_sub [0, 1, 2, 3] rfl ?_
      exact hk21 x1 x2 x2_ m  h
    · have h := jz_f c1_ h
      refine jr_aload_n 45 C d_AR_describe_45 rfl ?_
      refine jr_iload_n 46 C d_AR_describe_46 rfl ?_
      refine jr_iload_n 47 C d_AR_describe_47 rfl ?_
      refine jr_iload 48 C d_AR_describe_48 rfl ?_
      obtain ⟨v3_, ev3_, h⟩ := jz_b h
      refine jr_callV 50 [.int x1, .int x3, .int x4] C d_AR_describe_50 (c_AR_bringUpToDate (xz_l X) C.2.2.2.2.2.2.1  ev3_) sz_AR_bringUpToDate tz_AR_bringUpToDate lk_AR_137 oz_AR rfl (by decide) rfl rfl (Nat.le_of_ble_eq_true rfl) rfl ?_
      refine jr_if_eq 53 59 C d_AR_describe_53 (by decide) (fun c4_ => ?_) (fun c4_ => ?_)
      · have h := jz_t c4_ h
        obtain ⟨x5_, ex5_, h⟩ := jz_ne h
        refine jr_iinc 59 [(0, .ref (gz_ad (cz_G Z) 0)), (1, .int x1), (2, .int x2), (3, .int x3), (4, .int x5_)] C d_AR_describe_59 rfl (by decide) rfl (by rw [ex5_]; rfl) rfl ?_
        refine jr_goto 62 38 C d_AR_describe_62 (by decide) ?_
        refine jr_sub [0, 1, 2, 3, 4] rfl ?_
        exact ih x1 x2 x3 x5_ v3_.2  h
      · have h := jz_f c4_ h
        obtain ⟨x6_, ex6_, h⟩ := jz_ne h
        refine jr_iinc 56 [(0, .ref (gz_ad (cz_G Z) 0)), (1, .int x1), (2, .int x6_), (3, .int x3), (4, .int x4)] C d_AR_describe_56 rfl (by decide) rfl (by rw [ex6_]; rfl) rfl ?_
        obtain ⟨x7_, ex7_, h⟩ := jz_ne h
        refine jr_iinc 59 [(0, .ref (gz_ad (cz_G Z) 0)), (1, .int x1), (2, .int x6_), (3, .int x3), (4, .int x7_)] C d_AR_describe_59 rfl (by decide) rfl (by rw [ex7_]; rfl) rfl ?_
        refine jr_goto 62 38 C d_AR_describe_62 (by decide) ?_
        refine jr_sub [0, 1, 2, 3, 4] rfl ?_
        exact ih x1 x6_ x3 x7_ v3_.2  h
def f_AR_describe_21 : Nat → Int32 → Int32 → Int32 → jz_M → Option (Int32 × jz_M)
  | 0, _, _, _, _ => none
  | fu + 1, x1, x2, x3, m =>
    if 2 < x3 then
      some (x2, m)
    else
      (f_AR_hasLevel x1 x3 m).bind fun v2_ =>
      if v2_ = 0 then
        jz_n (x3 + 1) fun x4_ =>
        f_AR_describe_21 fu x1 x2 x4_ m
      else
        f_AR_describe_38 (f_AR_describe_21 fu) 1000 x1 x2 x3 0 m
set_option maxHeartbeats 4000000 in
set_option maxRecDepth 100000 in
theorem t_AR_describe_21 {Z : cz_Z} {X : jz_X} {r : Int32 × jz_M} (C : jz_C X 5 b_AR_describe R_AR (some .int) rm_AR_describe (cz_G Z)) : ∀ (fu : Nat) (x1 : Int32) (x2 : Int32) (x3 : Int32) (m : jz_M) , f_AR_describe_21 fu x1 x2 x3 m = some r → jz_J X 5 (cz_G Z) (jz_q X (cz_G Z) (some (.int r.1)) r.2) m [(0, .ref (gz_ad (cz_G Z) 0)), (1, .int x1), (2, .int x2), (3, .int x3)] 21 [] := by
  intro fu
  induction fu with
  | zero => intro x1 x2 x3 m h; cases h
  | succ fu ih =>
    intro x1 x2 x3 m h
    rw [f_AR_describe_21] at h
    refine jr_iload_n 21 C d_AR_describe_21 rfl ?_
    refine jr_iconst 22 2 C d_AR_describe_22 (by decide) ?_
    refine jr_icmp_gt 23 71 C d_AR_describe_23 (by decide) (fun c1_ => ?_) (fun c1_ => ?_)
    · have h := jz_t c1_ h
      refine jr_iload_n 71 C d_AR_describe_71 rfl ?_
      obtain rfl := Option.some.inj h
      exact jr_iret 72 (v := x2) C d_AR_describe_72 rfl
    · have h := jz_f c1_ h
      refine jr_aload_n 26 C d_AR_describe_26 rfl ?_
      refine jr_iload_n 27 C d_AR_describe_27 rfl ?_
      refine jr_iload_n 28 C d_AR_describe_28 rfl ?_
      obtain ⟨v2_, ev2_, h⟩ := jz_b h
      refine jr_callV 29 [.int x1, .int x3] C d_AR_describe_29 (c_AR_hasLevel (xz_l X) C.2.2.2.2.2.2.1  ev2_) sz_AR_hasLevel tz_AR_hasLevel lk_AR_134 oz_AR rfl (by decide) rfl rfl (Nat.le_of_ble_eq_true rfl) rfl ?_
      refine jr_if_eq 32 65 C d_AR_describe_32 (by decide) (fun c3_ => ?_) (fun c3_ => ?_)
      · have h := jz_t c3_ h
        obtain ⟨x4_, ex4_, h⟩ := jz_ne h
        refine jr_iinc 65 [(0, .ref (gz_ad (cz_G Z) 0)), (1, .int x1), (2, .int x2), (3, .int x4_)] C d_AR_describe_65 rfl (by decide) rfl (by rw [ex4_]; rfl) rfl ?_
        refine jr_goto 68 21 C d_AR_describe_68 (by decide) ?_
        refine jr_sub [0, 1, 2, 3] rfl ?_
        exact ih x1 x2 x4_ m  h
      · have h := jz_f c3_ h
        refine jr_iconst 35 0 C d_AR_describe_35 (by decide) ?_
        refine jr_istore 36 [(0, .ref (gz_ad (cz_G Z) 0)), (1, .int x1), (2, .int x2), (3, .int x3), (4, .int 0)] C d_AR_describe_36 rfl (by decide) rfl ?_
        refine jr_sub [0, 1, 2, 3, 4] rfl ?_
        exact t_AR_describe_38 C (f_AR_describe_21 fu) ih 1000 x1 x2 x3 0 m h
def f_AR_describe (a1 : Int32) (m : jz_M) : Option (Int32 × jz_M) :=
  (f_AR_isRouter a1 m).bind fun v1_ =>
  if ¬ v1_ = 0 then
    f_AR_describe_21 1000 a1 0 1 m
  else
    none
set_option maxHeartbeats 4000000 in
set_option maxRecDepth 100000 in
theorem c_AR_describe {Z : cz_Z} (l : Launch) (hI : jz_I (cz_G Z)) {a1 : Int32} {m : jz_M} {r : Int32 × jz_M} (h : f_AR_describe a1 m = some r) : jz_m l y_AR_describe cd_AR_describe rm_AR_describe (cz_G Z) [.ref (gz_ad (cz_G Z) 0), .int a1] m (some (.int r.1)) r.2 := by
  refine jz_met (own := R_AR) (by decide) rfl hI (Nat.le_of_ble_eq_true rfl) (fun X hX C => ?_)
  subst hX
  show jz_J X 5 (cz_G Z) _ m [(0, .ref (gz_ad (cz_G Z) 0)), (1, .int a1)] 0 []
  unfold f_AR_describe at h
  refine jr_iload_n 0 C d_AR_describe_0 rfl ?_
  obtain ⟨v1_, ev1_, h⟩ := jz_b h
  refine jr_callS 1 [.int a1] C d_AR_describe_1 (c_AR_isRouter (xz_l X) C.2.2.2.2.2.2.1 ev1_) sz_AR_isRouter tz_AR_isRouter lk_AR_51 (by decide) rfl rfl (Nat.le_of_ble_eq_true rfl) rfl ?_
  refine jr_if_ne 4 17 C d_AR_describe_4 (by decide) (fun c2_ => ?_) (fun c2_ => ?_)
  · have h := jz_t c2_ h
    refine jr_iconst 17 0 C d_AR_describe_17 (by decide) ?_
    refine jr_istore_n 18 [(0, .ref (gz_ad (cz_G Z) 0)), (1, .int a1), (2, .int 0)] C d_AR_describe_18 rfl (by decide) rfl ?_
    refine jr_iconst 19 1 C d_AR_describe_19 (by decide) ?_
    refine jr_istore_n 20 [(0, .ref (gz_ad (cz_G Z) 0)), (1, .int a1), (2, .int 0), (3, .int 1)] C d_AR_describe_20 rfl (by decide) rfl ?_
    refine jr_sub [0, 1, 2, 3] rfl ?_
    exact t_AR_describe_21 C  1000 a1 0 1 m h
  · have h := jz_f c2_ h
    cases h
abbrev rm_He_age : Room := { frames := 0, cells := 0, slots := 0, locals := 0 }
abbrev cd_He_age : Cond := .code y_He_age b_He_age 2 none
def f_He_age_2 : Nat → Nat → Int32 → jz_M → Option (jz_M)
  | 0, _, _, _ => none
  | fu + 1, o0, x1, m =>
    if 216 ≤ x1 then
      some m
    else
      (jz_ix 216 x1).bind fun j2_ =>
      if (m (o0 + 1) j2_) ≤ 0 then
        jz_n (x1 + 1) fun x4_ =>
        f_He_age_2 fu o0 x4_ m
      else
        (jz_ix 216 x1).bind fun j5_ =>
        (jz_ix 216 x1).bind fun j6_ =>
        jz_n (jz_up m (o0 + 1) j6_ ((m (o0 + 1) j5_) - 1)) fun m7_ =>
        jz_n (x1 + 1) fun x8_ =>
        f_He_age_2 fu o0 x8_ m7_
set_option maxHeartbeats 4000000 in
set_option maxRecDepth 100000 in
theorem t_He_age_2 {Z : cz_Z} {X : jz_X} {r : jz_M} (C : jz_C X 2 b_He_age R_He none rm_He_age (cz_G Z)) : ∀ (fu : Nat) (o0 : Nat) (x1 : Int32) (m : jz_M) , kz_He o0 → f_He_age_2 fu o0 x1 m = some r → jz_J X 2 (cz_G Z) (jz_q X (cz_G Z) none r) m [(0, .ref (gz_ad (cz_G Z) o0)), (1, .int x1)] 2 [] := by
  intro fu
  induction fu with
  | zero => intro o0 x1 m k0 h; cases h
  | succ fu ih =>
    intro o0 x1 m k0 h
    rw [f_He_age_2] at h
    refine jr_iload_n 2 C d_He_age_2 rfl ?_
    refine jr_sipush 3 216 C d_He_age_3 (by decide) ?_
    refine jr_icmp_ge 6 34 C d_He_age_6 (by decide) (fun c1_ => ?_) (fun c1_ => ?_)
    · have h := jz_t c1_ h
      obtain rfl := Option.some.inj h
      exact jr_vret 34 C d_He_age_34 rfl
    · have h := jz_f c1_ h
      refine jr_aload_n 9 C d_He_age_9 rfl ?_
      refine gf_He_11 10 C d_He_age_10 k0 ?_
      refine jr_iload_n 13 C d_He_age_13 rfl ?_
      obtain ⟨j2_, ej2_, h⟩ := jz_b h
      refine jr_iald 14 C d_He_age_14 (zk_He_ticksLeft k0) ej2_ ?_
      refine jr_if_le 15 28 C d_He_age_15 (by decide) (fun c3_ => ?_) (fun c3_ => ?_)
      · have h := jz_t c3_ h
        obtain ⟨x4_, ex4_, h⟩ := jz_ne h
        refine jr_iinc 28 [(0, .ref (gz_ad (cz_G Z) o0)), (1, .int x4_)] C d_He_age_28 rfl (by decide) rfl (by rw [ex4_]; rfl) rfl ?_
        refine jr_goto 31 2 C d_He_age_31 (by decide) ?_
        refine jr_sub [0, 1] rfl ?_
        exact ih o0 x4_ m k0 h
      · have h := jz_f c3_ h
        refine jr_aload_n 18 C d_He_age_18 rfl ?_
        refine gf_He_11 19 C d_He_age_19 k0 ?_
        refine jr_iload_n 22 C d_He_age_22 rfl ?_
        refine jr_dup2 23 C d_He_age_23 rfl rfl ?_
        obtain ⟨j5_, ej5_, h⟩ := jz_b h
        refine jr_iald 24 C d_He_age_24 (zk_He_ticksLeft k0) ej5_ ?_
        refine jr_iconst 25 1 C d_He_age_25 (by decide) ?_
        refine jr_isub 26 C d_He_age_26 ?_
        obtain ⟨j6_, ej6_, h⟩ := jz_b h
        obtain ⟨m7_, em7_, h⟩ := jz_ne h
        refine jr_iast 27 C d_He_age_27 (zk_He_ticksLeft k0) ej6_ ?_
        refine jr_mem em7_ ?_
        obtain ⟨x8_, ex8_, h⟩ := jz_ne h
        refine jr_iinc 28 [(0, .ref (gz_ad (cz_G Z) o0)), (1, .int x8_)] C d_He_age_28 rfl (by decide) rfl (by rw [ex8_]; rfl) rfl ?_
        refine jr_goto 31 2 C d_He_age_31 (by decide) ?_
        refine jr_sub [0, 1] rfl ?_
        exact ih o0 x8_ m7_ k0 h
def f_He_age (o0 : Nat) (m : jz_M) : Option (jz_M) :=
  f_He_age_2 1000 o0 0 m
set_option maxHeartbeats 4000000 in
set_option maxRecDepth 100000 in
theorem c_He_age {Z : cz_Z} (l : Launch) (hI : jz_I (cz_G Z)) {o0 : Nat} {m : jz_M} {r : jz_M} (ko0 : kz_He o0) (h : f_He_age o0 m = some r) : jz_m l y_He_age cd_He_age rm_He_age (cz_G Z) [.ref (gz_ad (cz_G Z) o0)] m none r := by
  refine jz_met (own := R_He) (by decide) rfl hI (Nat.le_of_ble_eq_true rfl) (fun X hX C => ?_)
  subst hX
  show jz_J X 2 (cz_G Z) _ m [(0, .ref (gz_ad (cz_G Z) o0))] 0 []
  unfold f_He_age at h
  refine jr_iconst 0 0 C d_He_age_0 (by decide) ?_
  refine jr_istore_n 1 [(0, .ref (gz_ad (cz_G Z) o0)), (1, .int 0)] C d_He_age_1 rfl (by decide) rfl ?_
  refine jr_sub [0, 1] rfl ?_
  exact t_He_age_2 C 1000 o0 0 m ko0 h
abbrev rm_Ba_remove : Room := { frames := 0, cells := 0, slots := 0, locals := 0 }
abbrev cd_Ba_remove : Cond := .code y_Ba_remove b_Ba_remove 2 none
def f_Ba_remove (o0 : Nat) (a1 : Int32) (m : jz_M) : Option (jz_M) :=
  (jz_ix 42 a1).bind fun j1_ =>
  jz_n (jz_up m (o0 + 1) j1_ 0) fun m2_ =>
  (jz_ix 42 a1).bind fun j3_ =>
  jz_n (jz_up m2_ (o0 + 7) j3_ 0) fun m4_ =>
  (jz_ix 42 a1).bind fun j5_ =>
  jz_n (jz_up m4_ (o0 + 9) j5_ 0) fun m6_ =>
  (jz_ix 42 a1).bind fun j7_ =>
  jz_n (jz_up m6_ (o0 + 10) j7_ 0) fun m8_ =>
  some m8_
set_option maxHeartbeats 4000000 in
set_option maxRecDepth 100000 in
theorem c_Ba_remove {Z : cz_Z} (l : Launch) (hI : jz_I (cz_G Z)) {o0 : Nat} {a1 : Int32} {m : jz_M} {r : jz_M} (ko0 : kz_Ba o0) (h : f_Ba_remove o0 a1 m = some r) : jz_m l y_Ba_remove cd_Ba_remove rm_Ba_remove (cz_G Z) [.ref (gz_ad (cz_G Z) o0), .int a1] m none r := by
  refine jz_met (own := R_Ba) (by decide) rfl hI (Nat.le_of_ble_eq_true rfl) (fun X hX C => ?_)
  subst hX
  show jz_J X 2 (cz_G Z) _ m [(0, .ref (gz_ad (cz_G Z) o0)), (1, .int a1)] 0 []
  unfold f_Ba_remove at h
  refine jr_aload_n 0 C d_Ba_remove_0 rfl ?_
  refine gf_Ba_9 1 C d_Ba_remove_1 ko0 ?_
  refine jr_iload_n 4 C d_Ba_remove_4 rfl ?_
  refine jr_iconst 5 0 C d_Ba_remove_5 (by decide) ?_
  obtain ⟨j1_, ej1_, h⟩ := jz_b h
  obtain ⟨m2_, em2_, h⟩ := jz_ne h
  refine jr_iast 6 C d_Ba_remove_6 (zk_Ba_sequences ko0) ej1_ ?_
  refine jr_mem em2_ ?_
  refine jr_aload_n 7 C d_Ba_remove_7 rfl ?_
  refine gf_Ba_31 8 C d_Ba_remove_8 ko0 ?_
  refine jr_iload_n 11 C d_Ba_remove_11 rfl ?_
  refine jr_iconst 12 0 C d_Ba_remove_12 (by decide) ?_
  obtain ⟨j3_, ej3_, h⟩ := jz_b h
  obtain ⟨m4_, em4_, h⟩ := jz_ne h
  refine jr_iast 13 C d_Ba_remove_13 (zk_Ba_linkCounts ko0) ej3_ ?_
  refine jr_mem em4_ ?_
  refine jr_aload_n 14 C d_Ba_remove_14 rfl ?_
  refine gf_Ba_37 15 C d_Ba_remove_15 ko0 ?_
  refine jr_iload_n 18 C d_Ba_remove_18 rfl ?_
  refine jr_iconst 19 0 C d_Ba_remove_19 (by decide) ?_
  obtain ⟨j5_, ej5_, h⟩ := jz_b h
  obtain ⟨m6_, em6_, h⟩ := jz_ne h
  refine jr_iast 20 C d_Ba_remove_20 (zk_Ba_due ko0) ej5_ ?_
  refine jr_mem em6_ ?_
  refine jr_aload_n 21 C d_Ba_remove_21 rfl ?_
  refine gf_Ba_40 22 C d_Ba_remove_22 ko0 ?_
  refine jr_iload_n 25 C d_Ba_remove_25 rfl ?_
  refine jr_iconst 26 0 C d_Ba_remove_26 (by decide) ?_
  obtain ⟨j7_, ej7_, h⟩ := jz_b h
  obtain ⟨m8_, em8_, h⟩ := jz_ne h
  refine jr_iast 27 C d_Ba_remove_27 (zk_Ba_asked ko0) ej7_ ?_
  refine jr_mem em8_ ?_
  obtain rfl := Option.some.inj h
  exact jr_vret 28 C d_Ba_remove_28 rfl
abbrev rm_Ba_age : Room := { frames := 1, cells := 0, slots := 0, locals := 22 }
abbrev cd_Ba_age : Cond := .code y_Ba_age b_Ba_age 3 none
def f_Ba_age_2 : Nat → Nat → Int32 → Int32 → jz_M → Option (jz_M)
  | 0, _, _, _, _ => none
  | fu + 1, o0, x1, x2, m =>
    if 42 ≤ x2 then
      some m
    else
      (f_Ba_isAlive o0 x2 m).bind fun v2_ =>
      if v2_ = 0 then
        (f_Ba_has o0 x2 m).bind fun v4_ =>
        if v4_ = 0 then
          jz_n (x2 + 1) fun x6_ =>
          f_Ba_age_2 fu o0 x1 x6_ m
        else
          (jz_ix 42 x2).bind fun j7_ =>
          (jz_ix 42 x2).bind fun j8_ =>
          jz_n (jz_up m (o0 + 4) j8_ ((m (o0 + 4) j7_) + 1)) fun m9_ =>
          (jz_ix 42 x2).bind fun j10_ =>
          if (m9_ (o0 + 4) j10_) < 3 then
            jz_n (x2 + 1) fun x12_ =>
            f_Ba_age_2 fu o0 x1 x12_ m9_
          else
            (f_Ba_remove o0 x2 m9_).bind fun v13_ =>
            jz_n (x2 + 1) fun x14_ =>
            f_Ba_age_2 fu o0 x1 x14_ v13_
      else
        (jz_ix 42 x2).bind fun j15_ =>
        (jz_ix 42 x2).bind fun j16_ =>
        jz_n (jz_up m (o0 + 3) j16_ ((m (o0 + 3) j15_) - 1)) fun m17_ =>
        (f_Ba_isAlive o0 x2 m17_).bind fun v18_ =>
        if ¬ v18_ = 0 then
          jz_n (x2 + 1) fun x20_ =>
          f_Ba_age_2 fu o0 x1 x20_ m17_
        else
          (f_Ba_end o0 x2 x1 m17_).bind fun v21_ =>
          jz_n (x2 + 1) fun x22_ =>
          f_Ba_age_2 fu o0 x1 x22_ v21_
set_option maxHeartbeats 4000000 in
set_option maxRecDepth 100000 in
theorem t_Ba_age_2 {Z : cz_Z} {X : jz_X} {r : jz_M} (C : jz_C X 3 b_Ba_age R_Ba none rm_Ba_age (cz_G Z)) : ∀ (fu : Nat) (o0 : Nat) (x1 : Int32) (x2 : Int32) (m : jz_M) , kz_Ba o0 → f_Ba_age_2 fu o0 x1 x2 m = some r → jz_J X 3 (cz_G Z) (jz_q X (cz_G Z) none r) m [(0, .ref (gz_ad (cz_G Z) o0)), (1, .int x1), (2, .int x2)] 2 [] := by
  intro fu
  induction fu with
  | zero => intro o0 x1 x2 m k0 h; cases h
  | succ fu ih =>
    intro o0 x1 x2 m k0 h
    rw [f_Ba_age_2] at h
    refine jr_iload_n 2 C d_Ba_age_2 rfl ?_
    refine jr_bipush 3 42 C d_Ba_age_3 (by decide) ?_
    refine jr_icmp_ge 5 82 C d_Ba_age_5 (by decide) (fun c1_ => ?_) (fun c1_ => ?_)
    · have h := jz_t c1_ h
      obtain rfl := Option.some.inj h
      exact jr_vret 82 C d_Ba_age_82 rfl
    · have h := jz_f c1_ h
      refine jr_aload_n 8 C d_Ba_age_8 rfl ?_
      refine jr_iload_n 9 C d_Ba_age_9 rfl ?_
      obtain ⟨v2_, ev2_, h⟩ := jz_b h
      refine jr_callV 10 [.int x2] C d_Ba_age_10 (c_Ba_isAlive (xz_l X) C.2.2.2.2.2.2.1 k0 ev2_) sz_Ba_isAlive tz_Ba_isAlive lk_Ba_51 (oz_Ba k0) rfl (by decide) rfl rfl (Nat.le_of_ble_eq_true rfl) rfl ?_
      refine jr_if_eq 13 43 C d_Ba_age_13 (by decide) (fun c3_ => ?_) (fun c3_ => ?_)
      · have h := jz_t c3_ h
        refine jr_aload_n 43 C d_Ba_age_43 rfl ?_
        refine jr_iload_n 44 C d_Ba_age_44 rfl ?_
        obtain ⟨v4_, ev4_, h⟩ := jz_b h
        refine jr_callV 45 [.int x2] C d_Ba_age_45 (c_Ba_has (xz_l X) C.2.2.2.2.2.2.1 k0 ev4_) sz_Ba_has tz_Ba_has lk_Ba_43 (oz_Ba k0) rfl (by decide) rfl rfl (Nat.le_of_ble_eq_true rfl) rfl ?_
        refine jr_if_eq 48 76 C d_Ba_age_48 (by decide) (fun c5_ => ?_) (fun c5_ => ?_)
        · have h := jz_t c5_ h
          obtain ⟨x6_, ex6_, h⟩ := jz_ne h
          refine jr_iinc 76 [(0, .ref (gz_ad (cz_G Z) o0)), (1, .int x1), (2, .int x6_)] C d_Ba_age_76 rfl (by decide) rfl (by rw [ex6_]; rfl) rfl ?_
          refine jr_goto 79 2 C d_Ba_age_79 (by decide) ?_
          refine jr_sub [0, 1, 2] rfl ?_
          exact ih o0 x1 x6_ m k0 h
        · have h := jz_f c5_ h
          refine jr_aload_n 51 C d_Ba_age_51 rfl ?_
          refine gf_Ba_21 52 C d_Ba_age_52 k0 ?_
          refine jr_iload_n 55 C d_Ba_age_55 rfl ?_
          refine jr_dup2 56 C d_Ba_age_56 rfl rfl ?_
          obtain ⟨j7_, ej7_, h⟩ := jz_b h
          refine jr_iald 57 C d_Ba_age_57 (zk_Ba_ticksAtRest k0) ej7_ ?_
          refine jr_iconst 58 1 C d_Ba_age_58 (by decide) ?_
          refine jr_iadd 59 C d_Ba_age_59 ?_
          obtain ⟨j8_, ej8_, h⟩ := jz_b h
          obtain ⟨m9_, em9_, h⟩ := jz_ne h
          refine jr_iast 60 C d_Ba_age_60 (zk_Ba_ticksAtRest k0) ej8_ ?_
          refine jr_mem em9_ ?_
          refine jr_aload_n 61 C d_Ba_age_61 rfl ?_
          refine gf_Ba_21 62 C d_Ba_age_62 k0 ?_
          refine jr_iload_n 65 C d_Ba_age_65 rfl ?_
          obtain ⟨j10_, ej10_, h⟩ := jz_b h
          refine jr_iald 66 C d_Ba_age_66 (zk_Ba_ticksAtRest k0) ej10_ ?_
          refine jr_iconst 67 3 C d_Ba_age_67 (by decide) ?_
          refine jr_icmp_lt 68 76 C d_Ba_age_68 (by decide) (fun c11_ => ?_) (fun c11_ => ?_)
          · have h := jz_t c11_ h
            obtain ⟨x12_, ex12_, h⟩ := jz_ne h
            refine jr_iinc 76 [(0, .ref (gz_ad (cz_G Z) o0)), (1, .int x1), (2, .int x12_)] C d_Ba_age_76 rfl (by decide) rfl (by rw [ex12_]; rfl) rfl ?_
            refine jr_goto 79 2 C d_Ba_age_79 (by decide) ?_
            refine jr_sub [0, 1, 2] rfl ?_
            exact ih o0 x1 x12_ m9_ k0 h
          · have h := jz_f c11_ h
            refine jr_aload_n 71 C d_Ba_age_71 rfl ?_
            refine jr_iload_n 72 C d_Ba_age_72 rfl ?_
            obtain ⟨v13_, ev13_, h⟩ := jz_b h
            refine jr_callV 73 [.int x2] C d_Ba_age_73 (c_Ba_remove (xz_l X) C.2.2.2.2.2.2.1 k0 ev13_) sz_Ba_remove tz_Ba_remove lk_Ba_96 (oz_Ba k0) rfl (by decide) rfl rfl (Nat.le_of_ble_eq_true rfl) rfl ?_
            obtain ⟨x14_, ex14_, h⟩ := jz_ne h
            refine jr_iinc 76 [(0, .ref (gz_ad (cz_G Z) o0)), (1, .int x1), (2, .int x14_)] C d_Ba_age_76 rfl (by decide) rfl (by rw [ex14_]; rfl) rfl ?_
            refine jr_goto 79 2 C d_Ba_age_79 (by decide) ?_
            refine jr_sub [0, 1, 2] rfl ?_
            exact ih o0 x1 x14_ v13_ k0 h
      · have h := jz_f c3_ h
        refine jr_aload_n 16 C d_Ba_age_16 rfl ?_
        refine gf_Ba_18 17 C d_Ba_age_17 k0 ?_
        refine jr_iload_n 20 C d_Ba_age_20 rfl ?_
        refine jr_dup2 21 C d_Ba_age_21 rfl rfl ?_
        obtain ⟨j15_, ej15_, h⟩ := jz_b h
        refine jr_iald 22 C d_Ba_age_22 (zk_Ba_lives k0) ej15_ ?_
        refine jr_iconst 23 1 C d_Ba_age_23 (by decide) ?_
        refine jr_isub 24 C d_Ba_age_24 ?_
        obtain ⟨j16_, ej16_, h⟩ := jz_b h
        obtain ⟨m17_, em17_, h⟩ := jz_ne h
        refine jr_iast 25 C d_Ba_age_25 (zk_Ba_lives k0) ej16_ ?_
        refine jr_mem em17_ ?_
        refine jr_aload_n 26 C d_Ba_age_26 rfl ?_
        refine jr_iload_n 27 C d_Ba_age_27 rfl ?_
        obtain ⟨v18_, ev18_, h⟩ := jz_b h
        refine jr_callV 28 [.int x2] C d_Ba_age_28 (c_Ba_isAlive (xz_l X) C.2.2.2.2.2.2.1 k0 ev18_) sz_Ba_isAlive tz_Ba_isAlive lk_Ba_51 (oz_Ba k0) rfl (by decide) rfl rfl (Nat.le_of_ble_eq_true rfl) rfl ?_
        refine jr_if_ne 31 76 C d_Ba_age_31 (by decide) (fun c19_ => ?_) (fun c19_ => ?_)
        · have h := jz_t c19_ h
          obtain ⟨x20_, ex20_, h⟩ := jz_ne h
          refine jr_iinc 76 [(0, .ref (gz_ad (cz_G Z) o0)), (1, .int x1), (2, .int x20_)] C d_Ba_age_76 rfl (by decide) rfl (by rw [ex20_]; rfl) rfl ?_
          refine jr_goto 79 2 C d_Ba_age_79 (by decide) ?_
          refine jr_sub [0, 1, 2] rfl ?_
          exact ih o0 x1 x20_ m17_ k0 h
        · have h := jz_f c19_ h
          refine jr_aload_n 34 C d_Ba_age_34 rfl ?_
          refine jr_iload_n 35 C d_Ba_age_35 rfl ?_
          refine jr_iload_n 36 C d_Ba_age_36 rfl ?_
          obtain ⟨v21_, ev21_, h⟩ := jz_b h
          refine jr_callV 37 [.int x2, .int x1] C d_Ba_age_37 (c_Ba_end (xz_l X) C.2.2.2.2.2.2.1 k0 ev21_) sz_Ba_end tz_Ba_end lk_Ba_92 (oz_Ba k0) rfl (by decide) rfl rfl (Nat.le_of_ble_eq_true rfl) rfl ?_
          refine jr_goto 40 76 C d_Ba_age_40 (by decide) ?_
          obtain ⟨x22_, ex22_, h⟩ := jz_ne h
          refine jr_iinc 76 [(0, .ref (gz_ad (cz_G Z) o0)), (1, .int x1), (2, .int x22_)] C d_Ba_age_76 rfl (by decide) rfl (by rw [ex22_]; rfl) rfl ?_
          refine jr_goto 79 2 C d_Ba_age_79 (by decide) ?_
          refine jr_sub [0, 1, 2] rfl ?_
          exact ih o0 x1 x22_ v21_ k0 h
def f_Ba_age (o0 : Nat) (a1 : Int32) (m : jz_M) : Option (jz_M) :=
  f_Ba_age_2 1000 o0 a1 0 m
set_option maxHeartbeats 4000000 in
set_option maxRecDepth 100000 in
theorem c_Ba_age {Z : cz_Z} (l : Launch) (hI : jz_I (cz_G Z)) {o0 : Nat} {a1 : Int32} {m : jz_M} {r : jz_M} (ko0 : kz_Ba o0) (h : f_Ba_age o0 a1 m = some r) : jz_m l y_Ba_age cd_Ba_age rm_Ba_age (cz_G Z) [.ref (gz_ad (cz_G Z) o0), .int a1] m none r := by
  refine jz_met (own := R_Ba) (by decide) rfl hI (Nat.le_of_ble_eq_true rfl) (fun X hX C => ?_)
  subst hX
  show jz_J X 3 (cz_G Z) _ m [(0, .ref (gz_ad (cz_G Z) o0)), (1, .int a1)] 0 []
  unfold f_Ba_age at h
  refine jr_iconst 0 0 C d_Ba_age_0 (by decide) ?_
  refine jr_istore_n 1 [(0, .ref (gz_ad (cz_G Z) o0)), (1, .int a1), (2, .int 0)] C d_Ba_age_1 rfl (by decide) rfl ?_
  refine jr_sub [0, 1, 2] rfl ?_
  exact t_Ba_age_2 C 1000 o0 a1 0 m ko0 h
