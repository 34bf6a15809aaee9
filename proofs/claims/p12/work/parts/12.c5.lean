abbrev rm_AR_receive : Room := { frames := 6, cells := 0, slots := 0, locals := 138 }
abbrev cd_AR_receive : Cond := .code y_AR_receive b_AR_receive 8 none
def f_AR_receive_100 (x2 : Int32) (x5 : Int32) (o6 : Nat) (m : jz_M) : Option (jz_M) :=
  (f_Ba_setDue o6 x5 x2 0 m).bind fun v1_ =>
  (f_Wi_isShared x2 v1_).bind fun v2_ =>
  if ¬ v2_ = 0 then
    some v1_
  else
    (f_Ba_setAsked o6 x5 x2 1 v1_).bind fun v4_ =>
    some v4_
set_option maxHeartbeats 4000000 in
set_option maxRecDepth 100000 in
theorem t_AR_receive_100 {Z : cz_Z} {X : jz_X} {r : jz_M} (C : jz_C X 8 b_AR_receive R_AR none rm_AR_receive (cz_G Z)) : ∀ (x2 : Int32) (x5 : Int32) (o6 : Nat) (m : jz_M) , kz_Ba o6 → f_AR_receive_100 x2 x5 o6 m = some r → jz_J X 8 (cz_G Z) (jz_q X (cz_G Z) none r) m [(0, .ref (gz_ad (cz_G Z) 0)), (2, .int x2), (5, .int x5), (6, .ref (gz_ad (cz_G Z) o6))] 100 [] := by
  intro x2 x5 o6 m k6 h
  unfold f_AR_receive_100 at h
  refine jr_aload 100 C d_AR_receive_100 rfl ?_
  refine jr_iload 102 C d_AR_receive_102 rfl ?_
  refine jr_iload_n 104 C d_AR_receive_104 rfl ?_
  refine jr_iconst 105 0 C d_AR_receive_105 (by decide) ?_
  obtain ⟨v1_, ev1_, h⟩ := jz_b h
  refine jr_callVN 106 [.int x5, .int x2, .int 0] C d_AR_receive_106 (c_Ba_setDue (xz_l X) C.2.2.2.2.2.2.1 k6 ev1_) sz_Ba_setDue tz_Ba_setDue lk_AR_105 (oz_Ba k6) rfl (by decide) rfl rfl (Nat.le_of_ble_eq_true rfl) rfl ?_
  refine jr_aload_n 109 C d_AR_receive_109 rfl ?_
  refine gf_AR_19 110 C d_AR_receive_110 ?_
  refine jr_iload_n 113 C d_AR_receive_113 rfl ?_
  obtain ⟨v2_, ev2_, h⟩ := jz_b h
  refine jr_callVN 114 [.int x2] C d_AR_receive_114 (c_Wi_isShared (xz_l X) C.2.2.2.2.2.2.1 ev2_) sz_Wi_isShared tz_Wi_isShared lk_AR_102 oz_Wi rfl (by decide) rfl rfl (Nat.le_of_ble_eq_true rfl) rfl ?_
  refine jr_if_ne 117 129 C d_AR_receive_117 (by decide) (fun c3_ => ?_) (fun c3_ => ?_)
  · have h := jz_t c3_ h
    obtain rfl := Option.some.inj h
    exact jr_vret 129 C d_AR_receive_129 rfl
  · have h := jz_f c3_ h
    refine jr_aload 120 C d_AR_receive_120 rfl ?_
    refine jr_iload 122 C d_AR_receive_122 rfl ?_
    refine jr_iload_n 124 C d_AR_receive_124 rfl ?_
    refine jr_iconst 125 1 C d_AR_receive_125 (by decide) ?_
    obtain ⟨v4_, ev4_, h⟩ := jz_b h
    refine jr_callVN 126 [.int x5, .int x2, .int 1] C d_AR_receive_126 (c_Ba_setAsked (xz_l X) C.2.2.2.2.2.2.1 k6 ev4_) sz_Ba_setAsked tz_Ba_setAsked lk_AR_120 (oz_Ba k6) rfl (by decide) rfl rfl (Nat.le_of_ble_eq_true rfl) rfl ?_
    obtain rfl := Option.some.inj h
    exact jr_vret 129 C d_AR_receive_129 rfl
def f_AR_receive_85 (x1 : Int32) (x2 : Int32) (x5 : Int32) (o6 : Nat) (m : jz_M) : Option (jz_M) :=
  (f_Wi_circuitsOf x1 m).bind fun v1_ =>
  (f_Ba_setDueOn o6 x5 v1_ m).bind fun v2_ =>
  f_AR_receive_100 x2 x5 o6 v2_
set_option maxHeartbeats 4000000 in
set_option maxRecDepth 100000 in
theorem t_AR_receive_85 {Z : cz_Z} {X : jz_X} {r : jz_M} (C : jz_C X 8 b_AR_receive R_AR none rm_AR_receive (cz_G Z)) : ∀ (x1 : Int32) (x2 : Int32) (x5 : Int32) (o6 : Nat) (m : jz_M) , kz_Ba o6 → f_AR_receive_85 x1 x2 x5 o6 m = some r → jz_J X 8 (cz_G Z) (jz_q X (cz_G Z) none r) m [(0, .ref (gz_ad (cz_G Z) 0)), (1, .int x1), (2, .int x2), (5, .int x5), (6, .ref (gz_ad (cz_G Z) o6))] 85 [] := by
  intro x1 x2 x5 o6 m k6 h
  unfold f_AR_receive_85 at h
  refine jr_aload 85 C d_AR_receive_85 rfl ?_
  refine jr_iload 87 C d_AR_receive_87 rfl ?_
  refine jr_aload_n 89 C d_AR_receive_89 rfl ?_
  refine gf_AR_19 90 C d_AR_receive_90 ?_
  refine jr_iload_n 93 C d_AR_receive_93 rfl ?_
  obtain ⟨v1_, ev1_, h⟩ := jz_b h
  refine jr_callVN 94 [.int x1] C d_AR_receive_94 (c_Wi_circuitsOf (xz_l X) C.2.2.2.2.2.2.1 ev1_) sz_Wi_circuitsOf tz_Wi_circuitsOf lk_AR_55 oz_Wi rfl (by decide) rfl rfl (Nat.le_of_ble_eq_true rfl) rfl ?_
  obtain ⟨v2_, ev2_, h⟩ := jz_b h
  refine jr_callVN 97 [.int x5, .int v1_] C d_AR_receive_97 (c_Ba_setDueOn (xz_l X) C.2.2.2.2.2.2.1 k6 ev2_) sz_Ba_setDueOn tz_Ba_setDueOn lk_AR_254 (oz_Ba k6) rfl (by decide) rfl rfl (Nat.le_of_ble_eq_true rfl) rfl ?_
  refine jr_sub [0, 2, 3, 4] rfl ?_
  exact t_AR_receive_100 C x2 x5 o6 v2_ k6 h
def f_AR_receive (a1 : Int32) (a2 : Int32) (a3 : Int32) (o4 : Nat) (a5 : Int32) (m : jz_M) : Option (jz_M) :=
  (f_AR_baseOf a1 a3 m).bind fun v1_ =>
  (f_Ba_orderAgainst v1_ o4 a5 m).bind fun v2_ =>
  if v2_ ≤ 0 then
    if 0 ≤ v2_ then
      f_AR_receive_100 a2 a5 v1_ m
    else
      (f_Ba_copyFrom v1_ o4 a5 m).bind fun v5_ =>
      (f_AR_routerOf a5 v5_).bind fun v6_ =>
      if ¬ v6_ = a1 then
        f_AR_receive_85 a1 a2 a5 v1_ v5_
      else
        (f_Ba_isAlive v1_ a5 v5_).bind fun v8_ =>
        if v8_ = 0 then
          f_AR_receive_85 a1 a2 a5 v1_ v5_
        else
          (f_AR_answerForOwn a1 a3 a5 v5_).bind fun v10_ =>
          some v10_
  else
    (f_Ba_setDue v1_ a5 a2 1 m).bind fun v11_ =>
    (f_Ba_setAsked v1_ a5 a2 0 v11_).bind fun v12_ =>
    some v12_
set_option maxHeartbeats 4000000 in
set_option maxRecDepth 100000 in
theorem c_AR_receive {Z : cz_Z} (l : Launch) (hI : jz_I (cz_G Z)) {a1 : Int32} {a2 : Int32} {a3 : Int32} {o4 : Nat} {a5 : Int32} {m : jz_M} {r : jz_M} (ko4 : kz_Ba o4) (h : f_AR_receive a1 a2 a3 o4 a5 m = some r) : jz_m l y_AR_receive cd_AR_receive rm_AR_receive (cz_G Z) [.ref (gz_ad (cz_G Z) 0), .int a1, .int a2, .int a3, .ref (gz_ad (cz_G Z) o4), .int a5] m none r := by
  refine jz_met (own := R_AR) (by decide) rfl hI (Nat.le_of_ble_eq_true rfl) (fun X hX C => ?_)
  subst hX
  show jz_J X 8 (cz_G Z) _ m [(0, .ref (gz_ad (cz_G Z) 0)), (1, .int a1), (2, .int a2), (3, .int a3), (4, .ref (gz_ad (cz_G Z) o4)), (5, .int a5)] 0 []
  unfold f_AR_receive at h
  refine jr_aload_n 0 C d_AR_receive_0 rfl ?_
  refine jr_iload_n 1 C d_AR_receive_1 rfl ?_
  refine jr_iload_n 2 C d_AR_receive_2 rfl ?_
  obtain ⟨v1_, ev1_, h⟩ := jz_b h
  refine jr_callV 3 [.int a1, .int a3] C d_AR_receive_3 (c_AR_baseOf (xz_l X) C.2.2.2.2.2.2.1 ev1_) sz_AR_baseOf tz_AR_baseOf lk_AR_87 oz_AR rfl (by decide) rfl rfl (Nat.le_of_ble_eq_true rfl) rfl ?_
  refine jr_astore 6 [(0, .ref (gz_ad (cz_G Z) 0)), (1, .int a1), (2, .int a2), (3, .int a3), (4, .ref (gz_ad (cz_G Z) o4)), (5, .int a5), (6, .ref (gz_ad (cz_G Z) v1_))] C d_AR_receive_6 rfl (by decide) rfl ?_
  refine jr_aload 8 C d_AR_receive_8 rfl ?_
  refine jr_aload 10 C d_AR_receive_10 rfl ?_
  refine jr_iload 12 C d_AR_receive_12 rfl ?_
  obtain ⟨v2_, ev2_, h⟩ := jz_b h
  refine jr_callVN 14 [.ref (gz_ad (cz_G Z) o4), .int a5] C d_AR_receive_14 (c_Ba_orderAgainst (xz_l X) C.2.2.2.2.2.2.1 (kr_AR_baseOf ev1_) ko4 ev2_) sz_Ba_orderAgainst tz_Ba_orderAgainst lk_AR_241 (oz_Ba (kr_AR_baseOf ev1_)) rfl (by decide) rfl rfl (Nat.le_of_ble_eq_true rfl) rfl ?_
  refine jr_istore 17 [(0, .ref (gz_ad (cz_G Z) 0)), (1, .int a1), (2, .int a2), (3, .int a3), (4, .ref (gz_ad (cz_G Z) o4)), (5, .int a5), (6, .ref (gz_ad (cz_G Z) v1_)), (7, .int v2_)] C d_AR_receive_17 rfl (by decide) rfl ?_
  refine jr_iload 19 C d_AR_receive_19 rfl ?_
  refine jr_if_le 21 43 C d_AR_receive_21 (by decide) (fun c3_ => ?_) (fun c3_ => ?_)
  · have h := jz_t c3_ h
    refine jr_iload 43 C d_AR_receive_43 rfl ?_
    refine jr_if_ge 45 100 C d_AR_receive_45 (by decide) (fun c4_ => ?_) (fun c4_ => ?_)
    · have h := jz_t c4_ h
      refine jr_sub [0, 2, 5, 6] rfl ?_
      exact t_AR_receive_100 C  a2 a5 v1_ m (kr_AR_baseOf ev1_) h
    · have h := jz_f c4_ h
      refine jr_aload 48 C d_AR_receive_48 rfl ?_
      refine jr_aload 50 C d_AR_receive_50 rfl ?_
      refine jr_iload 52 C d_AR_receive_52 rfl ?_
      obtain ⟨v5_, ev5_, h⟩ := jz_b h
      refine jr_callVN 54 [.ref (gz_ad (cz_G Z) o4), .int a5] C d_AR_receive_54 (c_Ba_copyFrom (xz_l X) C.2.2.2.2.2.2.1 (kr_AR_baseOf ev1_) ko4 ev5_) sz_Ba_copyFrom tz_Ba_copyFrom lk_AR_245 (oz_Ba (kr_AR_baseOf ev1_)) rfl (by decide) rfl rfl (Nat.le_of_ble_eq_true rfl) rfl ?_
      refine jr_iload 57 C d_AR_receive_57 rfl ?_
      obtain ⟨v6_, ev6_, h⟩ := jz_b h
      refine jr_callS 59 [.int a5] C d_AR_receive_59 (c_AR_routerOf (xz_l X) C.2.2.2.2.2.2.1  ev6_) sz_AR_routerOf tz_AR_routerOf lk_AR_248 (by decide) rfl rfl (Nat.le_of_ble_eq_true rfl) rfl ?_
      refine jr_iload_n 62 C d_AR_receive_62 rfl ?_
      refine jr_icmp_ne 63 85 C d_AR_receive_63 (by decide) (fun c7_ => ?_) (fun c7_ => ?_)
      · have h := jz_t c7_ h
        refine jr_sub [0, 1, 2, 5, 6] rfl ?_
        exact t_AR_receive_85 C  a1 a2 a5 v1_ v5_ (kr_AR_baseOf ev1_) h
      · have h := jz_f c7_ h
        refine jr_aload 66 C d_AR_receive_66 rfl ?_
        refine jr_iload 68 C d_AR_receive_68 rfl ?_
        obtain ⟨v8_, ev8_, h⟩ := jz_b h
        refine jr_callVN 70 [.int a5] C d_AR_receive_70 (c_Ba_isAlive (xz_l X) C.2.2.2.2.2.2.1 (kr_AR_baseOf ev1_) ev8_) sz_Ba_isAlive tz_Ba_isAlive lk_AR_235 (oz_Ba (kr_AR_baseOf ev1_)) rfl (by decide) rfl rfl (Nat.le_of_ble_eq_true rfl) rfl ?_
        refine jr_if_eq 73 85 C d_AR_receive_73 (by decide) (fun c9_ => ?_) (fun c9_ => ?_)
        · have h := jz_t c9_ h
          refine jr_sub [0, 1, 2, 5, 6] rfl ?_
          exact t_AR_receive_85 C  a1 a2 a5 v1_ v5_ (kr_AR_baseOf ev1_) h
        · have h := jz_f c9_ h
          refine jr_aload_n 76 C d_AR_receive_76 rfl ?_
          refine jr_iload_n 77 C d_AR_receive_77 rfl ?_
          refine jr_iload_n 78 C d_AR_receive_78 rfl ?_
          refine jr_iload 79 C d_AR_receive_79 rfl ?_
          obtain ⟨v10_, ev10_, h⟩ := jz_b h
          refine jr_callV 81 [.int a1, .int a3, .int a5] C d_AR_receive_81 (c_AR_answerForOwn (xz_l X) C.2.2.2.2.2.2.1  ev10_) sz_AR_answerForOwn tz_AR_answerForOwn lk_AR_251 oz_AR rfl (by decide) rfl rfl (Nat.le_of_ble_eq_true rfl) rfl ?_
          obtain rfl := Option.some.inj h
          exact jr_vret 84 C d_AR_receive_84 rfl
  · have h := jz_f c3_ h
    refine jr_aload 24 C d_AR_receive_24 rfl ?_
    refine jr_iload 26 C d_AR_receive_26 rfl ?_
    refine jr_iload_n 28 C d_AR_receive_28 rfl ?_
    refine jr_iconst 29 1 C d_AR_receive_29 (by decide) ?_
    obtain ⟨v11_, ev11_, h⟩ := jz_b h
    refine jr_callVN 30 [.int a5, .int a2, .int 1] C d_AR_receive_30 (c_Ba_setDue (xz_l X) C.2.2.2.2.2.2.1 (kr_AR_baseOf ev1_) ev11_) sz_Ba_setDue tz_Ba_setDue lk_AR_105 (oz_Ba (kr_AR_baseOf ev1_)) rfl (by decide) rfl rfl (Nat.le_of_ble_eq_true rfl) rfl ?_
    refine jr_aload 33 C d_AR_receive_33 rfl ?_
    refine jr_iload 35 C d_AR_receive_35 rfl ?_
    refine jr_iload_n 37 C d_AR_receive_37 rfl ?_
    refine jr_iconst 38 0 C d_AR_receive_38 (by decide) ?_
    obtain ⟨v12_, ev12_, h⟩ := jz_b h
    refine jr_callVN 39 [.int a5, .int a2, .int 0] C d_AR_receive_39 (c_Ba_setAsked (xz_l X) C.2.2.2.2.2.2.1 (kr_AR_baseOf ev1_) ev12_) sz_Ba_setAsked tz_Ba_setAsked lk_AR_120 (oz_Ba (kr_AR_baseOf ev1_)) rfl (by decide) rfl rfl (Nat.le_of_ble_eq_true rfl) rfl ?_
    obtain rfl := Option.some.inj h
    exact jr_vret 42 C d_AR_receive_42 rfl
abbrev rm_AR_spread : Room := { frames := 7, cells := 0, slots := 0, locals := 165 }
abbrev cd_AR_spread : Cond := .code y_AR_spread b_AR_spread 9 (some .int)
def f_AR_spread_50 (k26 : Int32 → Int32 → Int32 → Int32 → Nat → Int32 → Int32 → jz_M → Option (Int32 × jz_M)) : Nat → Int32 → Int32 → Int32 → Int32 → Nat → Int32 → Int32 → Int32 → jz_M → Option (Int32 × jz_M)
  | 0, _, _, _, _, _, _, _, _, _ => none
  | fu + 1, x1, x2, x3, x4, o5, x6, x7, x8, m =>
    if 6 ≤ x8 then
      (f_Wi_isShared x2 m).bind fun v2_ =>
      if v2_ = 0 then
        jz_n (x7 + 1) fun x4_ =>
        k26 x1 x2 x3 x4 o5 x6 x4_ m
      else
        (f_Ba_setDue o5 x7 x2 0 m).bind fun v5_ =>
        jz_n (x7 + 1) fun x6_ =>
        k26 x1 x2 x3 x4 o5 x6 x6_ v5_
    else
      (f_AR_isReached x8 x1 x2 x3 x4 m).bind fun v7_ =>
      if v7_ = 0 then
        jz_n (x8 + 1) fun x9_ =>
        f_AR_spread_50 k26 fu x1 x2 x3 x4 o5 x6 x7 x9_ m
      else
        (f_AR_receive x8 x2 x3 o5 x7 m).bind fun v10_ =>
        jz_n (x8 + 1) fun x11_ =>
        f_AR_spread_50 k26 fu x1 x2 x3 x4 o5 x6 x7 x11_ v10_
set_option maxHeartbeats 4000000 in
set_option maxRecDepth 100000 in
theorem t_AR_spread_50 {Z : cz_Z} {X : jz_X} {r : Int32 × jz_M} (C : jz_C X 9 b_AR_spread R_AR (some .int) rm_AR_spread (cz_G Z)) (k26 : Int32 → Int32 → Int32 → Int32 → Nat → Int32 → Int32 → jz_M → Option (Int32 × jz_M)) (hk26 : ∀ (x1 : Int32) (x2 : Int32) (x3 : Int32) (x4 : Int32) (o5 : Nat) (x6 : Int32) (x7 : Int32) (m : jz_M), kz_Ba o5 → k26 x1 x2 x3 x4 o5 x6 x7 m = some r → jz_J X 9 (cz_G Z) (jz_q X (cz_G Z) (some (.int r.1)) r.2) m [(0, .ref (gz_ad (cz_G Z) 0)), (1, .int x1), (2, .int x2), (3, .int x3), (4, .int x4), (5, .ref (gz_ad (cz_G Z) o5)), (6, .int x6), (7, .int x7)] 26 []) : ∀ (fu : Nat) (x1 : Int32) (x2 : Int32) (x3 : Int32) (x4 : Int32) (o5 : Nat) (x6 : Int32) (x7 : Int32) (x8 : Int32) (m : jz_M) , kz_Ba o5 → f_AR_spread_50 k26 fu x1 x2 x3 x4 o5 x6 x7 x8 m = some r → jz_J X 9 (cz_G Z) (jz_q X (cz_G Z) (some (.int r.1)) r.2) m [(0, .ref (gz_ad (cz_G Z) 0)), (1, .int x1), (2, .int x2), (3, .int x3), (4, .int x4), (5, .ref (gz_ad (cz_G Z) o5)), (6, .int x6), (7, .int x7), (8, .int x8)] 50 [] := by
  intro fu
  induction fu with
  | zero => intro x1 x2 x3 x4 o5 x6 x7 x8 m k5 h; cases h
  | succ fu ih =>
    intro x1 x2 x3 x4 o5 x6 x7 x8 m k5 h
    rw [f_AR_spread_50] at h
    refine jr_iload 50 C d_AR_spread_50 rfl ?_
    refine jr_bipush 52 6 C d_AR_spread_52 (by decide) ?_
    refine jr_icmp_ge 54 89 C d_AR_spread_54 (by decide) (fun c1_ => ?_) (fun c1_ => ?_)
    · have h := jz_t c1_ h
      refine jr_aload_n 89 C d_AR_spread_89 rfl ?_
      refine gf_AR_19 90 C d_AR_spread_90 ?_
      refine jr_iload_n 93 C d_AR_spread_93 rfl ?_
      obtain ⟨v2_, ev2_, h⟩ := jz_b h
      refine jr_callVN 94 [.int x2] C d_AR_spread_94 (c_Wi_isShared (xz_l X) C.2.2.2.2.2.2.1  ev2_) sz_Wi_isShared tz_Wi_isShared lk_AR_102 oz_Wi rfl (by decide) rfl rfl (Nat.le_of_ble_eq_true rfl) rfl ?_
      refine jr_if_eq 97 109 C d_AR_spread_97 (by decide) (fun c3_ => ?_) (fun c3_ => ?_)
      · have h := jz_t c3_ h
        obtain ⟨x4_, ex4_, h⟩ := jz_ne h
        refine jr_iinc 109 [(0, .ref (gz_ad (cz_G Z) 0)), (1, .int x1), (2, .int x2), (3, .int x3), (4, .int x4), (5, .ref (gz_ad (cz_G Z) o5)), (6, .int x6), (7, .int x4_), (8, .int x8)] C d_AR_spread_109 rfl (by decide) rfl (by rw [ex4_]; rfl) rfl ?_
        refine jr_goto 112 26 C d_AR_spread_112 (by decide) ?_
        refine jr_sub [0, 1, 2, 3, 4, 5, 6, 7] rfl ?_
        exact hk26 x1 x2 x3 x4 o5 x6 x4_ m k5 h
      · have h := jz_f c3_ h
        refine jr_aload 100 C d_AR_spread_100 rfl ?_
        refine jr_iload 102 C d_AR_spread_102 rfl ?_
        refine jr_iload_n 104 C d_AR_spread_104 rfl ?_
        refine jr_iconst 105 0 C d_AR_spread_105 (by decide) ?_
        obtain ⟨v5_, ev5_, h⟩ := jz_b h
        refine jr_callVN 106 [.int x7, .int x2, .int 0] C d_AR_spread_106 (c_Ba_setDue (xz_l X) C.2.2.2.2.2.2.1 k5 ev5_) sz_Ba_setDue tz_Ba_setDue lk_AR_105 (oz_Ba k5) rfl (by decide) rfl rfl (Nat.le_of_ble_eq_true rfl) rfl ?_
        obtain ⟨x6_, ex6_, h⟩ := jz_ne h
        refine jr_iinc 109 [(0, .ref (gz_ad (cz_G Z) 0)), (1, .int x1), (2, .int x2), (3, .int x3), (4, .int x4), (5, .ref (gz_ad (cz_G Z) o5)), (6, .int x6), (7, .int x6_), (8, .int x8)] C d_AR_spread_109 rfl (by decide) rfl (by rw [ex6_]; rfl) rfl ?_
        refine jr_goto 112 26 C d_AR_spread_112 (by decide) ?_
        refine jr_sub [0, 1, 2, 3, 4, 5, 6, 7] rfl ?_
        exact hk26 x1 x2 x3 x4 o5 x6 x6_ v5_ k5 h
    · have h := jz_f c1_ h
      refine jr_aload_n 57 C d_AR_spread_57 rfl ?_
      refine jr_iload 58 C d_AR_spread_58 rfl ?_
      refine jr_iload_n 60 C d_AR_spread_60 rfl ?_
      refine jr_iload_n 61 C d_AR_spread_61 rfl ?_
      refine jr_iload_n 62 C d_AR_spread_62 rfl ?_
      refine jr_iload 63 C d_AR_spread_63 rfl ?_
      obtain ⟨v7_, ev7_, h⟩ := jz_b h
      refine jr_callV 65 [.int x8, .int x1, .int x2, .int x3, .int x4] C d_AR_spread_65 (c_AR_isReached (xz_l X) C.2.2.2.2.2.2.1  ev7_) sz_AR_isReached tz_AR_isReached lk_AR_94 oz_AR rfl (by decide) rfl rfl (Nat.le_of_ble_eq_true rfl) rfl ?_
      refine jr_if_eq 68 83 C d_AR_spread_68 (by decide) (fun c8_ => ?_) (fun c8_ => ?_)
      · have h := jz_t c8_ h
        obtain ⟨x9_, ex9_, h⟩ := jz_ne h
        refine jr_iinc 83 [(0, .ref (gz_ad (cz_G Z) 0)), (1, .int x1), (2, .int x2), (3, .int x3), (4, .int x4), (5, .ref (gz_ad (cz_G Z) o5)), (6, .int x6), (7, .int x7), (8, .int x9_)] C d_AR_spread_83 rfl (by decide) rfl (by rw [ex9_]; rfl) rfl ?_
        refine jr_goto 86 50 C d_AR_spread_86 (by decide) ?_
        refine jr_sub [0, 1, 2, 3, 4, 5, 6, 7, 8] rfl ?_
        exact ih x1 x2 x3 x4 o5 x6 x7 x9_ m k5 h
      · have h := jz_f c8_ h
        refine jr_aload_n 71 C d_AR_spread_71 rfl ?_
        refine jr_iload 72 C d_AR_spread_72 rfl ?_
        refine jr_iload_n 74 C d_AR_spread_74 rfl ?_
        refine jr_iload_n 75 C d_AR_spread_75 rfl ?_
        refine jr_aload 76 C d_AR_spread_76 rfl ?_
        refine jr_iload 78 C d_AR_spread_78 rfl ?_
        obtain ⟨v10_, ev10_, h⟩ := jz_b h
        refine jr_callV 80 [.int x8, .int x2, .int x3, .ref (gz_ad (cz_G Z) o5), .int x7] C d_AR_spread_80 (c_AR_receive (xz_l X) C.2.2.2.2.2.2.1 k5 ev10_) sz_AR_receive tz_AR_receive lk_AR_98 oz_AR rfl (by decide) rfl rfl (Nat.le_of_ble_eq_true rfl) rfl ?_
        obtain ⟨x11_, ex11_, h⟩ := jz_ne h
        refine jr_iinc 83 [(0, .ref (gz_ad (cz_G Z) 0)), (1, .int x1), (2, .int x2), (3, .int x3), (4, .int x4), (5, .ref (gz_ad (cz_G Z) o5)), (6, .int x6), (7, .int x7), (8, .int x11_)] C d_AR_spread_83 rfl (by decide) rfl (by rw [ex11_]; rfl) rfl ?_
        refine jr_goto 86 50 C d_AR_spread_86 (by decide) ?_
        refine jr_sub [0, 1, 2, 3, 4, 5, 6, 7, 8] rfl ?_
        exact ih x1 x2 x3 x4 o5 x6 x7 x11_ v10_ k5 h
def f_AR_spread_26 : Nat → Int32 → Int32 → Int32 → Int32 → Nat → Int32 → Int32 → jz_M → Option (Int32 × jz_M)
  | 0, _, _, _, _, _, _, _, _ => none
  | fu + 1, x1, x2, x3, x4, o5, x6, x7, m =>
    if 42 ≤ x7 then
      some (x6, m)
    else
      (f_Ba_isDue o5 x7 x2 m).bind fun v2_ =>
      if v2_ = 0 then
        jz_n (x7 + 1) fun x4_ =>
        f_AR_spread_26 fu x1 x2 x3 x4 o5 x6 x4_ m
      else
        jz_n (x6 + 1) fun x5_ =>
        f_AR_spread_50 (f_AR_spread_26 fu) 1000 x1 x2 x3 x4 o5 x5_ x7 0 m
set_option maxHeartbeats 4000000 in
set_option maxRecDepth 100000 in
theorem t_AR_spread_26 {Z : cz_Z} {X : jz_X} {r : Int32 × jz_M} (C : jz_C X 9 b_AR_spread R_AR (some .int) rm_AR_spread (cz_G Z)) : ∀ (fu : Nat) (x1 : Int32) (x2 : Int32) (x3 : Int32) (x4 : Int32) (o5 : Nat) (x6 : Int32) (x7 : Int32) (m : jz_M) , kz_Ba o5 → f_AR_spread_26 fu x1 x2 x3 x4 o5 x6 x7 m = some r → jz_J X 9 (cz_G Z) (jz_q X (cz_G Z) (some (.int r.1)) r.2) m [(0, .ref (gz_ad (cz_G Z) 0)), (1, .int x1), (2, .int x2), (3, .int x3), (4, .int x4), (5, .ref (gz_ad (cz_G Z) o5)), (6, .int x6), (7, .int x7)] 26 [] := by
  intro fu
  induction fu with
  | zero => intro x1 x2 x3 x4 o5 x6 x7 m k5 h; cases h
  | succ fu ih =>
    intro x1 x2 x3 x4 o5 x6 x7 m k5 h
    rw [f_AR_spread_26] at h
    refine jr_iload 26 C d_AR_spread_26 rfl ?_
    refine jr_bipush 28 42 C d_AR_spread_28 (by decide) ?_
    refine jr_icmp_ge 30 115 C d_AR_spread_30 (by decide) (fun c1_ => ?_) (fun c1_ => ?_)
    · have h := jz_t c1_ h
      refine jr_iload 115 C d_AR_spread_115 rfl ?_
      obtain rfl := Option.some.inj h
      exact jr_iret 117 (v := x6) C d_AR_spread_117 rfl
    · have h := jz_f c1_ h
      refine jr_aload 33 C d_AR_spread_33 rfl ?_
      refine jr_iload 35 C d_AR_spread_35 rfl ?_
      refine jr_iload_n 37 C d_AR_spread_37 rfl ?_
      obtain ⟨v2_, ev2_, h⟩ := jz_b h
      refine jr_callVN 38 [.int x7, .int x2] C d_AR_spread_38 (c_Ba_isDue (xz_l X) C.2.2.2.2.2.2.1 k5 ev2_) sz_Ba_isDue tz_Ba_isDue lk_AR_91 (oz_Ba k5) rfl (by decide) rfl rfl (Nat.le_of_ble_eq_true rfl) rfl ?_
      refine jr_if_eq 41 109 C d_AR_spread_41 (by decide) (fun c3_ => ?_) (fun c3_ => ?_)
      · have h := jz_t c3_ h
        obtain ⟨x4_, ex4_, h⟩ := jz_ne h
        refine jr_iinc 109 [(0, .ref (gz_ad (cz_G Z) 0)), (1, .int x1), (2, .int x2), (3, .int x3), (4, .int x4), (5, .ref (gz_ad (cz_G Z) o5)), (6, .int x6), (7, .int x4_)] C d_AR_spread_109 rfl (by decide) rfl (by rw [ex4_]; rfl) rfl ?_
        refine jr_goto 112 26 C d_AR_spread_112 (by decide) ?_
        refine jr_sub [0, 1, 2, 3, 4, 5, 6, 7] rfl ?_
        exact ih x1 x2 x3 x4 o5 x6 x4_ m k5 h
      · have h := jz_f c3_ h
        obtain ⟨x5_, ex5_, h⟩ := jz_ne h
        refine jr_iinc 44 [(0, .ref (gz_ad (cz_G Z) 0)), (1, .int x1), (2, .int x2), (3, .int x3), (4, .int x4), (5, .ref (gz_ad (cz_G Z) o5)), (6, .int x5_), (7, .int x7)] C d_AR_spread_44 rfl (by decide) rfl (by rw [ex5_]; rfl) rfl ?_
        refine jr_iconst 47 0 C d_AR_spread_47 (by decide) ?_
        refine jr_istore 48 [(0, .ref (gz_ad (cz_G Z) 0)), (1, .int x1), (2, .int x2), (3, .int x3), (4, .int x4), (5, .ref (gz_ad (cz_G Z) o5)), (6, .int x5_), (7, .int x7), (8, .int 0)] C d_AR_spread_48 rfl (by decide) rfl ?_
        refine jr_sub [0, 1, 2, 3, 4, 5, 6, 7, 8] rfl ?_
        exact t_AR_spread_50 C (f_AR_spread_26 fu) ih 1000 x1 x2 x3 x4 o5 x5_ x7 0 m k5 h
def f_AR_spread (a1 : Int32) (a2 : Int32) (a3 : Int32) (a4 : Int32) (m : jz_M) : Option (Int32 × jz_M) :=
  (f_AR_checkSender a1 a2 m).bind fun v1_ =>
  (f_AR_checkLevel a1 a3 m).bind fun v2_ =>
  (f_AR_baseOf a1 a3 m).bind fun v3_ =>
  f_AR_spread_26 1000 a1 a2 a3 a4 v3_ 0 0 m
set_option maxHeartbeats 4000000 in
set_option maxRecDepth 100000 in
theorem c_AR_spread {Z : cz_Z} (l : Launch) (hI : jz_I (cz_G Z)) {a1 : Int32} {a2 : Int32} {a3 : Int32} {a4 : Int32} {m : jz_M} {r : Int32 × jz_M} (h : f_AR_spread a1 a2 a3 a4 m = some r) : jz_m l y_AR_spread cd_AR_spread rm_AR_spread (cz_G Z) [.ref (gz_ad (cz_G Z) 0), .int a1, .int a2, .int a3, .int a4] m (some (.int r.1)) r.2 := by
  refine jz_met (own := R_AR) (by decide) rfl hI (Nat.le_of_ble_eq_true rfl) (fun X hX C => ?_)
  subst hX
  show jz_J X 9 (cz_G Z) _ m [(0, .ref (gz_ad (cz_G Z) 0)), (1, .int a1), (2, .int a2), (3, .int a3), (4, .int a4)] 0 []
  unfold f_AR_spread at h
  refine jr_aload_n 0 C d_AR_spread_0 rfl ?_
  refine jr_iload_n 1 C d_AR_spread_1 rfl ?_
  refine jr_iload_n 2 C d_AR_spread_2 rfl ?_
  obtain ⟨v1_, ev1_, h⟩ := jz_b h
  refine jr_callV 3 [.int a1, .int a2] C d_AR_spread_3 (c_AR_checkSender (xz_l X) C.2.2.2.2.2.2.1 ev1_) sz_AR_checkSender tz_AR_checkSender lk_AR_73 oz_AR rfl (by decide) rfl rfl (Nat.le_of_ble_eq_true rfl) rfl ?_
  refine jr_aload_n 6 C d_AR_spread_6 rfl ?_
  refine jr_iload_n 7 C d_AR_spread_7 rfl ?_
  refine jr_iload_n 8 C d_AR_spread_8 rfl ?_
  obtain ⟨v2_, ev2_, h⟩ := jz_b h
  refine jr_callV 9 [.int a1, .int a3] C d_AR_spread_9 (c_AR_checkLevel (xz_l X) C.2.2.2.2.2.2.1 ev2_) sz_AR_checkLevel tz_AR_checkLevel lk_AR_84 oz_AR rfl (by decide) rfl rfl (Nat.le_of_ble_eq_true rfl) rfl ?_
  refine jr_aload_n 12 C d_AR_spread_12 rfl ?_
  refine jr_iload_n 13 C d_AR_spread_13 rfl ?_
  refine jr_iload_n 14 C d_AR_spread_14 rfl ?_
  obtain ⟨v3_, ev3_, h⟩ := jz_b h
  refine jr_callV 15 [.int a1, .int a3] C d_AR_spread_15 (c_AR_baseOf (xz_l X) C.2.2.2.2.2.2.1 ev3_) sz_AR_baseOf tz_AR_baseOf lk_AR_87 oz_AR rfl (by decide) rfl rfl (Nat.le_of_ble_eq_true rfl) rfl ?_
  refine jr_astore 18 [(0, .ref (gz_ad (cz_G Z) 0)), (1, .int a1), (2, .int a2), (3, .int a3), (4, .int a4), (5, .ref (gz_ad (cz_G Z) v3_))] C d_AR_spread_18 rfl (by decide) rfl ?_
  refine jr_iconst 20 0 C d_AR_spread_20 (by decide) ?_
  refine jr_istore 21 [(0, .ref (gz_ad (cz_G Z) 0)), (1, .int a1), (2, .int a2), (3, .int a3), (4, .int a4), (5, .ref (gz_ad (cz_G Z) v3_)), (6, .int 0)] C d_AR_spread_21 rfl (by decide) rfl ?_
  refine jr_iconst 23 0 C d_AR_spread_23 (by decide) ?_
  refine jr_istore 24 [(0, .ref (gz_ad (cz_G Z) 0)), (1, .int a1), (2, .int a2), (3, .int a3), (4, .int a4), (5, .ref (gz_ad (cz_G Z) v3_)), (6, .int 0), (7, .int 0)] C d_AR_spread_24 rfl (by decide) rfl ?_
  refine jr_sub [0, 1, 2, 3, 4, 5, 6, 7] rfl ?_
  exact t_AR_spread_26 C 1000 a1 a2 a3 a4 v3_ 0 0 m (kr_AR_baseOf ev3_) h
abbrev rm_Ba_has : Room := { frames := 0, cells := 0, slots := 0, locals := 0 }
abbrev cd_Ba_has : Cond := .code y_Ba_has b_Ba_has 2 (some .boolean)
def f_Ba_has (o0 : Nat) (a1 : Int32) (m : jz_M) : Option (Int32) :=
  (jz_ix 42 a1).bind fun j1_ =>
  if (m (o0 + 1) j1_) ≤ 0 then
    some 0
  else
    some 1
set_option maxHeartbeats 4000000 in
set_option maxRecDepth 100000 in
theorem c_Ba_has {Z : cz_Z} (l : Launch) (hI : jz_I (cz_G Z)) {o0 : Nat} {a1 : Int32} {m : jz_M} {r : Int32} (ko0 : kz_Ba o0) (h : f_Ba_has o0 a1 m = some r) : jz_m l y_Ba_has cd_Ba_has rm_Ba_has (cz_G Z) [.ref (gz_ad (cz_G Z) o0), .int a1] m (some (.int r)) m := by
  refine jz_met (own := R_Ba) (by decide) rfl hI (Nat.le_of_ble_eq_true rfl) (fun X hX C => ?_)
  subst hX
  show jz_J X 2 (cz_G Z) _ m [(0, .ref (gz_ad (cz_G Z) o0)), (1, .int a1)] 0 []
  unfold f_Ba_has at h
  refine jr_aload_n 0 C d_Ba_has_0 rfl ?_
  refine gf_Ba_9 1 C d_Ba_has_1 ko0 ?_
  refine jr_iload_n 4 C d_Ba_has_4 rfl ?_
  obtain ⟨j1_, ej1_, h⟩ := jz_b h
  refine jr_iald 5 C d_Ba_has_5 (zk_Ba_sequences ko0) ej1_ ?_
  refine jr_if_le 6 13 C d_Ba_has_6 (by decide) (fun c2_ => ?_) (fun c2_ => ?_)
  · have h := jz_t c2_ h
    refine jr_iconst 13 0 C d_Ba_has_13 (by decide) ?_
    obtain rfl := Option.some.inj h
    exact jr_zret 14 (v := 0) C d_Ba_has_14 rfl nb_0
  · have h := jz_f c2_ h
    refine jr_iconst 9 1 C d_Ba_has_9 (by decide) ?_
    refine jr_goto 10 14 C d_Ba_has_10 (by decide) ?_
    obtain rfl := Option.some.inj h
    exact jr_zret 14 (v := 1) C d_Ba_has_14 rfl nb_1
abbrev rm_Ba_compareWithTold : Room := { frames := 2, cells := 0, slots := 0, locals := 43 }
abbrev cd_Ba_compareWithTold : Cond := .code y_Ba_compareWithTold b_Ba_compareWithTold 5 none
def f_Ba_compareWithTold_21 (o0 : Nat) (x2 : Int32) (x3 : Int32) (x4 : Int32) (s0 : Int32) (s1 : Int32) (s2 : Int32) (o3 : Nat) (m : jz_M) : Option (jz_M) :=
  (f_Ba_setDue o3 s2 s1 s0 m).bind fun v1_ =>
  if 0 ≤ x4 then
    some v1_
  else
    (f_Ba_setAsked o0 x2 x3 1 v1_).bind fun v3_ =>
    some v3_
set_option maxHeartbeats 4000000 in
set_option maxRecDepth 100000 in
theorem t_Ba_compareWithTold_21 {Z : cz_Z} {X : jz_X} {r : jz_M} (C : jz_C X 5 b_Ba_compareWithTold R_Ba none rm_Ba_compareWithTold (cz_G Z)) : ∀ (o0 : Nat) (x2 : Int32) (x3 : Int32) (x4 : Int32) (s0 : Int32) (s1 : Int32) (s2 : Int32) (o3 : Nat) (m : jz_M) , kz_Ba o0 → kz_Ba o3 → f_Ba_compareWithTold_21 o0 x2 x3 x4 s0 s1 s2 o3 m = some r → jz_J X 5 (cz_G Z) (jz_q X (cz_G Z) none r) m [(0, .ref (gz_ad (cz_G Z) o0)), (2, .int x2), (3, .int x3), (4, .int x4)] 21 [.int s0, .int s1, .int s2, .ref (gz_ad (cz_G Z) o3)] := by
  intro o0 x2 x3 x4 s0 s1 s2 o3 m k0 k3 h
  unfold f_Ba_compareWithTold_21 at h
  obtain ⟨v1_, ev1_, h⟩ := jz_b h
  refine jr_callV 21 [.int s2, .int s1, .int s0] C d_Ba_compareWithTold_21 (c_Ba_setDue (xz_l X) C.2.2.2.2.2.2.1 k3 ev1_) sz_Ba_setDue tz_Ba_setDue lk_Ba_58 (oz_Ba k3) rfl (by decide) rfl rfl (Nat.le_of_ble_eq_true rfl) rfl ?_
  refine jr_iload 24 C d_Ba_compareWithTold_24 rfl ?_
  refine jr_if_ge 26 36 C d_Ba_compareWithTold_26 (by decide) (fun c2_ => ?_) (fun c2_ => ?_)
  · have h := jz_t c2_ h
    obtain rfl := Option.some.inj h
    exact jr_vret 36 C d_Ba_compareWithTold_36 rfl
  · have h := jz_f c2_ h
    refine jr_aload_n 29 C d_Ba_compareWithTold_29 rfl ?_
    refine jr_iload_n 30 C d_Ba_compareWithTold_30 rfl ?_
    refine jr_iload_n 31 C d_Ba_compareWithTold_31 rfl ?_
    refine jr_iconst 32 1 C d_Ba_compareWithTold_32 (by decide) ?_
    obtain ⟨v3_, ev3_, h⟩ := jz_b h
    refine jr_callV 33 [.int x2, .int x3, .int 1] C d_Ba_compareWithTold_33 (c_Ba_setAsked (xz_l X) C.2.2.2.2.2.2.1 k0 ev3_) sz_Ba_setAsked tz_Ba_setAsked lk_Ba_62 (oz_Ba k0) rfl (by decide) rfl rfl (Nat.le_of_ble_eq_true rfl) rfl ?_
    obtain rfl := Option.some.inj h
    exact jr_vret 36 C d_Ba_compareWithTold_36 rfl
def f_Ba_compareWithTold (o0 : Nat) (o1 : Nat) (a2 : Int32) (a3 : Int32) (m : jz_M) : Option (jz_M) :=
  (f_Ba_orderAgainst o0 o1 a2 m).bind fun v1_ =>
  if v1_ ≤ 0 then
    f_Ba_compareWithTold_21 o0 a2 a3 v1_ 0 a3 a2 o0 m
  else
    f_Ba_compareWithTold_21 o0 a2 a3 v1_ 1 a3 a2 o0 m
set_option maxHeartbeats 4000000 in
set_option maxRecDepth 100000 in
theorem c_Ba_compareWithTold {Z : cz_Z} (l : Launch) (hI : jz_I (cz_G Z)) {o0 : Nat} {o1 : Nat} {a2 : Int32} {a3 : Int32} {m : jz_M} {r : jz_M} (ko0 : kz_Ba o0) (ko1 : kz_Ba o1) (h : f_Ba_compareWithTold o0 o1 a2 a3 m = some r) : jz_m l y_Ba_compareWithTold cd_Ba_compareWithTold rm_Ba_compareWithTold (cz_G Z) [.ref (gz_ad (cz_G Z) o0), .ref (gz_ad (cz_G Z) o1), .int a2, .int a3] m none r := by
  refine jz_met (own := R_Ba) (by decide) rfl hI (Nat.le_of_ble_eq_true rfl) (fun X hX C => ?_)
  subst hX
  show jz_J X 5 (cz_G Z) _ m [(0, .ref (gz_ad (cz_G Z) o0)), (1, .ref (gz_ad (cz_G Z) o1)), (2, .int a2), (3, .int a3)] 0 []
  unfold f_Ba_compareWithTold at h
  refine jr_aload_n 0 C d_Ba_compareWithTold_0 rfl ?_
  refine jr_aload_n 1 C d_Ba_compareWithTold_1 rfl ?_
  refine jr_iload_n 2 C d_Ba_compareWithTold_2 rfl ?_
  obtain ⟨v1_, ev1_, h⟩ := jz_b h
  refine jr_callV 3 [.ref (gz_ad (cz_G Z) o1), .int a2] C d_Ba_compareWithTold_3 (c_Ba_orderAgainst (xz_l X) C.2.2.2.2.2.2.1 ko0 ko1 ev1_) sz_Ba_orderAgainst tz_Ba_orderAgainst lk_Ba_54 (oz_Ba ko0) rfl (by decide) rfl rfl (Nat.le_of_ble_eq_true rfl) rfl ?_
  refine jr_istore 6 [(0, .ref (gz_ad (cz_G Z) o0)), (1, .ref (gz_ad (cz_G Z) o1)), (2, .int a2), (3, .int a3), (4, .int v1_)] C d_Ba_compareWithTold_6 rfl (by decide) rfl ?_
  refine jr_aload_n 8 C d_Ba_compareWithTold_8 rfl ?_
  refine jr_iload_n 9 C d_Ba_compareWithTold_9 rfl ?_
  refine jr_iload_n 10 C d_Ba_compareWithTold_10 rfl ?_
  refine jr_iload 11 C d_Ba_compareWithTold_11 rfl ?_
  refine jr_if_le 13 20 C d_Ba_compareWithTold_13 (by decide) (fun c2_ => ?_) (fun c2_ => ?_)
  · have h := jz_t c2_ h
    refine jr_iconst 20 0 C d_Ba_compareWithTold_20 (by decide) ?_
    refine jr_sub [0, 2, 3, 4] rfl ?_
    exact t_Ba_compareWithTold_21 C  o0 a2 a3 v1_ 0 a3 a2 o0 m ko0 ko0 h
  · have h := jz_f c2_ h
    refine jr_iconst 16 1 C d_Ba_compareWithTold_16 (by decide) ?_
    refine jr_goto 17 21 C d_Ba_compareWithTold_17 (by decide) ?_
    refine jr_sub [0, 2, 3, 4] rfl ?_
    exact t_Ba_compareWithTold_21 C  o0 a2 a3 v1_ 1 a3 a2 o0 m ko0 ko0 h
abbrev rm_Ba_compareWithSummary : Room := { frames := 3, cells := 0, slots := 0, locals := 67 }
abbrev cd_Ba_compareWithSummary : Cond := .code y_Ba_compareWithSummary b_Ba_compareWithSummary 4 none
def f_Ba_compareWithSummary_2 : Nat → Nat → Nat → Int32 → Int32 → jz_M → Option (jz_M)
  | 0, _, _, _, _, _ => none
  | fu + 1, o0, o1, x2, x3, m =>
    if 42 ≤ x3 then
      some m
    else
      (f_Ba_has o1 x3 m).bind fun v2_ =>
      if v2_ = 0 then
        (f_Ba_isAlive o0 x3 m).bind fun v4_ =>
        if v4_ = 0 then
          jz_n (x3 + 1) fun x6_ =>
          f_Ba_compareWithSummary_2 fu o0 o1 x2 x6_ m
        else
          (f_Ba_setDue o0 x3 x2 1 m).bind fun v7_ =>
          jz_n (x3 + 1) fun x8_ =>
          f_Ba_compareWithSummary_2 fu o0 o1 x2 x8_ v7_
      else
        (f_Ba_compareWithTold o0 o1 x3 x2 m).bind fun v9_ =>
        jz_n (x3 + 1) fun x10_ =>
        f_Ba_compareWithSummary_2 fu o0 o1 x2 x10_ v9_
set_option maxHeartbeats 4000000 in
set_option maxRecDepth 100000 in
theorem t_Ba_compareWithSummary_2 {Z : cz_Z} {X : jz_X} {r : jz_M} (C : jz_C X 4 b_Ba_compareWithSummary R_Ba none rm_Ba_compareWithSummary (cz_G Z)) : ∀ (fu : Nat) (o0 : Nat) (o1 : Nat) (x2 : Int32) (x3 : Int32) (m : jz_M) , kz_Ba o0 → kz_Ba o1 → f_Ba_compareWithSummary_2 fu o0 o1 x2 x3 m = some r → jz_J X 4 (cz_G Z) (jz_q X (cz_G Z) none r) m [(0, .ref (gz_ad (cz_G Z) o0)), (1, .ref (gz_ad (cz_G Z) o1)), (2, .int x2), (3, .int x3)] 2 [] := by
  intro fu
  induction fu with
  | zero => intro o0 o1 x2 x3 m k0 k1 h; cases h
  | succ fu ih =>
    intro o0 o1 x2 x3 m k0 k1 h
    rw [f_Ba_compareWithSummary_2] at h
    refine jr_iload_n 2 C d_Ba_compareWithSummary_2 rfl ?_
    refine jr_bipush 3 42 C d_Ba_compareWithSummary_3 (by decide) ?_
    refine jr_icmp_ge 5 47 C d_Ba_compareWithSummary_5 (by decide) (fun c1_ => ?_) (fun c1_ => ?_)
    · have h := jz_t c1_ h
      obtain rfl := Option.some.inj h
      exact jr_vret 47 C d_Ba_compareWithSummary_47 rfl
    · have h := jz_f c1_ h
      refine jr_aload_n 8 C d_Ba_compareWithSummary_8 rfl ?_
      refine jr_iload_n 9 C d_Ba_compareWithSummary_9 rfl ?_
      obtain ⟨v2_, ev2_, h⟩ := jz_b h
      refine jr_callV 10 [.int x3] C d_Ba_compareWithSummary_10 (c_Ba_has (xz_l X) C.2.2.2.2.2.2.1 k1 ev2_) sz_Ba_has tz_Ba_has lk_Ba_43 (oz_Ba k1) rfl (by decide) rfl rfl (Nat.le_of_ble_eq_true rfl) rfl ?_
      refine jr_if_eq 13 26 C d_Ba_compareWithSummary_13 (by decide) (fun c3_ => ?_) (fun c3_ => ?_)
      · have h := jz_t c3_ h
        refine jr_aload_n 26 C d_Ba_compareWithSummary_26 rfl ?_
        refine jr_iload_n 27 C d_Ba_compareWithSummary_27 rfl ?_
        obtain ⟨v4_, ev4_, h⟩ := jz_b h
        refine jr_callV 28 [.int x3] C d_Ba_compareWithSummary_28 (c_Ba_isAlive (xz_l X) C.2.2.2.2.2.2.1 k0 ev4_) sz_Ba_isAlive tz_Ba_isAlive lk_Ba_51 (oz_Ba k0) rfl (by decide) rfl rfl (Nat.le_of_ble_eq_true rfl) rfl ?_
        refine jr_if_eq 31 41 C d_Ba_compareWithSummary_31 (by decide) (fun c5_ => ?_) (fun c5_ => ?_)
        · have h := jz_t c5_ h
          obtain ⟨x6_, ex6_, h⟩ := jz_ne h
          refine jr_iinc 41 [(0, .ref (gz_ad (cz_G Z) o0)), (1, .ref (gz_ad (cz_G Z) o1)), (2, .int x2), (3, .int x6_)] C d_Ba_compareWithSummary_41 rfl (by decide) rfl (by rw [ex6_]; rfl) rfl ?_
          refine jr_goto 44 2 C d_Ba_compareWithSummary_44 (by decide) ?_
          refine jr_sub [0, 1, 2, 3] rfl ?_
          exact ih o0 o1 x2 x6_ m k0 k1 h
        · have h := jz_f c5_ h
          refine jr_aload_n 34 C d_Ba_compareWithSummary_34 rfl ?_
          refine jr_iload_n 35 C d_Ba_compareWithSummary_35 rfl ?_
          refine jr_iload_n 36 C d_Ba_compareWithSummary_36 rfl ?_
          refine jr_iconst 37 1 C d_Ba_compareWithSummary_37 (by decide) ?_
          obtain ⟨v7_, ev7_, h⟩ := jz_b h
          refine jr_callV 38 [.int x3, .int x2, .int 1] C d_Ba_compareWithSummary_38 (c_Ba_setDue (xz_l X) C.2.2.2.2.2.2.1 k0 ev7_) sz_Ba_setDue tz_Ba_setDue lk_Ba_58 (oz_Ba k0) rfl (by decide) rfl rfl (Nat.le_of_ble_eq_true rfl) rfl ?_
          obtain ⟨x8_, ex8_, h⟩ := jz_ne h
          refine jr_iinc 41 [(0, .ref (gz_ad (cz_G Z) o0)), (1, .ref (gz_ad (cz_G Z) o1)), (2, .int x2), (3, .int x8_)] C d_Ba_compareWithSummary_41 rfl (by decide) rfl (by rw [ex8_]; rfl) rfl ?_
          refine jr_goto 44 2 C d_Ba_compareWithSummary_44 (by decide) ?_
          refine jr_sub [0, 1, 2, 3] rfl ?_
          exact ih o0 o1 x2 x8_ v7_ k0 k1 h
      · have h := jz_f c3_ h
        refine jr_aload_n 16 C d_Ba_compareWithSummary_16 rfl ?_
        refine jr_aload_n 17 C d_Ba_compareWithSummary_17 rfl ?_
        refine jr_iload_n 18 C d_Ba_compareWithSummary_18 rfl ?_
        refine jr_iload_n 19 C d_Ba_compareWithSummary_19 rfl ?_
        obtain ⟨v9_, ev9_, h⟩ := jz_b h
        refine jr_callV 20 [.ref (gz_ad (cz_G Z) o1), .int x3, .int x2] C d_Ba_compareWithSummary_20 (c_Ba_compareWithTold (xz_l X) C.2.2.2.2.2.2.1 k0 k1 ev9_) sz_Ba_compareWithTold tz_Ba_compareWithTold lk_Ba_65 (oz_Ba k0) rfl (by decide) rfl rfl (Nat.le_of_ble_eq_true rfl) rfl ?_
        refine jr_goto 23 41 C d_Ba_compareWithSummary_23 (by decide) ?_
        obtain ⟨x10_, ex10_, h⟩ := jz_ne h
        refine jr_iinc 41 [(0, .ref (gz_ad (cz_G Z) o0)), (1, .ref (gz_ad (cz_G Z) o1)), (2, .int x2), (3, .int x10_)] C d_Ba_compareWithSummary_41 rfl (by decide) rfl (by rw [ex10_]; rfl) rfl ?_
        refine jr_goto 44 2 C d_Ba_compareWithSummary_44 (by decide) ?_
        refine jr_sub [0, 1, 2, 3] rfl ?_
        exact ih o0 o1 x2 x10_ v9_ k0 k1 h
def f_Ba_compareWithSummary (o0 : Nat) (o1 : Nat) (a2 : Int32) (m : jz_M) : Option (jz_M) :=
  f_Ba_compareWithSummary_2 1000 o0 o1 a2 0 m
set_option maxHeartbeats 4000000 in
set_option maxRecDepth 100000 in
theorem c_Ba_compareWithSummary {Z : cz_Z} (l : Launch) (hI : jz_I (cz_G Z)) {o0 : Nat} {o1 : Nat} {a2 : Int32} {m : jz_M} {r : jz_M} (ko0 : kz_Ba o0) (ko1 : kz_Ba o1) (h : f_Ba_compareWithSummary o0 o1 a2 m = some r) : jz_m l y_Ba_compareWithSummary cd_Ba_compareWithSummary rm_Ba_compareWithSummary (cz_G Z) [.ref (gz_ad (cz_G Z) o0), .ref (gz_ad (cz_G Z) o1), .int a2] m none r := by
  refine jz_met (own := R_Ba) (by decide) rfl hI (Nat.le_of_ble_eq_true rfl) (fun X hX C => ?_)
  subst hX
  show jz_J X 4 (cz_G Z) _ m [(0, .ref (gz_ad (cz_G Z) o0)), (1, .ref (gz_ad (cz_G Z) o1)), (2, .int a2)] 0 []
  unfold f_Ba_compareWithSummary at h
  refine jr_iconst 0 0 C d_Ba_compareWithSummary_0 (by decide) ?_
  refine jr_istore_n 1 [(0, .ref (gz_ad (cz_G Z) o0)), (1, .ref (gz_ad (cz_G Z) o1)), (2, .int a2), (3, .int 0)] C d_Ba_compareWithSummary_1 rfl (by decide) rfl ?_
  refine jr_sub [0, 1, 2, 3] rfl ?_
  exact t_Ba_compareWithSummary_2 C 1000 o0 o1 a2 0 m ko0 ko1 h
abbrev rm_Ba_count : Room := { frames := 1, cells := 0, slots := 0, locals := 21 }
abbrev cd_Ba_count : Cond := .code y_Ba_count b_Ba_count 3 (some .int)
def f_Ba_count_4 (m : jz_M) : Nat → Nat → Int32 → Int32 → Option (Int32)
  | 0, _, _, _ => none
  | fu + 1, o0, x1, x2 =>
    if 42 ≤ x2 then
      some x1
    else
      (f_Ba_has o0 x2 m).bind fun v2_ =>
      if v2_ = 0 then
        jz_n (x2 + 1) fun x4_ =>
        f_Ba_count_4 m fu o0 x1 x4_
      else
        jz_n (x1 + 1) fun x5_ =>
        jz_n (x2 + 1) fun x6_ =>
        f_Ba_count_4 m fu o0 x5_ x6_
set_option maxHeartbeats 4000000 in
set_option maxRecDepth 100000 in
theorem t_Ba_count_4 {Z : cz_Z} {X : jz_X} {m : jz_M} {r : Int32} (C : jz_C X 3 b_Ba_count R_Ba (some .int) rm_Ba_count (cz_G Z)) : ∀ (fu : Nat) (o0 : Nat) (x1 : Int32) (x2 : Int32) , kz_Ba o0 → f_Ba_count_4 m fu o0 x1 x2 = some r → jz_J X 3 (cz_G Z) (jz_q X (cz_G Z) (some (.int r)) m) m [(0, .ref (gz_ad (cz_G Z) o0)), (1, .int x1), (2, .int x2)] 4 [] := by
  intro fu
  induction fu with
  | zero => intro o0 x1 x2 k0 h; cases h
  | succ fu ih =>
    intro o0 x1 x2 k0 h
    rw [f_Ba_count_4] at h
    refine jr_iload_n 4 C d_Ba_count_4 rfl ?_
    refine jr_bipush 5 42 C d_Ba_count_5 (by decide) ?_
    refine jr_icmp_ge 7 27 C d_Ba_count_7 (by decide) (fun c1_ => ?_) (fun c1_ => ?_)
    · have h := jz_t c1_ h
      refine jr_iload_n 27 C d_Ba_count_27 rfl ?_
      obtain rfl := Option.some.inj h
      exact jr_iret 28 (v := x1) C d_Ba_count_28 rfl
    · have h := jz_f c1_ h
      refine jr_aload_n 10 C d_Ba_count_10 rfl ?_
      refine jr_iload_n 11 C d_Ba_count_11 rfl ?_
      obtain ⟨v2_, ev2_, h⟩ := jz_b h
      refine jr_callV 12 [.int x2] C d_Ba_count_12 (c_Ba_has (xz_l X) C.2.2.2.2.2.2.1 k0 ev2_) sz_Ba_has tz_Ba_has lk_Ba_43 (oz_Ba k0) rfl (by decide) rfl rfl (Nat.le_of_ble_eq_true rfl) rfl ?_
      refine jr_if_eq 15 21 C d_Ba_count_15 (by decide) (fun c3_ => ?_) (fun c3_ => ?_)
      · have h := jz_t c3_ h
        obtain ⟨x4_, ex4_, h⟩ := jz_ne h
        refine jr_iinc 21 [(0, .ref (gz_ad (cz_G Z) o0)), (1, .int x1), (2, .int x4_)] C d_Ba_count_21 rfl (by decide) rfl (by rw [ex4_]; rfl) rfl ?_
        refine jr_goto 24 4 C d_Ba_count_24 (by decide) ?_
        refine jr_sub [0, 1, 2] rfl ?_
        exact ih o0 x1 x4_ k0 h
      · have h := jz_f c3_ h
        obtain ⟨x5_, ex5_, h⟩ := jz_ne h
        refine jr_iinc 18 [(0, .ref (gz_ad (cz_G Z) o0)), (1, .int x5_), (2, .int x2)] C d_Ba_count_18 rfl (by decide) rfl (by rw [ex5_]; rfl) rfl ?_
        obtain ⟨x6_, ex6_, h⟩ := jz_ne h
        refine jr_iinc 21 [(0, .ref (gz_ad (cz_G Z) o0)), (1, .int x5_), (2, .int x6_)] C d_Ba_count_21 rfl (by decide) rfl (by rw [ex6_]; rfl) rfl ?_
        refine jr_goto 24 4 C d_Ba_count_24 (by decide) ?_
        refine jr_sub [0, 1, 2] rfl ?_
        exact ih o0 x5_ x6_ k0 h
def f_Ba_count (o0 : Nat) (m : jz_M) : Option (Int32) :=
  f_Ba_count_4 m 1000 o0 0 0
set_option maxHeartbeats 4000000 in
set_option maxRecDepth 100000 in
theorem c_Ba_count {Z : cz_Z} (l : Launch) (hI : jz_I (cz_G Z)) {o0 : Nat} {m : jz_M} {r : Int32} (ko0 : kz_Ba o0) (h : f_Ba_count o0 m = some r) : jz_m l y_Ba_count cd_Ba_count rm_Ba_count (cz_G Z) [.ref (gz_ad (cz_G Z) o0)] m (some (.int r)) m := by
  refine jz_met (own := R_Ba) (by decide) rfl hI (Nat.le_of_ble_eq_true rfl) (fun X hX C => ?_)
  subst hX
  show jz_J X 3 (cz_G Z) _ m [(0, .ref (gz_ad (cz_G Z) o0))] 0 []
  unfold f_Ba_count at h
  refine jr_iconst 0 0 C d_Ba_count_0 (by decide) ?_
  refine jr_istore_n 1 [(0, .ref (gz_ad (cz_G Z) o0)), (1, .int 0)] C d_Ba_count_1 rfl (by decide) rfl ?_
  refine jr_iconst 2 0 C d_Ba_count_2 (by decide) ?_
  refine jr_istore_n 3 [(0, .ref (gz_ad (cz_G Z) o0)), (1, .int 0), (2, .int 0)] C d_Ba_count_3 rfl (by decide) rfl ?_
  refine jr_sub [0, 1, 2] rfl ?_
  exact t_Ba_count_4 C 1000 o0 0 0 ko0 h
abbrev rm_AR_summary : Room := { frames := 4, cells := 0, slots := 0, locals := 90 }
abbrev cd_AR_summary : Cond := .code y_AR_summary b_AR_summary 7 (some .int)
def f_AR_summary_23 : Nat → Int32 → Int32 → Int32 → Int32 → Nat → Int32 → jz_M → Option (Int32 × jz_M)
  | 0, _, _, _, _, _, _, _ => none
  | fu + 1, x1, x2, x3, x4, o5, x6, m =>
    if 6 ≤ x6 then
      (f_Ba_count o5 m).bind fun v2_ =>
      some (v2_, m)
    else
      (f_AR_isReached x6 x1 x2 x3 x4 m).bind fun v3_ =>
      if v3_ = 0 then
        jz_n (x6 + 1) fun x5_ =>
        f_AR_summary_23 fu x1 x2 x3 x4 o5 x5_ m
      else
        (f_AR_baseOf x6 x3 m).bind fun v6_ =>
        (f_Ba_compareWithSummary v6_ o5 x2 m).bind fun v7_ =>
        jz_n (x6 + 1) fun x8_ =>
        f_AR_summary_23 fu x1 x2 x3 x4 o5 x8_ v7_
set_option maxHeartbeats 4000000 in
set_option maxRecDepth 100000 in
theorem t_AR_summary_23 {Z : cz_Z} {X : jz_X} {r : Int32 × jz_M} (C : jz_C X 7 b_AR_summary R_AR (some .int) rm_AR_summary (cz_G Z)) : ∀ (fu : Nat) (x1 : Int32) (x2 : Int32) (x3 : Int32) (x4 : Int32) (o5 : Nat) (x6 : Int32) (m : jz_M) , kz_Ba o5 → f_AR_summary_23 fu x1 x2 x3 x4 o5 x6 m = some r → jz_J X 7 (cz_G Z) (jz_q X (cz_G Z) (some (.int r.1)) r.2) m [(0, .ref (gz_ad (cz_G Z) 0)), (1, .int x1), (2, .int x2), (3, .int x3), (4, .int x4), (5, .ref (gz_ad (cz_G Z) o5)), (6, .int x6)] 23 [] := by
  intro fu
  induction fu with
  | zero => intro x1 x2 x3 x4 o5 x6 m k5 h; cases h
  | succ fu ih =>
    intro x1 x2 x3 x4 o5 x6 m k5 h
    rw [f_AR_summary_23] at h
    refine jr_iload 23 C d_AR_summary_23 rfl ?_
    refine jr_bipush 25 6 C d_AR_summary_25 (by decide) ?_
    refine jr_icmp_ge 27 63 C d_AR_summary_27 (by decide) (fun c1_ => ?_) (fun c1_ => ?_)
    · have h := jz_t c1_ h
      refine jr_aload 63 C d_AR_summary_63 rfl ?_
      obtain ⟨v2_, ev2_, h⟩ := jz_b h
      refine jr_callVN 65 [] C d_AR_summary_65 (c_Ba_count (xz_l X) C.2.2.2.2.2.2.1 k5 ev2_) sz_Ba_count tz_Ba_count lk_AR_113 (oz_Ba k5) rfl (by decide) rfl rfl (Nat.le_of_ble_eq_true rfl) rfl ?_
      obtain rfl := Option.some.inj h
      exact jr_iret 68 (v := v2_) C d_AR_summary_68 rfl
    · have h := jz_f c1_ h
      refine jr_aload_n 30 C d_AR_summary_30 rfl ?_
      refine jr_iload 31 C d_AR_summary_31 rfl ?_
      refine jr_iload_n 33 C d_AR_summary_33 rfl ?_
      refine jr_iload_n 34 C d_AR_summary_34 rfl ?_
      refine jr_iload_n 35 C d_AR_summary_35 rfl ?_
      refine jr_iload 36 C d_AR_summary_36 rfl ?_
      obtain ⟨v3_, ev3_, h⟩ := jz_b h
      refine jr_callV 38 [.int x6, .int x1, .int x2, .int x3, .int x4] C d_AR_summary_38 (c_AR_isReached (xz_l X) C.2.2.2.2.2.2.1  ev3_) sz_AR_isReached tz_AR_isReached lk_AR_94 oz_AR rfl (by decide) rfl rfl (Nat.le_of_ble_eq_true rfl) rfl ?_
      refine jr_if_eq 41 57 C d_AR_summary_41 (by decide) (fun c4_ => ?_) (fun c4_ => ?_)
      · have h := jz_t c4_ h
        obtain ⟨x5_, ex5_, h⟩ := jz_ne h
        refine jr_iinc 57 [(0, .ref (gz_ad (cz_G Z) 0)), (1, .int x1), (2, .int x2), (3, .int x3), (4, .int x4), (5, .ref (gz_ad (cz_G Z) o5)), (6, .int x5_)] C d_AR_summary_57 rfl (by decide) rfl (by rw [ex5_]; rfl) rfl ?_
        refine jr_goto 60 23 C d_AR_summary_60 (by decide) ?_
        refine jr_sub [0, 1, 2, 3, 4, 5, 6] rfl ?_
        exact ih x1 x2 x3 x4 o5 x5_ m k5 h
      · have h := jz_f c4_ h
        refine jr_aload_n 44 C d_AR_summary_44 rfl ?_
        refine jr_iload 45 C d_AR_summary_45 rfl ?_
        refine jr_iload_n 47 C d_AR_summary_47 rfl ?_
        obtain ⟨v6_, ev6_, h⟩ := jz_b h
        refine jr_callV 48 [.int x6, .int x3] C d_AR_summary_48 (c_AR_baseOf (xz_l X) C.2.2.2.2.2.2.1  ev6_) sz_AR_baseOf tz_AR_baseOf lk_AR_87 oz_AR rfl (by decide) rfl rfl (Nat.le_of_ble_eq_true rfl) rfl ?_
        refine jr_aload 51 C d_AR_summary_51 rfl ?_
        refine jr_iload_n 53 C d_AR_summary_53 rfl ?_
        obtain ⟨v7_, ev7_, h⟩ := jz_b h
        refine jr_callVN 54 [.ref (gz_ad (cz_G Z) o5), .int x2] C d_AR_summary_54 (c_Ba_compareWithSummary (xz_l X) C.2.2.2.2.2.2.1 (kr_AR_baseOf ev6_) k5 ev7_) sz_Ba_compareWithSummary tz_Ba_compareWithSummary lk_AR_109 (oz_Ba (kr_AR_baseOf ev6_)) rfl (by decide) rfl rfl (Nat.le_of_ble_eq_true rfl) rfl ?_
        obtain ⟨x8_, ex8_, h⟩ := jz_ne h
        refine jr_iinc 57 [(0, .ref (gz_ad (cz_G Z) 0)), (1, .int x1), (2, .int x2), (3, .int x3), (4, .int x4), (5, .ref (gz_ad (cz_G Z) o5)), (6, .int x8_)] C d_AR_summary_57 rfl (by decide) rfl (by rw [ex8_]; rfl) rfl ?_
        refine jr_goto 60 23 C d_AR_summary_60 (by decide) ?_
        refine jr_sub [0, 1, 2, 3, 4, 5, 6] rfl ?_
        exact ih x1 x2 x3 x4 o5 x8_ v7_ k5 h
def f_AR_summary (a1 : Int32) (a2 : Int32) (a3 : Int32) (a4 : Int32) (m : jz_M) : Option (Int32 × jz_M) :=
  (f_AR_checkSender a1 a2 m).bind fun v1_ =>
  (f_AR_checkLevel a1 a3 m).bind fun v2_ =>
  (f_AR_baseOf a1 a3 m).bind fun v3_ =>
  f_AR_summary_23 1000 a1 a2 a3 a4 v3_ 0 m
set_option maxHeartbeats 4000000 in
set_option maxRecDepth 100000 in
theorem c_AR_summary {Z : cz_Z} (l : Launch) (hI : jz_I (cz_G Z)) {a1 : Int32} {a2 : Int32} {a3 : Int32} {a4 : Int32} {m : jz_M} {r : Int32 × jz_M} (h : f_AR_summary a1 a2 a3 a4 m = some r) : jz_m l y_AR_summary cd_AR_summary rm_AR_summary (cz_G Z) [.ref (gz_ad (cz_G Z) 0), .int a1, .int a2, .int a3, .int a4] m (some (.int r.1)) r.2 := by
  refine jz_met (own := R_AR) (by decide) rfl hI (Nat.le_of_ble_eq_true rfl) (fun X hX C => ?_)
  subst hX
  show jz_J X 7 (cz_G Z) _ m [(0, .ref (gz_ad (cz_G Z) 0)), (1, .int a1), (2, .int a2), (3, .int a3), (4, .int a4)] 0 []
  unfold f_AR_summary at h
  refine jr_aload_n 0 C d_AR_summary_0 rfl ?_
  refine jr_iload_n 1 C d_AR_summary_1 rfl ?_
  refine jr_iload_n 2 C d_AR_summary_2 rfl ?_
  obtain ⟨v1_, ev1_, h⟩ := jz_b h
  refine jr_callV 3 [.int a1, .int a2] C d_AR_summary_3 (c_AR_checkSender (xz_l X) C.2.2.2.2.2.2.1 ev1_) sz_AR_checkSender tz_AR_checkSender lk_AR_73 oz_AR rfl (by decide) rfl rfl (Nat.le_of_ble_eq_true rfl) rfl ?_
  refine jr_aload_n 6 C d_AR_summary_6 rfl ?_
  refine jr_iload_n 7 C d_AR_summary_7 rfl ?_
  refine jr_iload_n 8 C d_AR_summary_8 rfl ?_
  obtain ⟨v2_, ev2_, h⟩ := jz_b h
  refine jr_callV 9 [.int a1, .int a3] C d_AR_summary_9 (c_AR_checkLevel (xz_l X) C.2.2.2.2.2.2.1 ev2_) sz_AR_checkLevel tz_AR_checkLevel lk_AR_84 oz_AR rfl (by decide) rfl rfl (Nat.le_of_ble_eq_true rfl) rfl ?_
  refine jr_aload_n 12 C d_AR_summary_12 rfl ?_
  refine jr_iload_n 13 C d_AR_summary_13 rfl ?_
  refine jr_iload_n 14 C d_AR_summary_14 rfl ?_
  obtain ⟨v3_, ev3_, h⟩ := jz_b h
  refine jr_callV 15 [.int a1, .int a3] C d_AR_summary_15 (c_AR_baseOf (xz_l X) C.2.2.2.2.2.2.1 ev3_) sz_AR_baseOf tz_AR_baseOf lk_AR_87 oz_AR rfl (by decide) rfl rfl (Nat.le_of_ble_eq_true rfl) rfl ?_
  refine jr_astore 18 [(0, .ref (gz_ad (cz_G Z) 0)), (1, .int a1), (2, .int a2), (3, .int a3), (4, .int a4), (5, .ref (gz_ad (cz_G Z) v3_))] C d_AR_summary_18 rfl (by decide) rfl ?_
  refine jr_iconst 20 0 C d_AR_summary_20 (by decide) ?_
  refine jr_istore 21 [(0, .ref (gz_ad (cz_G Z) 0)), (1, .int a1), (2, .int a2), (3, .int a3), (4, .int a4), (5, .ref (gz_ad (cz_G Z) v3_)), (6, .int 0)] C d_AR_summary_21 rfl (by decide) rfl ?_
  refine jr_sub [0, 1, 2, 3, 4, 5, 6] rfl ?_
  exact t_AR_summary_23 C 1000 a1 a2 a3 a4 v3_ 0 m (kr_AR_baseOf ev3_) h
abbrev rm_Ba_isAsked : Room := { frames := 0, cells := 0, slots := 0, locals := 0 }
abbrev cd_Ba_isAsked : Cond := .code y_Ba_isAsked b_Ba_isAsked 3 (some .boolean)
def f_Ba_isAsked (o0 : Nat) (a1 : Int32) (a2 : Int32) (m : jz_M) : Option (Int32) :=
  (jz_ix 42 a1).bind fun j1_ =>
  if (((m (o0 + 10) j1_) >>> (a2 &&& 31)) &&& 1) = 0 then
    some 0
  else
    some 1
set_option maxHeartbeats 4000000 in
set_option maxRecDepth 100000 in
theorem c_Ba_isAsked {Z : cz_Z} (l : Launch) (hI : jz_I (cz_G Z)) {o0 : Nat} {a1 : Int32} {a2 : Int32} {m : jz_M} {r : Int32} (ko0 : kz_Ba o0) (h : f_Ba_isAsked o0 a1 a2 m = some r) : jz_m l y_Ba_isAsked cd_Ba_isAsked rm_Ba_isAsked (cz_G Z) [.ref (gz_ad (cz_G Z) o0), .int a1, .int a2] m (some (.int r)) m := by
  refine jz_met (own := R_Ba) (by decide) rfl hI (Nat.le_of_ble_eq_true rfl) (fun X hX C => ?_)
  subst hX
  show jz_J X 3 (cz_G Z) _ m [(0, .ref (gz_ad (cz_G Z) o0)), (1, .int a1), (2, .int a2)] 0 []
  unfold f_Ba_isAsked at h
  refine jr_aload_n 0 C d_Ba_isAsked_0 rfl ?_
  refine gf_Ba_40 1 C d_Ba_isAsked_1 ko0 ?_
  refine jr_iload_n 4 C d_Ba_isAsked_4 rfl ?_
  obtain ⟨j1_, ej1_, h⟩ := jz_b h
  refine jr_iald 5 C d_Ba_isAsked_5 (zk_Ba_asked ko0) ej1_ ?_
  refine jr_iload_n 6 C d_Ba_isAsked_6 rfl ?_
  refine jr_ishr 7 C d_Ba_isAsked_7 ?_
  refine jr_iconst 8 1 C d_Ba_isAsked_8 (by decide) ?_
  refine jr_iand 9 C d_Ba_isAsked_9 ?_
  refine jr_if_eq 10 17 C d_Ba_isAsked_10 (by decide) (fun c2_ => ?_) (fun c2_ => ?_)
  · have h := jz_t c2_ h
    refine jr_iconst 17 0 C d_Ba_isAsked_17 (by decide) ?_
    obtain rfl := Option.some.inj h
    exact jr_zret 18 (v := 0) C d_Ba_isAsked_18 rfl nb_0
  · have h := jz_f c2_ h
    refine jr_iconst 13 1 C d_Ba_isAsked_13 (by decide) ?_
    refine jr_goto 14 18 C d_Ba_isAsked_14 (by decide) ?_
    obtain rfl := Option.some.inj h
    exact jr_zret 18 (v := 1) C d_Ba_isAsked_18 rfl nb_1
