abbrev rm_AR_wayToExit : Room := { frames := 4, cells := 0, slots := 0, locals := 94 }
abbrev cd_AR_wayToExit : Cond := .code y_AR_wayToExit b_AR_wayToExit 5 (some .int)
def f_AR_wayToExit_25 : Nat → Int32 → Nat → Int32 → Int32 → jz_M → Option (Int32 × jz_M)
  | 0, _, _, _, _, _ => none
  | fu + 1, x1, o2, x3, x4, m =>
    if 6 ≤ x4 then
      (f_Wa_wayTo x3 m).bind fun v2_ =>
      some (v2_, m)
    else
      if x4 = x1 then
        jz_n (x4 + 1) fun x4_ =>
        f_AR_wayToExit_25 fu x1 o2 x3 x4_ m
      else
        (f_AR_nameOf x4 0 m).bind fun v5_ =>
        (jz_ix 42 v5_).bind fun j6_ =>
        if (m (o2 + 5) j6_) = 0 then
          jz_n (x4 + 1) fun x8_ =>
          f_AR_wayToExit_25 fu x1 o2 x3 x8_ m
        else
          (f_Wa_nearer x3 x4 m).bind fun v9_ =>
          jz_n (x4 + 1) fun x10_ =>
          f_AR_wayToExit_25 fu x1 o2 v9_ x10_ m
set_option maxHeartbeats 4000000 in
set_option maxRecDepth 100000 in
theorem t_AR_wayToExit_25 {Z : cz_Z} {X : jz_X} {r : Int32 × jz_M} (C : jz_C X 5 b_AR_wayToExit R_AR (some .int) rm_AR_wayToExit (cz_G Z)) : ∀ (fu : Nat) (x1 : Int32) (o2 : Nat) (x3 : Int32) (x4 : Int32) (m : jz_M) , kz_Ba o2 → f_AR_wayToExit_25 fu x1 o2 x3 x4 m = some r → jz_J X 5 (cz_G Z) (jz_q X (cz_G Z) (some (.int r.1)) r.2) m [(0, .ref (gz_ad (cz_G Z) 0)), (1, .int x1), (2, .ref (gz_ad (cz_G Z) o2)), (3, .int x3), (4, .int x4)] 25 [] := by
  intro fu
  induction fu with
  | zero => intro x1 o2 x3 x4 m k2 h; cases h
  | succ fu ih =>
    intro x1 o2 x3 x4 m k2 h
    rw [f_AR_wayToExit_25] at h
    refine jr_iload 25 C d_AR_wayToExit_25 rfl ?_
    refine jr_bipush 27 6 C d_AR_wayToExit_27 (by decide) ?_
    refine jr_icmp_ge 29 69 C d_AR_wayToExit_29 (by decide) (fun c1_ => ?_) (fun c1_ => ?_)
    · have h := jz_t c1_ h
      refine jr_aload_n 69 C d_AR_wayToExit_69 rfl ?_
      refine gf_AR_47 70 C d_AR_wayToExit_70 ?_
      refine jr_iload_n 73 C d_AR_wayToExit_73 rfl ?_
      obtain ⟨v2_, ev2_, h⟩ := jz_b h
      refine jr_callVN 74 [.int x3] C d_AR_wayToExit_74 (c_Wa_wayTo (xz_l X) C.2.2.2.2.2.2.1  ev2_) sz_Wa_wayTo tz_Wa_wayTo lk_AR_266 oz_Wa rfl (by decide) rfl rfl (Nat.le_of_ble_eq_true rfl) rfl ?_
      obtain rfl := Option.some.inj h
      exact jr_iret 77 (v := v2_) C d_AR_wayToExit_77 rfl
    · have h := jz_f c1_ h
      refine jr_iload 32 C d_AR_wayToExit_32 rfl ?_
      refine jr_iload_n 34 C d_AR_wayToExit_34 rfl ?_
      refine jr_icmp_eq 35 63 C d_AR_wayToExit_35 (by decide) (fun c3_ => ?_) (fun c3_ => ?_)
      · have h := jz_t c3_ h
        obtain ⟨x4_, ex4_, h⟩ := jz_ne h
        refine jr_iinc 63 [(0, .ref (gz_ad (cz_G Z) 0)), (1, .int x1), (2, .ref (gz_ad (cz_G Z) o2)), (3, .int x3), (4, .int x4_)] C d_AR_wayToExit_63 rfl (by decide) rfl (by rw [ex4_]; rfl) rfl ?_
        refine jr_goto 66 25 C d_AR_wayToExit_66 (by decide) ?_
        refine jr_sub [0, 1, 2, 3, 4] rfl ?_
        exact ih x1 o2 x3 x4_ m k2 h
      · have h := jz_f c3_ h
        refine jr_aload_n 38 C d_AR_wayToExit_38 rfl ?_
        refine gf_AR_279 39 C d_AR_wayToExit_39 k2 ?_
        refine jr_iload 42 C d_AR_wayToExit_42 rfl ?_
        refine jr_iconst 44 0 C d_AR_wayToExit_44 (by decide) ?_
        obtain ⟨v5_, ev5_, h⟩ := jz_b h
        refine jr_callS 45 [.int x4, .int 0] C d_AR_wayToExit_45 (c_AR_nameOf (xz_l X) C.2.2.2.2.2.2.1  ev5_) sz_AR_nameOf tz_AR_nameOf lk_AR_215 (by decide) rfl rfl (Nat.le_of_ble_eq_true rfl) rfl ?_
        obtain ⟨j6_, ej6_, h⟩ := jz_b h
        refine jr_zald 48 C d_AR_wayToExit_48 (zk_Ba_exits k2) ej6_ ?_
        refine jr_if_eq 49 63 C d_AR_wayToExit_49 (by decide) (fun c7_ => ?_) (fun c7_ => ?_)
        · have h := jz_t c7_ h
          obtain ⟨x8_, ex8_, h⟩ := jz_ne h
          refine jr_iinc 63 [(0, .ref (gz_ad (cz_G Z) 0)), (1, .int x1), (2, .ref (gz_ad (cz_G Z) o2)), (3, .int x3), (4, .int x8_)] C d_AR_wayToExit_63 rfl (by decide) rfl (by rw [ex8_]; rfl) rfl ?_
          refine jr_goto 66 25 C d_AR_wayToExit_66 (by decide) ?_
          refine jr_sub [0, 1, 2, 3, 4] rfl ?_
          exact ih x1 o2 x3 x8_ m k2 h
        · have h := jz_f c7_ h
          refine jr_aload_n 52 C d_AR_wayToExit_52 rfl ?_
          refine gf_AR_47 53 C d_AR_wayToExit_53 ?_
          refine jr_iload_n 56 C d_AR_wayToExit_56 rfl ?_
          refine jr_iload 57 C d_AR_wayToExit_57 rfl ?_
          obtain ⟨v9_, ev9_, h⟩ := jz_b h
          refine jr_callVN 59 [.int x3, .int x4] C d_AR_wayToExit_59 (c_Wa_nearer (xz_l X) C.2.2.2.2.2.2.1  ev9_) sz_Wa_nearer tz_Wa_nearer lk_AR_276 oz_Wa rfl (by decide) rfl rfl (Nat.le_of_ble_eq_true rfl) rfl ?_
          refine jr_istore_n 62 [(0, .ref (gz_ad (cz_G Z) 0)), (1, .int x1), (2, .ref (gz_ad (cz_G Z) o2)), (3, .int v9_), (4, .int x4)] C d_AR_wayToExit_62 rfl (by decide) rfl ?_
          obtain ⟨x10_, ex10_, h⟩ := jz_ne h
          refine jr_iinc 63 [(0, .ref (gz_ad (cz_G Z) 0)), (1, .int x1), (2, .ref (gz_ad (cz_G Z) o2)), (3, .int v9_), (4, .int x10_)] C d_AR_wayToExit_63 rfl (by decide) rfl (by rw [ex10_]; rfl) rfl ?_
          refine jr_goto 66 25 C d_AR_wayToExit_66 (by decide) ?_
          refine jr_sub [0, 1, 2, 3, 4] rfl ?_
          exact ih x1 o2 v9_ x10_ m k2 h
def f_AR_wayToExit (a1 : Int32) (m : jz_M) : Option (Int32 × jz_M) :=
  (f_AR_baseOf a1 1 m).bind fun v1_ =>
  (f_AR_nameOf a1 0 m).bind fun v2_ =>
  (f_Wa_find v1_ v2_ m).bind fun v3_ =>
  f_AR_wayToExit_25 1000 a1 v1_ (-1) 0 v3_
set_option maxHeartbeats 4000000 in
set_option maxRecDepth 100000 in
theorem c_AR_wayToExit {Z : cz_Z} (l : Launch) (hI : jz_I (cz_G Z)) {a1 : Int32} {m : jz_M} {r : Int32 × jz_M} (h : f_AR_wayToExit a1 m = some r) : jz_m l y_AR_wayToExit cd_AR_wayToExit rm_AR_wayToExit (cz_G Z) [.ref (gz_ad (cz_G Z) 0), .int a1] m (some (.int r.1)) r.2 := by
  refine jz_met (own := R_AR) (by decide) rfl hI (Nat.le_of_ble_eq_true rfl) (fun X hX C => ?_)
  subst hX
  show jz_J X 5 (cz_G Z) _ m [(0, .ref (gz_ad (cz_G Z) 0)), (1, .int a1)] 0 []
  unfold f_AR_wayToExit at h
  refine jr_aload_n 0 C d_AR_wayToExit_0 rfl ?_
  refine jr_iload_n 1 C d_AR_wayToExit_1 rfl ?_
  refine jr_iconst 2 1 C d_AR_wayToExit_2 (by decide) ?_
  obtain ⟨v1_, ev1_, h⟩ := jz_b h
  refine jr_callV 3 [.int a1, .int 1] C d_AR_wayToExit_3 (c_AR_baseOf (xz_l X) C.2.2.2.2.2.2.1 ev1_) sz_AR_baseOf tz_AR_baseOf lk_AR_87 oz_AR rfl (by decide) rfl rfl (Nat.le_of_ble_eq_true rfl) rfl ?_
  refine jr_astore_n 6 [(0, .ref (gz_ad (cz_G Z) 0)), (1, .int a1), (2, .ref (gz_ad (cz_G Z) v1_))] C d_AR_wayToExit_6 rfl (by decide) rfl ?_
  refine jr_aload_n 7 C d_AR_wayToExit_7 rfl ?_
  refine gf_AR_47 8 C d_AR_wayToExit_8 ?_
  refine jr_aload_n 11 C d_AR_wayToExit_11 rfl ?_
  refine jr_iload_n 12 C d_AR_wayToExit_12 rfl ?_
  refine jr_iconst 13 0 C d_AR_wayToExit_13 (by decide) ?_
  obtain ⟨v2_, ev2_, h⟩ := jz_b h
  refine jr_callS 14 [.int a1, .int 0] C d_AR_wayToExit_14 (c_AR_nameOf (xz_l X) C.2.2.2.2.2.2.1 ev2_) sz_AR_nameOf tz_AR_nameOf lk_AR_215 (by decide) rfl rfl (Nat.le_of_ble_eq_true rfl) rfl ?_
  obtain ⟨v3_, ev3_, h⟩ := jz_b h
  refine jr_callVN 17 [.ref (gz_ad (cz_G Z) v1_), .int v2_] C d_AR_wayToExit_17 (c_Wa_find (xz_l X) C.2.2.2.2.2.2.1 (kr_AR_baseOf ev1_) ev3_) sz_Wa_find tz_Wa_find lk_AR_263 oz_Wa rfl (by decide) rfl rfl (Nat.le_of_ble_eq_true rfl) rfl ?_
  refine jr_iconst 20 (-1) C d_AR_wayToExit_20 (by decide) ?_
  refine jr_istore_n 21 [(0, .ref (gz_ad (cz_G Z) 0)), (1, .int a1), (2, .ref (gz_ad (cz_G Z) v1_)), (3, .int (-1))] C d_AR_wayToExit_21 rfl (by decide) rfl ?_
  refine jr_iconst 22 0 C d_AR_wayToExit_22 (by decide) ?_
  refine jr_istore 23 [(0, .ref (gz_ad (cz_G Z) 0)), (1, .int a1), (2, .ref (gz_ad (cz_G Z) v1_)), (3, .int (-1)), (4, .int 0)] C d_AR_wayToExit_23 rfl (by decide) rfl ?_
  refine jr_sub [0, 1, 2, 3, 4] rfl ?_
  exact t_AR_wayToExit_25 C 1000 a1 v1_ (-1) 0 v3_ (kr_AR_baseOf ev1_) h
abbrev rm_AR_wayFrom : Room := { frames := 5, cells := 0, slots := 0, locals := 119 }
abbrev cd_AR_wayFrom : Cond := .code y_AR_wayFrom b_AR_wayFrom 4 (some .int)
def f_AR_wayFrom_57 (x1 : Int32) (x2 : Int32) (m : jz_M) : Option (Int32 × jz_M) :=
  (f_AR_hasLevel x1 2 m).bind fun v1_ =>
  if v1_ = 0 then
    (f_AR_wayToExit x1 m).bind fun v3_ =>
    some (v3_.1, v3_.2)
  else
    (jz_ix 6 x2).bind fun j4_ =>
    (f_AR_wayToArea x1 (m 1 j4_) m).bind fun v5_ =>
    some (v5_.1, v5_.2)
set_option maxHeartbeats 4000000 in
set_option maxRecDepth 100000 in
theorem t_AR_wayFrom_57 {Z : cz_Z} {X : jz_X} {r : Int32 × jz_M} (C : jz_C X 4 b_AR_wayFrom R_AR (some .int) rm_AR_wayFrom (cz_G Z)) : ∀ (x1 : Int32) (x2 : Int32) (m : jz_M) , f_AR_wayFrom_57 x1 x2 m = some r → jz_J X 4 (cz_G Z) (jz_q X (cz_G Z) (some (.int r.1)) r.2) m [(0, .ref (gz_ad (cz_G Z) 0)), (1, .int x1), (2, .int x2)] 57 [] := by
  intro x1 x2 m h
  unfold f_AR_wayFrom_57 at h
  refine jr_aload_n 57 C d_AR_wayFrom_57 rfl ?_
  refine jr_iload_n 58 C d_AR_wayFrom_58 rfl ?_
  refine jr_iconst 59 2 C d_AR_wayFrom_59 (by decide) ?_
  obtain ⟨v1_, ev1_, h⟩ := jz_b h
  refine jr_callV 60 [.int x1, .int 2] C d_AR_wayFrom_60 (c_AR_hasLevel (xz_l X) C.2.2.2.2.2.2.1 ev1_) sz_AR_hasLevel tz_AR_hasLevel lk_AR_134 oz_AR rfl (by decide) rfl rfl (Nat.le_of_ble_eq_true rfl) rfl ?_
  refine jr_if_eq 63 80 C d_AR_wayFrom_63 (by decide) (fun c2_ => ?_) (fun c2_ => ?_)
  · have h := jz_t c2_ h
    refine jr_aload_n 80 C d_AR_wayFrom_80 rfl ?_
    refine jr_iload_n 81 C d_AR_wayFrom_81 rfl ?_
    obtain ⟨v3_, ev3_, h⟩ := jz_b h
    refine jr_callV 82 [.int x1] C d_AR_wayFrom_82 (c_AR_wayToExit (xz_l X) C.2.2.2.2.2.2.1  ev3_) sz_AR_wayToExit tz_AR_wayToExit lk_AR_272 oz_AR rfl (by decide) rfl rfl (Nat.le_of_ble_eq_true rfl) rfl ?_
    obtain rfl := Option.some.inj h
    exact jr_iret 85 (v := v3_.1) C d_AR_wayFrom_85 rfl
  · have h := jz_f c2_ h
    refine jr_aload_n 66 C d_AR_wayFrom_66 rfl ?_
    refine jr_iload_n 67 C d_AR_wayFrom_67 rfl ?_
    refine jr_aload_n 68 C d_AR_wayFrom_68 rfl ?_
    refine gf_AR_9 69 C d_AR_wayFrom_69 ?_
    refine jr_iload_n 72 C d_AR_wayFrom_72 rfl ?_
    obtain ⟨j4_, ej4_, h⟩ := jz_b h
    refine jr_iald 73 C d_AR_wayFrom_73 zk_AR_areas ej4_ ?_
    obtain ⟨v5_, ev5_, h⟩ := jz_b h
    refine jr_callV 74 [.int x1, .int (m 1 j4_)] C d_AR_wayFrom_74 (c_AR_wayToArea (xz_l X) C.2.2.2.2.2.2.1  ev5_) sz_AR_wayToArea tz_AR_wayToArea lk_AR_269 oz_AR rfl (by decide) rfl rfl (Nat.le_of_ble_eq_true rfl) rfl ?_
    refine jr_goto 77 85 C d_AR_wayFrom_77 (by decide) ?_
    obtain rfl := Option.some.inj h
    exact jr_iret 85 (v := v5_.1) C d_AR_wayFrom_85 rfl
def f_AR_wayFrom (a1 : Int32) (a2 : Int32) (m : jz_M) : Option (Int32 × jz_M) :=
  (f_AR_hasLevel a1 1 m).bind fun v1_ =>
  if v1_ = 0 then
    f_AR_wayFrom_57 a1 a2 m
  else
    (jz_ix 6 a1).bind fun j3_ =>
    (jz_ix 6 a2).bind fun j4_ =>
    if ¬ (m 1 j3_) = (m 1 j4_) then
      f_AR_wayFrom_57 a1 a2 m
    else
      (f_AR_baseOf a1 1 m).bind fun v6_ =>
      (f_AR_nameOf a1 0 m).bind fun v7_ =>
      (f_Wa_find v6_ v7_ m).bind fun v8_ =>
      (f_Wa_wayTo a2 v8_).bind fun v9_ =>
      if v9_ < 0 then
        f_AR_wayFrom_57 a1 a2 v8_
      else
        some (v9_, v8_)
set_option maxHeartbeats 4000000 in
set_option maxRecDepth 100000 in
theorem c_AR_wayFrom {Z : cz_Z} (l : Launch) (hI : jz_I (cz_G Z)) {a1 : Int32} {a2 : Int32} {m : jz_M} {r : Int32 × jz_M} (h : f_AR_wayFrom a1 a2 m = some r) : jz_m l y_AR_wayFrom cd_AR_wayFrom rm_AR_wayFrom (cz_G Z) [.ref (gz_ad (cz_G Z) 0), .int a1, .int a2] m (some (.int r.1)) r.2 := by
  refine jz_met (own := R_AR) (by decide) rfl hI (Nat.le_of_ble_eq_true rfl) (fun X hX C => ?_)
  subst hX
  show jz_J X 4 (cz_G Z) _ m [(0, .ref (gz_ad (cz_G Z) 0)), (1, .int a1), (2, .int a2)] 0 []
  unfold f_AR_wayFrom at h
  refine jr_aload_n 0 C d_AR_wayFrom_0 rfl ?_
  refine jr_iload_n 1 C d_AR_wayFrom_1 rfl ?_
  refine jr_iconst 2 1 C d_AR_wayFrom_2 (by decide) ?_
  obtain ⟨v1_, ev1_, h⟩ := jz_b h
  refine jr_callV 3 [.int a1, .int 1] C d_AR_wayFrom_3 (c_AR_hasLevel (xz_l X) C.2.2.2.2.2.2.1 ev1_) sz_AR_hasLevel tz_AR_hasLevel lk_AR_134 oz_AR rfl (by decide) rfl rfl (Nat.le_of_ble_eq_true rfl) rfl ?_
  refine jr_if_eq 6 57 C d_AR_wayFrom_6 (by decide) (fun c2_ => ?_) (fun c2_ => ?_)
  · have h := jz_t c2_ h
    refine jr_sub [0, 1, 2] rfl ?_
    exact t_AR_wayFrom_57 C  a1 a2 m h
  · have h := jz_f c2_ h
    refine jr_aload_n 9 C d_AR_wayFrom_9 rfl ?_
    refine gf_AR_9 10 C d_AR_wayFrom_10 ?_
    refine jr_iload_n 13 C d_AR_wayFrom_13 rfl ?_
    obtain ⟨j3_, ej3_, h⟩ := jz_b h
    refine jr_iald 14 C d_AR_wayFrom_14 zk_AR_areas ej3_ ?_
    refine jr_aload_n 15 C d_AR_wayFrom_15 rfl ?_
    refine gf_AR_9 16 C d_AR_wayFrom_16 ?_
    refine jr_iload_n 19 C d_AR_wayFrom_19 rfl ?_
    obtain ⟨j4_, ej4_, h⟩ := jz_b h
    refine jr_iald 20 C d_AR_wayFrom_20 zk_AR_areas ej4_ ?_
    refine jr_icmp_ne 21 57 C d_AR_wayFrom_21 (by decide) (fun c5_ => ?_) (fun c5_ => ?_)
    · have h := jz_t c5_ h
      refine jr_sub [0, 1, 2] rfl ?_
      exact t_AR_wayFrom_57 C  a1 a2 m h
    · have h := jz_f c5_ h
      refine jr_aload_n 24 C d_AR_wayFrom_24 rfl ?_
      refine gf_AR_47 25 C d_AR_wayFrom_25 ?_
      refine jr_aload_n 28 C d_AR_wayFrom_28 rfl ?_
      refine jr_iload_n 29 C d_AR_wayFrom_29 rfl ?_
      refine jr_iconst 30 1 C d_AR_wayFrom_30 (by decide) ?_
      obtain ⟨v6_, ev6_, h⟩ := jz_b h
      refine jr_callV 31 [.int a1, .int 1] C d_AR_wayFrom_31 (c_AR_baseOf (xz_l X) C.2.2.2.2.2.2.1  ev6_) sz_AR_baseOf tz_AR_baseOf lk_AR_87 oz_AR rfl (by decide) rfl rfl (Nat.le_of_ble_eq_true rfl) rfl ?_
      refine jr_iload_n 34 C d_AR_wayFrom_34 rfl ?_
      refine jr_iconst 35 0 C d_AR_wayFrom_35 (by decide) ?_
      obtain ⟨v7_, ev7_, h⟩ := jz_b h
      refine jr_callS 36 [.int a1, .int 0] C d_AR_wayFrom_36 (c_AR_nameOf (xz_l X) C.2.2.2.2.2.2.1  ev7_) sz_AR_nameOf tz_AR_nameOf lk_AR_215 (by decide) rfl rfl (Nat.le_of_ble_eq_true rfl) rfl ?_
      obtain ⟨v8_, ev8_, h⟩ := jz_b h
      refine jr_callVN 39 [.ref (gz_ad (cz_G Z) v6_), .int v7_] C d_AR_wayFrom_39 (c_Wa_find (xz_l X) C.2.2.2.2.2.2.1 (kr_AR_baseOf ev6_) ev8_) sz_Wa_find tz_Wa_find lk_AR_263 oz_Wa rfl (by decide) rfl rfl (Nat.le_of_ble_eq_true rfl) rfl ?_
      refine jr_aload_n 42 C d_AR_wayFrom_42 rfl ?_
      refine gf_AR_47 43 C d_AR_wayFrom_43 ?_
      refine jr_iload_n 46 C d_AR_wayFrom_46 rfl ?_
      obtain ⟨v9_, ev9_, h⟩ := jz_b h
      refine jr_callVN 47 [.int a2] C d_AR_wayFrom_47 (c_Wa_wayTo (xz_l X) C.2.2.2.2.2.2.1  ev9_) sz_Wa_wayTo tz_Wa_wayTo lk_AR_266 oz_Wa rfl (by decide) rfl rfl (Nat.le_of_ble_eq_true rfl) rfl ?_
      refine jr_istore_n 50 [(0, .ref (gz_ad (cz_G Z) 0)), (1, .int a1), (2, .int a2), (3, .int v9_)] C d_AR_wayFrom_50 rfl (by decide) rfl ?_
      refine jr_iload_n 51 C d_AR_wayFrom_51 rfl ?_
      refine jr_if_lt 52 57 C d_AR_wayFrom_52 (by decide) (fun c10_ => ?_) (fun c10_ => ?_)
      · have h := jz_t c10_ h
        refine jr_sub [0, 1, 2] rfl ?_
        exact t_AR_wayFrom_57 C  a1 a2 v8_ h
      · have h := jz_f c10_ h
        refine jr_iload_n 55 C d_AR_wayFrom_55 rfl ?_
        obtain rfl := Option.some.inj h
        exact jr_iret 56 (v := v9_) C d_AR_wayFrom_56 rfl
abbrev rm_AR_route : Room := { frames := 6, cells := 0, slots := 0, locals := 142 }
abbrev cd_AR_route : Cond := .code y_AR_route b_AR_route 3 (some .int)
def f_AR_route (a1 : Int32) (a2 : Int32) (m : jz_M) : Option (Int32 × jz_M) :=
  (f_AR_isRouter a1 m).bind fun v1_ =>
  if v1_ = 0 then
    some ((-1), m)
  else
    (f_AR_isRouter a2 m).bind fun v3_ =>
    if v3_ = 0 then
      some ((-1), m)
    else
      if ¬ a1 = a2 then
        (f_AR_wayFrom a1 a2 m).bind fun v6_ =>
        some (v6_.1, v6_.2)
      else
        some ((-1), m)
set_option maxHeartbeats 4000000 in
set_option maxRecDepth 100000 in
theorem c_AR_route {Z : cz_Z} (l : Launch) (hI : jz_I (cz_G Z)) {a1 : Int32} {a2 : Int32} {m : jz_M} {r : Int32 × jz_M} (h : f_AR_route a1 a2 m = some r) : jz_m l y_AR_route cd_AR_route rm_AR_route (cz_G Z) [.ref (gz_ad (cz_G Z) 0), .int a1, .int a2] m (some (.int r.1)) r.2 := by
  refine jz_met (own := R_AR) (by decide) rfl hI (Nat.le_of_ble_eq_true rfl) (fun X hX C => ?_)
  subst hX
  show jz_J X 3 (cz_G Z) _ m [(0, .ref (gz_ad (cz_G Z) 0)), (1, .int a1), (2, .int a2)] 0 []
  unfold f_AR_route at h
  refine jr_iload_n 0 C d_AR_route_0 rfl ?_
  obtain ⟨v1_, ev1_, h⟩ := jz_b h
  refine jr_callS 1 [.int a1] C d_AR_route_1 (c_AR_isRouter (xz_l X) C.2.2.2.2.2.2.1 ev1_) sz_AR_isRouter tz_AR_isRouter lk_AR_51 (by decide) rfl rfl (Nat.le_of_ble_eq_true rfl) rfl ?_
  refine jr_if_eq 4 19 C d_AR_route_4 (by decide) (fun c2_ => ?_) (fun c2_ => ?_)
  · have h := jz_t c2_ h
    refine jr_iconst 19 (-1) C d_AR_route_19 (by decide) ?_
    obtain rfl := Option.some.inj h
    exact jr_iret 20 (v := (-1)) C d_AR_route_20 rfl
  · have h := jz_f c2_ h
    refine jr_iload_n 7 C d_AR_route_7 rfl ?_
    obtain ⟨v3_, ev3_, h⟩ := jz_b h
    refine jr_callS 8 [.int a2] C d_AR_route_8 (c_AR_isRouter (xz_l X) C.2.2.2.2.2.2.1  ev3_) sz_AR_isRouter tz_AR_isRouter lk_AR_51 (by decide) rfl rfl (Nat.le_of_ble_eq_true rfl) rfl ?_
    refine jr_if_eq 11 19 C d_AR_route_11 (by decide) (fun c4_ => ?_) (fun c4_ => ?_)
    · have h := jz_t c4_ h
      refine jr_iconst 19 (-1) C d_AR_route_19 (by decide) ?_
      obtain rfl := Option.some.inj h
      exact jr_iret 20 (v := (-1)) C d_AR_route_20 rfl
    · have h := jz_f c4_ h
      refine jr_iload_n 14 C d_AR_route_14 rfl ?_
      refine jr_iload_n 15 C d_AR_route_15 rfl ?_
      refine jr_icmp_ne 16 21 C d_AR_route_16 (by decide) (fun c5_ => ?_) (fun c5_ => ?_)
      · have h := jz_t c5_ h
        refine jr_aload_n 21 C d_AR_route_21 rfl ?_
        refine jr_iload_n 22 C d_AR_route_22 rfl ?_
        refine jr_iload_n 23 C d_AR_route_23 rfl ?_
        obtain ⟨v6_, ev6_, h⟩ := jz_b h
        refine jr_callV 24 [.int a1, .int a2] C d_AR_route_24 (c_AR_wayFrom (xz_l X) C.2.2.2.2.2.2.1  ev6_) sz_AR_wayFrom tz_AR_wayFrom lk_AR_171 oz_AR rfl (by decide) rfl rfl (Nat.le_of_ble_eq_true rfl) rfl ?_
        obtain rfl := Option.some.inj h
        exact jr_iret 27 (v := v6_.1) C d_AR_route_27 rfl
      · have h := jz_f c5_ h
        refine jr_iconst 19 (-1) C d_AR_route_19 (by decide) ?_
        obtain rfl := Option.some.inj h
        exact jr_iret 20 (v := (-1)) C d_AR_route_20 rfl
abbrev rm_AR_trace : Room := { frames := 6, cells := 0, slots := 0, locals := 142 }
abbrev cd_AR_trace : Cond := .code y_AR_trace b_AR_trace 6 (some .int)
def f_AR_trace_21 : Nat → Int32 → Int32 → Int32 → jz_M → Option (Int32 × jz_M)
  | 0, _, _, _, _ => none
  | fu + 1, x2, x3, x4, m =>
    if 10 < x4 then
      some ((-1), m)
    else
      if ¬ x3 = x2 then
        (f_AR_wayFrom x3 x2 m).bind fun v3_ =>
        jz_n v3_.1 fun x4_ =>
        if 0 ≤ x4_ then
          jz_n (x4_ - x4_ / 8 * 8) fun x6_ =>
          jz_n (x4 + 1) fun x7_ =>
          f_AR_trace_21 fu x2 x6_ x7_ v3_.2
        else
          some ((-1), v3_.2)
      else
        some (x4, m)
set_option maxHeartbeats 4000000 in
set_option maxRecDepth 100000 in
theorem t_AR_trace_21 {Z : cz_Z} {X : jz_X} {r : Int32 × jz_M} (C : jz_C X 6 b_AR_trace R_AR (some .int) rm_AR_trace (cz_G Z)) : ∀ (fu : Nat) (x2 : Int32) (x3 : Int32) (x4 : Int32) (m : jz_M) , f_AR_trace_21 fu x2 x3 x4 m = some r → jz_J X 6 (cz_G Z) (jz_q X (cz_G Z) (some (.int r.1)) r.2) m [(0, .ref (gz_ad (cz_G Z) 0)), (2, .int x2), (3, .int x3), (4, .int x4)] 21 [] := by
  intro fu
  induction fu with
  | zero => intro x2 x3 x4 m h; cases h
  | succ fu ih =>
    intro x2 x3 x4 m h
    rw [f_AR_trace_21] at h
    refine jr_iload 21 C d_AR_trace_21 rfl ?_
    refine jr_bipush 23 10 C d_AR_trace_23 (by decide) ?_
    refine jr_icmp_gt 25 63 C d_AR_trace_25 (by decide) (fun c1_ => ?_) (fun c1_ => ?_)
    · have h := jz_t c1_ h
      refine jr_iconst 63 (-1) C d_AR_trace_63 (by decide) ?_
      obtain rfl := Option.some.inj h
      exact jr_iret 64 (v := (-1)) C d_AR_trace_64 rfl
    · have h := jz_f c1_ h
      refine jr_iload_n 28 C d_AR_trace_28 rfl ?_
      refine jr_iload_n 29 C d_AR_trace_29 rfl ?_
      refine jr_icmp_ne 30 36 C d_AR_trace_30 (by decide) (fun c2_ => ?_) (fun c2_ => ?_)
      · have h := jz_t c2_ h
        refine jr_aload_n 36 C d_AR_trace_36 rfl ?_
        refine jr_iload_n 37 C d_AR_trace_37 rfl ?_
        refine jr_iload_n 38 C d_AR_trace_38 rfl ?_
        obtain ⟨v3_, ev3_, h⟩ := jz_b h
        refine jr_callV 39 [.int x3, .int x2] C d_AR_trace_39 (c_AR_wayFrom (xz_l X) C.2.2.2.2.2.2.1  ev3_) sz_AR_wayFrom tz_AR_wayFrom lk_AR_171 oz_AR rfl (by decide) rfl rfl (Nat.le_of_ble_eq_true rfl) rfl ?_
        obtain ⟨x4_, ex4_, h⟩ := jz_ne h
        refine jr_top ex4_ ?_
        refine jr_istore 42 [(0, .ref (gz_ad (cz_G Z) 0)), (2, .int x2), (3, .int x3), (4, .int x4), (5, .int x4_)] C d_AR_trace_42 rfl (by decide) rfl ?_
        refine jr_iload 44 C d_AR_trace_44 rfl ?_
        refine jr_if_ge 46 51 C d_AR_trace_46 (by decide) (fun c5_ => ?_) (fun c5_ => ?_)
        · have h := jz_t c5_ h
          refine jr_iload 51 C d_AR_trace_51 rfl ?_
          refine jr_bipush 53 8 C d_AR_trace_53 (by decide) ?_
          refine jr_irem 55 C d_AR_trace_55 (by decide) ?_
          obtain ⟨x6_, ex6_, h⟩ := jz_ne h
          refine jr_top ex6_ ?_
          refine jr_istore_n 56 [(0, .ref (gz_ad (cz_G Z) 0)), (2, .int x2), (3, .int x6_), (4, .int x4), (5, .int x4_)] C d_AR_trace_56 rfl (by decide) rfl ?_
          obtain ⟨x7_, ex7_, h⟩ := jz_ne h
          refine jr_iinc 57 [(0, .ref (gz_ad (cz_G Z) 0)), (2, .int x2), (3, .int x6_), (4, .int x7_), (5, .int x4_)] C d_AR_trace_57 rfl (by decide) rfl (by rw [ex7_]; rfl) rfl ?_
          refine jr_goto 60 21 C d_AR_trace_60 (by decide) ?_
          refine jr_sub [0, 1, 2, 3] rfl ?_
          exact ih x2 x6_ x7_ v3_.2  h
        · have h := jz_f c5_ h
          refine jr_iconst 49 (-1) C d_AR_trace_49 (by decide) ?_
          obtain rfl := Option.some.inj h
          exact jr_iret 50 (v := (-1)) C d_AR_trace_50 rfl
      · have h := jz_f c2_ h
        refine jr_iload 33 C d_AR_trace_33 rfl ?_
        obtain rfl := Option.some.inj h
        exact jr_iret 35 (v := x4) C d_AR_trace_35 rfl
def f_AR_trace (a1 : Int32) (a2 : Int32) (m : jz_M) : Option (Int32 × jz_M) :=
  (f_AR_isRouter a1 m).bind fun v1_ =>
  if v1_ = 0 then
    some ((-1), m)
  else
    (f_AR_isRouter a2 m).bind fun v3_ =>
    if ¬ v3_ = 0 then
      f_AR_trace_21 1000 a2 a1 0 m
    else
      some ((-1), m)
set_option maxHeartbeats 4000000 in
set_option maxRecDepth 100000 in
theorem c_AR_trace {Z : cz_Z} (l : Launch) (hI : jz_I (cz_G Z)) {a1 : Int32} {a2 : Int32} {m : jz_M} {r : Int32 × jz_M} (h : f_AR_trace a1 a2 m = some r) : jz_m l y_AR_trace cd_AR_trace rm_AR_trace (cz_G Z) [.ref (gz_ad (cz_G Z) 0), .int a1, .int a2] m (some (.int r.1)) r.2 := by
  refine jz_met (own := R_AR) (by decide) rfl hI (Nat.le_of_ble_eq_true rfl) (fun X hX C => ?_)
  subst hX
  show jz_J X 6 (cz_G Z) _ m [(0, .ref (gz_ad (cz_G Z) 0)), (1, .int a1), (2, .int a2)] 0 []
  unfold f_AR_trace at h
  refine jr_iload_n 0 C d_AR_trace_0 rfl ?_
  obtain ⟨v1_, ev1_, h⟩ := jz_b h
  refine jr_callS 1 [.int a1] C d_AR_trace_1 (c_AR_isRouter (xz_l X) C.2.2.2.2.2.2.1 ev1_) sz_AR_isRouter tz_AR_isRouter lk_AR_51 (by decide) rfl rfl (Nat.le_of_ble_eq_true rfl) rfl ?_
  refine jr_if_eq 4 14 C d_AR_trace_4 (by decide) (fun c2_ => ?_) (fun c2_ => ?_)
  · have h := jz_t c2_ h
    refine jr_iconst 14 (-1) C d_AR_trace_14 (by decide) ?_
    obtain rfl := Option.some.inj h
    exact jr_iret 15 (v := (-1)) C d_AR_trace_15 rfl
  · have h := jz_f c2_ h
    refine jr_iload_n 7 C d_AR_trace_7 rfl ?_
    obtain ⟨v3_, ev3_, h⟩ := jz_b h
    refine jr_callS 8 [.int a2] C d_AR_trace_8 (c_AR_isRouter (xz_l X) C.2.2.2.2.2.2.1  ev3_) sz_AR_isRouter tz_AR_isRouter lk_AR_51 (by decide) rfl rfl (Nat.le_of_ble_eq_true rfl) rfl ?_
    refine jr_if_ne 11 16 C d_AR_trace_11 (by decide) (fun c4_ => ?_) (fun c4_ => ?_)
    · have h := jz_t c4_ h
      refine jr_iload_n 16 C d_AR_trace_16 rfl ?_
      refine jr_istore_n 17 [(0, .ref (gz_ad (cz_G Z) 0)), (1, .int a1), (2, .int a2), (3, .int a1)] C d_AR_trace_17 rfl (by decide) rfl ?_
      refine jr_iconst 18 0 C d_AR_trace_18 (by decide) ?_
      refine jr_istore 19 [(0, .ref (gz_ad (cz_G Z) 0)), (1, .int a1), (2, .int a2), (3, .int a1), (4, .int 0)] C d_AR_trace_19 rfl (by decide) rfl ?_
      refine jr_sub [0, 2, 3, 4] rfl ?_
      exact t_AR_trace_21 C  1000 a2 a1 0 m h
    · have h := jz_f c4_ h
      refine jr_iconst 14 (-1) C d_AR_trace_14 (by decide) ?_
      obtain rfl := Option.some.inj h
      exact jr_iret 15 (v := (-1)) C d_AR_trace_15 rfl
