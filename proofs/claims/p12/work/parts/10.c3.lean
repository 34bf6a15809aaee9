abbrev rm_Ba_setAsked : Room := { frames := 0, cells := 0, slots := 0, locals := 0 }
abbrev cd_Ba_setAsked : Cond := .code y_Ba_setAsked b_Ba_setAsked 4 none
def f_Ba_setAsked (o0 : Nat) (a1 : Int32) (a2 : Int32) (a3 : Int32) (m : jz_M) : Option (jz_M) :=
  if a3 = 0 then
    (jz_ix 42 a1).bind fun j2_ =>
    (jz_ix 42 a1).bind fun j3_ =>
    jz_n (jz_up m (o0 + 10) j3_ ((m (o0 + 10) j2_) &&& (((1 : Int32) <<< (a2 &&& 31)) ^^^ (-1)))) fun m4_ =>
    some m4_
  else
    (jz_ix 42 a1).bind fun j5_ =>
    (jz_ix 42 a1).bind fun j6_ =>
    jz_n (jz_up m (o0 + 10) j6_ ((m (o0 + 10) j5_) ||| ((1 : Int32) <<< (a2 &&& 31)))) fun m7_ =>
    some m7_
set_option maxHeartbeats 4000000 in
set_option maxRecDepth 100000 in
theorem c_Ba_setAsked {Z : cz_Z} (l : Launch) (hI : jz_I (cz_G Z)) {o0 : Nat} {a1 : Int32} {a2 : Int32} {a3 : Int32} {m : jz_M} {r : jz_M} (ko0 : kz_Ba o0) (h : f_Ba_setAsked o0 a1 a2 a3 m = some r) : jz_m l y_Ba_setAsked cd_Ba_setAsked rm_Ba_setAsked (cz_G Z) [.ref (gz_ad (cz_G Z) o0), .int a1, .int a2, .int a3] m none r := by
  refine jz_met (own := R_Ba) (by decide) rfl hI (Nat.le_of_ble_eq_true rfl) (fun X hX C => ?_)
  subst hX
  show jz_J X 4 (cz_G Z) _ m [(0, .ref (gz_ad (cz_G Z) o0)), (1, .int a1), (2, .int a2), (3, .int a3)] 0 []
  unfold f_Ba_setAsked at h
  refine jr_aload_n 0 C d_Ba_setAsked_0 rfl ?_
  refine gf_Ba_40 1 C d_Ba_setAsked_1 ko0 ?_
  refine jr_iload_n 4 C d_Ba_setAsked_4 rfl ?_
  refine jr_iload_n 5 C d_Ba_setAsked_5 rfl ?_
  refine jr_if_eq 6 22 C d_Ba_setAsked_6 (by decide) (fun c1_ => ?_) (fun c1_ => ?_)
  · have h := jz_t c1_ h
    refine jr_aload_n 22 C d_Ba_setAsked_22 rfl ?_
    refine gf_Ba_40 23 C d_Ba_setAsked_23 ko0 ?_
    refine jr_iload_n 26 C d_Ba_setAsked_26 rfl ?_
    obtain ⟨j2_, ej2_, h⟩ := jz_b h
    refine jr_iald 27 C d_Ba_setAsked_27 (zk_Ba_asked ko0) ej2_ ?_
    refine jr_iconst 28 1 C d_Ba_setAsked_28 (by decide) ?_
    refine jr_iload_n 29 C d_Ba_setAsked_29 rfl ?_
    refine jr_ishl 30 C d_Ba_setAsked_30 ?_
    refine jr_iconst 31 (-1) C d_Ba_setAsked_31 (by decide) ?_
    refine jr_ixor 32 C d_Ba_setAsked_32 ?_
    refine jr_iand 33 C d_Ba_setAsked_33 ?_
    obtain ⟨j3_, ej3_, h⟩ := jz_b h
    obtain ⟨m4_, em4_, h⟩ := jz_ne h
    refine jr_iast 34 C d_Ba_setAsked_34 (zk_Ba_asked ko0) ej3_ ?_
    refine jr_mem em4_ ?_
    obtain rfl := Option.some.inj h
    exact jr_vret 35 C d_Ba_setAsked_35 rfl
  · have h := jz_f c1_ h
    refine jr_aload_n 9 C d_Ba_setAsked_9 rfl ?_
    refine gf_Ba_40 10 C d_Ba_setAsked_10 ko0 ?_
    refine jr_iload_n 13 C d_Ba_setAsked_13 rfl ?_
    obtain ⟨j5_, ej5_, h⟩ := jz_b h
    refine jr_iald 14 C d_Ba_setAsked_14 (zk_Ba_asked ko0) ej5_ ?_
    refine jr_iconst 15 1 C d_Ba_setAsked_15 (by decide) ?_
    refine jr_iload_n 16 C d_Ba_setAsked_16 rfl ?_
    refine jr_ishl 17 C d_Ba_setAsked_17 ?_
    refine jr_ior 18 C d_Ba_setAsked_18 ?_
    refine jr_goto 19 34 C d_Ba_setAsked_19 (by decide) ?_
    obtain ⟨j6_, ej6_, h⟩ := jz_b h
    obtain ⟨m7_, em7_, h⟩ := jz_ne h
    refine jr_iast 34 C d_Ba_setAsked_34 (zk_Ba_asked ko0) ej6_ ?_
    refine jr_mem em7_ ?_
    obtain rfl := Option.some.inj h
    exact jr_vret 35 C d_Ba_setAsked_35 rfl
abbrev rm_Ba_takeLinks : Room := { frames := 0, cells := 0, slots := 0, locals := 0 }
abbrev cd_Ba_takeLinks : Cond := .code y_Ba_takeLinks b_Ba_takeLinks 6 none
def f_Ba_takeLinks_11 (n2 : Nat) : Nat → Nat → Int32 → Nat → Int32 → Int32 → Int32 → jz_M → Option (jz_M)
  | 0, _, _, _, _, _, _, _ => none
  | fu + 1, o0, x1, o2, x3, x4, x5, m =>
    if x4 ≤ x5 then
      some m
    else
      (jz_ix n2 (x3 + x5)).bind fun j2_ =>
      (jz_ix 420 ((x1 * 10) + x5)).bind fun j3_ =>
      jz_n (jz_up m (o0 + 8) j3_ (m o2 j2_)) fun m4_ =>
      jz_n (x5 + 1) fun x5_ =>
      f_Ba_takeLinks_11 n2 fu o0 x1 o2 x3 x4 x5_ m4_
set_option maxHeartbeats 4000000 in
set_option maxRecDepth 100000 in
theorem t_Ba_takeLinks_11 {Z : cz_Z} {X : jz_X} {r : jz_M} {n2 : Nat} (C : jz_C X 6 b_Ba_takeLinks R_Ba none rm_Ba_takeLinks (cz_G Z)) : ∀ (fu : Nat) (o0 : Nat) (x1 : Int32) (o2 : Nat) (x3 : Int32) (x4 : Int32) (x5 : Int32) (m : jz_M) , kz_Ba o0 → iz_I (cz_G Z) o2 n2 → f_Ba_takeLinks_11 n2 fu o0 x1 o2 x3 x4 x5 m = some r → jz_J X 6 (cz_G Z) (jz_q X (cz_G Z) none r) m [(0, .ref (gz_ad (cz_G Z) o0)), (1, .int x1), (2, .ref (gz_ad (cz_G Z) o2)), (3, .int x3), (4, .int x4), (5, .int x5)] 11 [] := by
  intro fu
  induction fu with
  | zero => intro o0 x1 o2 x3 x4 x5 m k0 k2 h; cases h
  | succ fu ih =>
    intro o0 x1 o2 x3 x4 x5 m k0 k2 h
    rw [f_Ba_takeLinks_11] at h
    refine jr_iload 11 C d_Ba_takeLinks_11 rfl ?_
    refine jr_iload 13 C d_Ba_takeLinks_13 rfl ?_
    refine jr_icmp_ge 15 42 C d_Ba_takeLinks_15 (by decide) (fun c1_ => ?_) (fun c1_ => ?_)
    · have h := jz_t c1_ h
      obtain rfl := Option.some.inj h
      exact jr_vret 42 C d_Ba_takeLinks_42 rfl
    · have h := jz_f c1_ h
      refine jr_aload_n 18 C d_Ba_takeLinks_18 rfl ?_
      refine gf_Ba_34 19 C d_Ba_takeLinks_19 k0 ?_
      refine jr_iload_n 22 C d_Ba_takeLinks_22 rfl ?_
      refine jr_bipush 23 10 C d_Ba_takeLinks_23 (by decide) ?_
      refine jr_imul 25 C d_Ba_takeLinks_25 ?_
      refine jr_iload 26 C d_Ba_takeLinks_26 rfl ?_
      refine jr_iadd 28 C d_Ba_takeLinks_28 ?_
      refine jr_aload_n 29 C d_Ba_takeLinks_29 rfl ?_
      refine jr_iload_n 30 C d_Ba_takeLinks_30 rfl ?_
      refine jr_iload 31 C d_Ba_takeLinks_31 rfl ?_
      refine jr_iadd 33 C d_Ba_takeLinks_33 ?_
      obtain ⟨j2_, ej2_, h⟩ := jz_b h
      refine jr_iald 34 C d_Ba_takeLinks_34 k2 ej2_ ?_
      obtain ⟨j3_, ej3_, h⟩ := jz_b h
      obtain ⟨m4_, em4_, h⟩ := jz_ne h
      refine jr_iast 35 C d_Ba_takeLinks_35 (zk_Ba_links k0) ej3_ ?_
      refine jr_mem em4_ ?_
      obtain ⟨x5_, ex5_, h⟩ := jz_ne h
      refine jr_iinc 36 [(0, .ref (gz_ad (cz_G Z) o0)), (1, .int x1), (2, .ref (gz_ad (cz_G Z) o2)), (3, .int x3), (4, .int x4), (5, .int x5_)] C d_Ba_takeLinks_36 rfl (by decide) rfl (by rw [ex5_]; rfl) rfl ?_
      refine jr_goto 39 11 C d_Ba_takeLinks_39 (by decide) ?_
      refine jr_sub [0, 1, 2, 3, 4, 5] rfl ?_
      exact ih o0 x1 o2 x3 x4 x5_ m4_ k0 k2 h
def f_Ba_takeLinks (o0 : Nat) (a1 : Int32) (o2 : Nat) (n2 : Nat) (a3 : Int32) (a4 : Int32) (m : jz_M) : Option (jz_M) :=
  (jz_ix 42 a1).bind fun j1_ =>
  jz_n (jz_up m (o0 + 7) j1_ a4) fun m2_ =>
  f_Ba_takeLinks_11 n2 1000 o0 a1 o2 a3 a4 0 m2_
set_option maxHeartbeats 4000000 in
set_option maxRecDepth 100000 in
theorem c_Ba_takeLinks {Z : cz_Z} (l : Launch) (hI : jz_I (cz_G Z)) {o0 : Nat} {a1 : Int32} {o2 : Nat} {n2 : Nat} {a3 : Int32} {a4 : Int32} {m : jz_M} {r : jz_M} (ko0 : kz_Ba o0) (ko2 : iz_I (cz_G Z) o2 n2) (h : f_Ba_takeLinks o0 a1 o2 n2 a3 a4 m = some r) : jz_m l y_Ba_takeLinks cd_Ba_takeLinks rm_Ba_takeLinks (cz_G Z) [.ref (gz_ad (cz_G Z) o0), .int a1, .ref (gz_ad (cz_G Z) o2), .int a3, .int a4] m none r := by
  refine jz_met (own := R_Ba) (by decide) rfl hI (Nat.le_of_ble_eq_true rfl) (fun X hX C => ?_)
  subst hX
  show jz_J X 6 (cz_G Z) _ m [(0, .ref (gz_ad (cz_G Z) o0)), (1, .int a1), (2, .ref (gz_ad (cz_G Z) o2)), (3, .int a3), (4, .int a4)] 0 []
  unfold f_Ba_takeLinks at h
  refine jr_aload_n 0 C d_Ba_takeLinks_0 rfl ?_
  refine gf_Ba_31 1 C d_Ba_takeLinks_1 ko0 ?_
  refine jr_iload_n 4 C d_Ba_takeLinks_4 rfl ?_
  refine jr_iload 5 C d_Ba_takeLinks_5 rfl ?_
  obtain ⟨j1_, ej1_, h⟩ := jz_b h
  obtain ⟨m2_, em2_, h⟩ := jz_ne h
  refine jr_iast 7 C d_Ba_takeLinks_7 (zk_Ba_linkCounts ko0) ej1_ ?_
  refine jr_mem em2_ ?_
  refine jr_iconst 8 0 C d_Ba_takeLinks_8 (by decide) ?_
  refine jr_istore 9 [(0, .ref (gz_ad (cz_G Z) o0)), (1, .int a1), (2, .ref (gz_ad (cz_G Z) o2)), (3, .int a3), (4, .int a4), (5, .int 0)] C d_Ba_takeLinks_9 rfl (by decide) rfl ?_
  refine jr_sub [0, 1, 2, 3, 4, 5] rfl ?_
  exact t_Ba_takeLinks_11 C 1000 o0 a1 o2 a3 a4 0 m2_ ko0 ko2 h
abbrev rm_Ba_copyFrom : Room := { frames := 1, cells := 0, slots := 0, locals := 25 }
abbrev cd_Ba_copyFrom : Cond := .code y_Ba_copyFrom b_Ba_copyFrom 3 none
def f_Ba_copyFrom (o0 : Nat) (o1 : Nat) (a2 : Int32) (m : jz_M) : Option (jz_M) :=
  (jz_ix 42 a2).bind fun j1_ =>
  (jz_ix 42 a2).bind fun j2_ =>
  jz_n (jz_up m (o0 + 1) j2_ (m (o1 + 1) j1_)) fun m3_ =>
  (jz_ix 42 a2).bind fun j4_ =>
  (jz_ix 42 a2).bind fun j5_ =>
  jz_n (jz_max (m3_ (o0 + 2) j4_) (m3_ (o0 + 1) j5_)) fun x6_ =>
  (jz_ix 42 a2).bind fun j7_ =>
  jz_n (jz_up m3_ (o0 + 2) j7_ x6_) fun m8_ =>
  (jz_ix 42 a2).bind fun j9_ =>
  (jz_ix 42 a2).bind fun j10_ =>
  jz_n (jz_up m8_ (o0 + 3) j10_ (m8_ (o1 + 3) j9_)) fun m11_ =>
  (jz_ix 42 a2).bind fun j12_ =>
  jz_n (jz_up m11_ (o0 + 4) j12_ 0) fun m13_ =>
  (jz_ix 42 a2).bind fun j14_ =>
  (jz_ix 42 a2).bind fun j15_ =>
  jz_n (jz_up m13_ (o0 + 5) j15_ (vp_nar .boolean (m13_ (o1 + 5) j14_))) fun m16_ =>
  (jz_ix 42 a2).bind fun j17_ =>
  (jz_ix 42 a2).bind fun j18_ =>
  jz_n (jz_up m16_ (o0 + 6) j18_ (m16_ (o1 + 6) j17_)) fun m19_ =>
  (jz_ix 42 a2).bind fun j20_ =>
  (f_Ba_takeLinks o0 a2 (o1 + 8) 420 (a2 * 10) (m19_ (o1 + 7) j20_) m19_).bind fun v21_ =>
  some v21_
set_option maxHeartbeats 4000000 in
set_option maxRecDepth 100000 in
theorem c_Ba_copyFrom {Z : cz_Z} (l : Launch) (hI : jz_I (cz_G Z)) {o0 : Nat} {o1 : Nat} {a2 : Int32} {m : jz_M} {r : jz_M} (ko0 : kz_Ba o0) (ko1 : kz_Ba o1) (h : f_Ba_copyFrom o0 o1 a2 m = some r) : jz_m l y_Ba_copyFrom cd_Ba_copyFrom rm_Ba_copyFrom (cz_G Z) [.ref (gz_ad (cz_G Z) o0), .ref (gz_ad (cz_G Z) o1), .int a2] m none r := by
  refine jz_met (own := R_Ba) (by decide) rfl hI (Nat.le_of_ble_eq_true rfl) (fun X hX C => ?_)
  subst hX
  show jz_J X 3 (cz_G Z) _ m [(0, .ref (gz_ad (cz_G Z) o0)), (1, .ref (gz_ad (cz_G Z) o1)), (2, .int a2)] 0 []
  unfold f_Ba_copyFrom at h
  refine jr_aload_n 0 C d_Ba_copyFrom_0 rfl ?_
  refine gf_Ba_9 1 C d_Ba_copyFrom_1 ko0 ?_
  refine jr_iload_n 4 C d_Ba_copyFrom_4 rfl ?_
  refine jr_aload_n 5 C d_Ba_copyFrom_5 rfl ?_
  refine gf_Ba_9 6 C d_Ba_copyFrom_6 ko1 ?_
  refine jr_iload_n 9 C d_Ba_copyFrom_9 rfl ?_
  obtain ⟨j1_, ej1_, h⟩ := jz_b h
  refine jr_iald 10 C d_Ba_copyFrom_10 (zk_Ba_sequences ko1) ej1_ ?_
  obtain ⟨j2_, ej2_, h⟩ := jz_b h
  obtain ⟨m3_, em3_, h⟩ := jz_ne h
  refine jr_iast 11 C d_Ba_copyFrom_11 (zk_Ba_sequences ko0) ej2_ ?_
  refine jr_mem em3_ ?_
  refine jr_aload_n 12 C d_Ba_copyFrom_12 rfl ?_
  refine gf_Ba_15 13 C d_Ba_copyFrom_13 ko0 ?_
  refine jr_iload_n 16 C d_Ba_copyFrom_16 rfl ?_
  refine jr_aload_n 17 C d_Ba_copyFrom_17 rfl ?_
  refine gf_Ba_15 18 C d_Ba_copyFrom_18 ko0 ?_
  refine jr_iload_n 21 C d_Ba_copyFrom_21 rfl ?_
  obtain ⟨j4_, ej4_, h⟩ := jz_b h
  refine jr_iald 22 C d_Ba_copyFrom_22 (zk_Ba_greatest ko0) ej4_ ?_
  refine jr_aload_n 23 C d_Ba_copyFrom_23 rfl ?_
  refine gf_Ba_9 24 C d_Ba_copyFrom_24 ko0 ?_
  refine jr_iload_n 27 C d_Ba_copyFrom_27 rfl ?_
  obtain ⟨j5_, ej5_, h⟩ := jz_b h
  refine jr_iald 28 C d_Ba_copyFrom_28 (zk_Ba_sequences ko0) ej5_ ?_
  obtain ⟨x6_, ex6_, h⟩ := jz_ne h
  refine mx_Ba_87 29 C d_Ba_copyFrom_29 (by decide) (Nat.le_of_ble_eq_true rfl) ?_
  refine jr_top ex6_ ?_
  obtain ⟨j7_, ej7_, h⟩ := jz_b h
  obtain ⟨m8_, em8_, h⟩ := jz_ne h
  refine jr_iast 32 C d_Ba_copyFrom_32 (zk_Ba_greatest ko0) ej7_ ?_
  refine jr_mem em8_ ?_
  refine jr_aload_n 33 C d_Ba_copyFrom_33 rfl ?_
  refine gf_Ba_18 34 C d_Ba_copyFrom_34 ko0 ?_
  refine jr_iload_n 37 C d_Ba_copyFrom_37 rfl ?_
  refine jr_aload_n 38 C d_Ba_copyFrom_38 rfl ?_
  refine gf_Ba_18 39 C d_Ba_copyFrom_39 ko1 ?_
  refine jr_iload_n 42 C d_Ba_copyFrom_42 rfl ?_
  obtain ⟨j9_, ej9_, h⟩ := jz_b h
  refine jr_iald 43 C d_Ba_copyFrom_43 (zk_Ba_lives ko1) ej9_ ?_
  obtain ⟨j10_, ej10_, h⟩ := jz_b h
  obtain ⟨m11_, em11_, h⟩ := jz_ne h
  refine jr_iast 44 C d_Ba_copyFrom_44 (zk_Ba_lives ko0) ej10_ ?_
  refine jr_mem em11_ ?_
  refine jr_aload_n 45 C d_Ba_copyFrom_45 rfl ?_
  refine gf_Ba_21 46 C d_Ba_copyFrom_46 ko0 ?_
  refine jr_iload_n 49 C d_Ba_copyFrom_49 rfl ?_
  refine jr_iconst 50 0 C d_Ba_copyFrom_50 (by decide) ?_
  obtain ⟨j12_, ej12_, h⟩ := jz_b h
  obtain ⟨m13_, em13_, h⟩ := jz_ne h
  refine jr_iast 51 C d_Ba_copyFrom_51 (zk_Ba_ticksAtRest ko0) ej12_ ?_
  refine jr_mem em13_ ?_
  refine jr_aload_n 52 C d_Ba_copyFrom_52 rfl ?_
  refine gf_Ba_24 53 C d_Ba_copyFrom_53 ko0 ?_
  refine jr_iload_n 56 C d_Ba_copyFrom_56 rfl ?_
  refine jr_aload_n 57 C d_Ba_copyFrom_57 rfl ?_
  refine gf_Ba_24 58 C d_Ba_copyFrom_58 ko1 ?_
  refine jr_iload_n 61 C d_Ba_copyFrom_61 rfl ?_
  obtain ⟨j14_, ej14_, h⟩ := jz_b h
  refine jr_zald 62 C d_Ba_copyFrom_62 (zk_Ba_exits ko1) ej14_ ?_
  obtain ⟨j15_, ej15_, h⟩ := jz_b h
  obtain ⟨m16_, em16_, h⟩ := jz_ne h
  refine jr_zast 63 C d_Ba_copyFrom_63 (zk_Ba_exits ko0) ej15_ ?_
  refine jr_mem em16_ ?_
  refine jr_aload_n 64 C d_Ba_copyFrom_64 rfl ?_
  refine gf_Ba_28 65 C d_Ba_copyFrom_65 ko0 ?_
  refine jr_iload_n 68 C d_Ba_copyFrom_68 rfl ?_
  refine jr_aload_n 69 C d_Ba_copyFrom_69 rfl ?_
  refine gf_Ba_28 70 C d_Ba_copyFrom_70 ko1 ?_
  refine jr_iload_n 73 C d_Ba_copyFrom_73 rfl ?_
  obtain ⟨j17_, ej17_, h⟩ := jz_b h
  refine jr_iald 74 C d_Ba_copyFrom_74 (zk_Ba_areas ko1) ej17_ ?_
  obtain ⟨j18_, ej18_, h⟩ := jz_b h
  obtain ⟨m19_, em19_, h⟩ := jz_ne h
  refine jr_iast 75 C d_Ba_copyFrom_75 (zk_Ba_areas ko0) ej18_ ?_
  refine jr_mem em19_ ?_
  refine jr_aload_n 76 C d_Ba_copyFrom_76 rfl ?_
  refine jr_iload_n 77 C d_Ba_copyFrom_77 rfl ?_
  refine jr_aload_n 78 C d_Ba_copyFrom_78 rfl ?_
  refine gf_Ba_34 79 C d_Ba_copyFrom_79 ko1 ?_
  refine jr_iload_n 82 C d_Ba_copyFrom_82 rfl ?_
  refine jr_bipush 83 10 C d_Ba_copyFrom_83 (by decide) ?_
  refine jr_imul 85 C d_Ba_copyFrom_85 ?_
  refine jr_aload_n 86 C d_Ba_copyFrom_86 rfl ?_
  refine gf_Ba_31 87 C d_Ba_copyFrom_87 ko1 ?_
  refine jr_iload_n 90 C d_Ba_copyFrom_90 rfl ?_
  obtain ⟨j20_, ej20_, h⟩ := jz_b h
  refine jr_iald 91 C d_Ba_copyFrom_91 (zk_Ba_linkCounts ko1) ej20_ ?_
  obtain ⟨v21_, ev21_, h⟩ := jz_b h
  refine jr_callV 92 [.int a2, .ref (gz_ad (cz_G Z) (o1 + 8)), .int (a2 * 10), .int (m19_ (o1 + 7) j20_)] C d_Ba_copyFrom_92 (c_Ba_takeLinks (xz_l X) C.2.2.2.2.2.2.1 ko0 (zk_Ba_links ko1) ev21_) sz_Ba_takeLinks tz_Ba_takeLinks lk_Ba_83 (oz_Ba ko0) rfl (by decide) rfl rfl (Nat.le_of_ble_eq_true rfl) rfl ?_
  obtain rfl := Option.some.inj h
  exact jr_vret 95 C d_Ba_copyFrom_95 rfl
abbrev rm_AR_routerOf : Room := { frames := 0, cells := 0, slots := 0, locals := 0 }
abbrev cd_AR_routerOf : Cond := .code y_AR_routerOf b_AR_routerOf 1 (some .int)
def f_AR_routerOf (a0 : Int32) (m : jz_M) : Option (Int32) :=
  some (a0 / 7)
set_option maxHeartbeats 4000000 in
set_option maxRecDepth 100000 in
theorem c_AR_routerOf {Z : cz_Z} (l : Launch) (hI : jz_I (cz_G Z)) {a0 : Int32} {m : jz_M} {r : Int32} (h : f_AR_routerOf a0 m = some r) : jz_m l y_AR_routerOf cd_AR_routerOf rm_AR_routerOf (cz_G Z) [.int a0] m (some (.int r)) m := by
  refine jz_met (own := R_AR) (by decide) rfl hI (Nat.le_of_ble_eq_true rfl) (fun X hX C => ?_)
  subst hX
  show jz_J X 1 (cz_G Z) _ m [(0, .int a0)] 0 []
  unfold f_AR_routerOf at h
  refine jr_iload_n 0 C d_AR_routerOf_0 rfl ?_
  refine jr_bipush 1 7 C d_AR_routerOf_1 (by decide) ?_
  refine jr_idiv 3 C d_AR_routerOf_3 (by decide) ?_
  obtain rfl := Option.some.inj h
  exact jr_iret 4 (v := (a0 / 7)) C d_AR_routerOf_4 rfl
abbrev rm_AR_partOf : Room := { frames := 0, cells := 0, slots := 0, locals := 0 }
abbrev cd_AR_partOf : Cond := .code y_AR_partOf b_AR_partOf 1 (some .int)
def f_AR_partOf (a0 : Int32) (m : jz_M) : Option (Int32) :=
  some (a0 - a0 / 7 * 7)
set_option maxHeartbeats 4000000 in
set_option maxRecDepth 100000 in
theorem c_AR_partOf {Z : cz_Z} (l : Launch) (hI : jz_I (cz_G Z)) {a0 : Int32} {m : jz_M} {r : Int32} (h : f_AR_partOf a0 m = some r) : jz_m l y_AR_partOf cd_AR_partOf rm_AR_partOf (cz_G Z) [.int a0] m (some (.int r)) m := by
  refine jz_met (own := R_AR) (by decide) rfl hI (Nat.le_of_ble_eq_true rfl) (fun X hX C => ?_)
  subst hX
  show jz_J X 1 (cz_G Z) _ m [(0, .int a0)] 0 []
  unfold f_AR_partOf at h
  refine jr_iload_n 0 C d_AR_partOf_0 rfl ?_
  refine jr_bipush 1 7 C d_AR_partOf_1 (by decide) ?_
  refine jr_irem 3 C d_AR_partOf_3 (by decide) ?_
  obtain rfl := Option.some.inj h
  exact jr_iret 4 (v := (a0 - a0 / 7 * 7)) C d_AR_partOf_4 rfl
abbrev rm_Dr_begin : Room := { frames := 0, cells := 0, slots := 0, locals := 0 }
abbrev cd_Dr_begin : Cond := .code y_Dr_begin b_Dr_begin 2 none
def f_Dr_begin (a1 : Int32) (m : jz_M) : Option (jz_M) :=
  jz_n (jz_up m 146 0 0) fun m1_ =>
  jz_n (jz_up m1_ 146 1 a1) fun m2_ =>
  jz_n (jz_up m2_ 146 2 0) fun m3_ =>
  some m3_
set_option maxHeartbeats 4000000 in
set_option maxRecDepth 100000 in
theorem c_Dr_begin {Z : cz_Z} (l : Launch) (hI : jz_I (cz_G Z)) {a1 : Int32} {m : jz_M} {r : jz_M} (h : f_Dr_begin a1 m = some r) : jz_m l y_Dr_begin cd_Dr_begin rm_Dr_begin (cz_G Z) [.ref (gz_ad (cz_G Z) 146), .int a1] m none r := by
  refine jz_met (own := R_Dr) (by decide) rfl hI (Nat.le_of_ble_eq_true rfl) (fun X hX C => ?_)
  subst hX
  show jz_J X 2 (cz_G Z) _ m [(0, .ref (gz_ad (cz_G Z) 146)), (1, .int a1)] 0 []
  unfold f_Dr_begin at h
  refine jr_aload_n 0 C d_Dr_begin_0 rfl ?_
  refine jr_iconst 1 0 C d_Dr_begin_1 (by decide) ?_
  obtain ⟨m1_, em1_, h⟩ := jz_ne h
  refine pf_Dr_15 2 C d_Dr_begin_2 ?_
  refine jr_mem em1_ ?_
  refine jr_aload_n 5 C d_Dr_begin_5 rfl ?_
  refine jr_iload_n 6 C d_Dr_begin_6 rfl ?_
  obtain ⟨m2_, em2_, h⟩ := jz_ne h
  refine pf_Dr_19 7 C d_Dr_begin_7 ?_
  refine jr_mem em2_ ?_
  refine jr_aload_n 10 C d_Dr_begin_10 rfl ?_
  refine jr_iconst 11 0 C d_Dr_begin_11 (by decide) ?_
  obtain ⟨m3_, em3_, h⟩ := jz_ne h
  refine pf_Dr_22 12 C d_Dr_begin_12 ⟨rfl, rfl⟩ ?_
  refine jr_mem em3_ ?_
  obtain rfl := Option.some.inj h
  exact jr_vret 15 C d_Dr_begin_15 rfl
abbrev rm_AR_hasLevelTwoNeighbourElsewhere : Room := { frames := 1, cells := 0, slots := 0, locals := 24 }
abbrev cd_AR_hasLevelTwoNeighbourElsewhere : Cond := .code y_AR_hasLevelTwoNeighbourElsewhere b_AR_hasLevelTwoNeighbourElsewhere 4 (some .boolean)
def f_AR_hasLevelTwoNeighbourElsewhere_10 (m : jz_M) (k2 : Int32 → Int32 → Option (Int32)) : Nat → Int32 → Int32 → Int32 → Option (Int32)
  | 0, _, _, _ => none
  | fu + 1, x1, x2, x3 =>
    if 6 ≤ x3 then
      jz_n (x2 + 1) fun x2_ =>
      k2 x1 x2_
    else
      (jz_ix 6 x3).bind fun j3_ =>
      (jz_ix 6 x1).bind fun j4_ =>
      if (m 1 j3_) = (m 1 j4_) then
        jz_n (x3 + 1) fun x6_ =>
        f_AR_hasLevelTwoNeighbourElsewhere_10 m k2 fu x1 x2 x6_
      else
        (f_AR_hearingAt 2 m).bind fun v7_ =>
        (f_He_isMutual v7_ x1 x2 x3 m).bind fun v8_ =>
        if v8_ = 0 then
          jz_n (x3 + 1) fun x10_ =>
          f_AR_hasLevelTwoNeighbourElsewhere_10 m k2 fu x1 x2 x10_
        else
          some 1
set_option maxHeartbeats 4000000 in
set_option maxRecDepth 100000 in
theorem t_AR_hasLevelTwoNeighbourElsewhere_10 {Z : cz_Z} {X : jz_X} {m : jz_M} {r : Int32} (C : jz_C X 4 b_AR_hasLevelTwoNeighbourElsewhere R_AR (some .boolean) rm_AR_hasLevelTwoNeighbourElsewhere (cz_G Z)) (k2 : Int32 → Int32 → Option (Int32)) (hk2 : ∀ (x1 : Int32) (x2 : Int32), k2 x1 x2 = some r → jz_J X 4 (cz_G Z) (jz_q X (cz_G Z) (some (.int r)) m) m [(0, .ref (gz_ad (cz_G Z) 0)), (1, .int x1), (2, .int x2)] 2 []) : ∀ (fu : Nat) (x1 : Int32) (x2 : Int32) (x3 : Int32) , f_AR_hasLevelTwoNeighbourElsewhere_10 m k2 fu x1 x2 x3 = some r → jz_J X 4 (cz_G Z) (jz_q X (cz_G Z) (some (.int r)) m) m [(0, .ref (gz_ad (cz_G Z) 0)), (1, .int x1), (2, .int x2), (3, .int x3)] 10 [] := by
  intro fu
  induction fu with
  | zero => intro x1 x2 x3 h; cases h
  | succ fu ih =>
    intro x1 x2 x3 h
    rw [f_AR_hasLevelTwoNeighbourElsewhere_10] at h
    refine jr_iload_n 10 C d_AR_hasLevelTwoNeighbourElsewhere_10 rfl ?_
    refine jr_bipush 11 6 C d_AR_hasLevelTwoNeighbourElsewhere_11 (by decide) ?_
    refine jr_icmp_ge 13 53 C d_AR_hasLevelTwoNeighbourElsewhere_13 (by decide) (fun c1_ => ?_) (fun c1_ => ?_)
    · have h := jz_t c1_ h
      obtain ⟨x2_, ex2_, h⟩ := jz_ne h
      refine jr_iinc 53 [(0, .ref (gz_ad (cz_G Z) 0)), (1, .int x1), (2, .int x2_), (3, .int x3)] C d_AR_hasLevelTwoNeighbourElsewhere_53 rfl (by decide) rfl (by rw [ex2_]; rfl) rfl ?_
      refine jr_goto 56 2 C d_AR_hasLevelTwoNeighbourElsewhere_56 (by decide) ?_
      refine jr_sub [0, 1, 2] rfl ?_
      exact hk2 x1 x2_  h
    · have h := jz_f c1_ h
      refine jr_aload_n 16 C d_AR_hasLevelTwoNeighbourElsewhere_16 rfl ?_
      refine gf_AR_9 17 C d_AR_hasLevelTwoNeighbourElsewhere_17 ?_
      refine jr_iload_n 20 C d_AR_hasLevelTwoNeighbourElsewhere_20 rfl ?_
      obtain ⟨j3_, ej3_, h⟩ := jz_b h
      refine jr_iald 21 C d_AR_hasLevelTwoNeighbourElsewhere_21 zk_AR_areas ej3_ ?_
      refine jr_aload_n 22 C d_AR_hasLevelTwoNeighbourElsewhere_22 rfl ?_
      refine gf_AR_9 23 C d_AR_hasLevelTwoNeighbourElsewhere_23 ?_
      refine jr_iload_n 26 C d_AR_hasLevelTwoNeighbourElsewhere_26 rfl ?_
      obtain ⟨j4_, ej4_, h⟩ := jz_b h
      refine jr_iald 27 C d_AR_hasLevelTwoNeighbourElsewhere_27 zk_AR_areas ej4_ ?_
      refine jr_icmp_eq 28 47 C d_AR_hasLevelTwoNeighbourElsewhere_28 (by decide) (fun c5_ => ?_) (fun c5_ => ?_)
      · have h := jz_t c5_ h
        obtain ⟨x6_, ex6_, h⟩ := jz_ne h
        refine jr_iinc 47 [(0, .ref (gz_ad (cz_G Z) 0)), (1, .int x1), (2, .int x2), (3, .int x6_)] C d_AR_hasLevelTwoNeighbourElsewhere_47 rfl (by decide) rfl (by rw [ex6_]; rfl) rfl ?_
        refine jr_goto 50 10 C d_AR_hasLevelTwoNeighbourElsewhere_50 (by decide) ?_
        refine jr_sub [0, 1, 2, 3] rfl ?_
        exact ih x1 x2 x6_  h
      · have h := jz_f c5_ h
        refine jr_aload_n 31 C d_AR_hasLevelTwoNeighbourElsewhere_31 rfl ?_
        refine jr_iconst 32 2 C d_AR_hasLevelTwoNeighbourElsewhere_32 (by decide) ?_
        obtain ⟨v7_, ev7_, h⟩ := jz_b h
        refine jr_callV 33 [.int 2] C d_AR_hasLevelTwoNeighbourElsewhere_33 (c_AR_hearingAt (xz_l X) C.2.2.2.2.2.2.1  ev7_) sz_AR_hearingAt tz_AR_hearingAt lk_AR_150 oz_AR rfl (by decide) rfl rfl (Nat.le_of_ble_eq_true rfl) rfl ?_
        refine jr_iload_n 36 C d_AR_hasLevelTwoNeighbourElsewhere_36 rfl ?_
        refine jr_iload_n 37 C d_AR_hasLevelTwoNeighbourElsewhere_37 rfl ?_
        refine jr_iload_n 38 C d_AR_hasLevelTwoNeighbourElsewhere_38 rfl ?_
        obtain ⟨v8_, ev8_, h⟩ := jz_b h
        refine jr_callVN 39 [.int x1, .int x2, .int x3] C d_AR_hasLevelTwoNeighbourElsewhere_39 (c_He_isMutual (xz_l X) C.2.2.2.2.2.2.1 (kr_AR_hearingAt ev7_) ev8_) sz_He_isMutual tz_He_isMutual lk_AR_154 (oz_He (kr_AR_hearingAt ev7_)) rfl (by decide) rfl rfl (Nat.le_of_ble_eq_true rfl) rfl ?_
        refine jr_if_eq 42 47 C d_AR_hasLevelTwoNeighbourElsewhere_42 (by decide) (fun c9_ => ?_) (fun c9_ => ?_)
        · have h := jz_t c9_ h
          obtain ⟨x10_, ex10_, h⟩ := jz_ne h
          refine jr_iinc 47 [(0, .ref (gz_ad (cz_G Z) 0)), (1, .int x1), (2, .int x2), (3, .int x10_)] C d_AR_hasLevelTwoNeighbourElsewhere_47 rfl (by decide) rfl (by rw [ex10_]; rfl) rfl ?_
          refine jr_goto 50 10 C d_AR_hasLevelTwoNeighbourElsewhere_50 (by decide) ?_
          refine jr_sub [0, 1, 2, 3] rfl ?_
          exact ih x1 x2 x10_  h
        · have h := jz_f c9_ h
          refine jr_iconst 45 1 C d_AR_hasLevelTwoNeighbourElsewhere_45 (by decide) ?_
          obtain rfl := Option.some.inj h
          exact jr_zret 46 (v := 1) C d_AR_hasLevelTwoNeighbourElsewhere_46 rfl nb_1
def f_AR_hasLevelTwoNeighbourElsewhere_2 (m : jz_M) : Nat → Int32 → Int32 → Option (Int32)
  | 0, _, _ => none
  | fu + 1, x1, x2 =>
    if 6 ≤ x2 then
      some 0
    else
      f_AR_hasLevelTwoNeighbourElsewhere_10 m (f_AR_hasLevelTwoNeighbourElsewhere_2 m fu) 1000 x1 x2 0
set_option maxHeartbeats 4000000 in
set_option maxRecDepth 100000 in
theorem t_AR_hasLevelTwoNeighbourElsewhere_2 {Z : cz_Z} {X : jz_X} {m : jz_M} {r : Int32} (C : jz_C X 4 b_AR_hasLevelTwoNeighbourElsewhere R_AR (some .boolean) rm_AR_hasLevelTwoNeighbourElsewhere (cz_G Z)) : ∀ (fu : Nat) (x1 : Int32) (x2 : Int32) , f_AR_hasLevelTwoNeighbourElsewhere_2 m fu x1 x2 = some r → jz_J X 4 (cz_G Z) (jz_q X (cz_G Z) (some (.int r)) m) m [(0, .ref (gz_ad (cz_G Z) 0)), (1, .int x1), (2, .int x2)] 2 [] := by
  intro fu
  induction fu with
  | zero => intro x1 x2 h; cases h
  | succ fu ih =>
    intro x1 x2 h
    rw [f_AR_hasLevelTwoNeighbourElsewhere_2] at h
    refine jr_iload_n 2 C d_AR_hasLevelTwoNeighbourElsewhere_2 rfl ?_
    refine jr_bipush 3 6 C d_AR_hasLevelTwoNeighbourElsewhere_3 (by decide) ?_
    refine jr_icmp_ge 5 59 C d_AR_hasLevelTwoNeighbourElsewhere_5 (by decide) (fun c1_ => ?_) (fun c1_ => ?_)
    · have h := jz_t c1_ h
      refine jr_iconst 59 0 C d_AR_hasLevelTwoNeighbourElsewhere_59 (by decide) ?_
      obtain rfl := Option.some.inj h
      exact jr_zret 60 (v := 0) C d_AR_hasLevelTwoNeighbourElsewhere_60 rfl nb_0
    · have h := jz_f c1_ h
      refine jr_iconst 8 0 C d_AR_hasLevelTwoNeighbourElsewhere_8 (by decide) ?_
      refine jr_istore_n 9 [(0, .ref (gz_ad (cz_G Z) 0)), (1, .int x1), (2, .int x2), (3, .int 0)] C d_AR_hasLevelTwoNeighbourElsewhere_9 rfl (by decide) rfl ?_
      refine jr_sub [0, 1, 2, 3] rfl ?_
      exact t_AR_hasLevelTwoNeighbourElsewhere_10 C (f_AR_hasLevelTwoNeighbourElsewhere_2 m fu) ih 1000 x1 x2 0 h
def f_AR_hasLevelTwoNeighbourElsewhere (a1 : Int32) (m : jz_M) : Option (Int32) :=
  f_AR_hasLevelTwoNeighbourElsewhere_2 m 1000 a1 0
set_option maxHeartbeats 4000000 in
set_option maxRecDepth 100000 in
theorem c_AR_hasLevelTwoNeighbourElsewhere {Z : cz_Z} (l : Launch) (hI : jz_I (cz_G Z)) {a1 : Int32} {m : jz_M} {r : Int32} (h : f_AR_hasLevelTwoNeighbourElsewhere a1 m = some r) : jz_m l y_AR_hasLevelTwoNeighbourElsewhere cd_AR_hasLevelTwoNeighbourElsewhere rm_AR_hasLevelTwoNeighbourElsewhere (cz_G Z) [.ref (gz_ad (cz_G Z) 0), .int a1] m (some (.int r)) m := by
  refine jz_met (own := R_AR) (by decide) rfl hI (Nat.le_of_ble_eq_true rfl) (fun X hX C => ?_)
  subst hX
  show jz_J X 4 (cz_G Z) _ m [(0, .ref (gz_ad (cz_G Z) 0)), (1, .int a1)] 0 []
  unfold f_AR_hasLevelTwoNeighbourElsewhere at h
  refine jr_iconst 0 0 C d_AR_hasLevelTwoNeighbourElsewhere_0 (by decide) ?_
  refine jr_istore_n 1 [(0, .ref (gz_ad (cz_G Z) 0)), (1, .int a1), (2, .int 0)] C d_AR_hasLevelTwoNeighbourElsewhere_1 rfl (by decide) rfl ?_
  refine jr_sub [0, 1, 2] rfl ?_
  exact t_AR_hasLevelTwoNeighbourElsewhere_2 C 1000 a1 0 h
abbrev rm_He_firstMutual : Room := { frames := 1, cells := 0, slots := 0, locals := 24 }
abbrev cd_He_firstMutual : Cond := .code y_He_firstMutual b_He_firstMutual 4 (some .int)
def f_He_firstMutual_2 (m : jz_M) : Nat → Nat → Int32 → Int32 → Int32 → Option (Int32)
  | 0, _, _, _, _ => none
  | fu + 1, o0, x1, x2, x3 =>
    if 6 ≤ x3 then
      some (-1)
    else
      (f_He_isMutual o0 x1 x2 x3 m).bind fun v2_ =>
      if v2_ = 0 then
        jz_n (x3 + 1) fun x4_ =>
        f_He_firstMutual_2 m fu o0 x1 x2 x4_
      else
        some x3
set_option maxHeartbeats 4000000 in
set_option maxRecDepth 100000 in
theorem t_He_firstMutual_2 {Z : cz_Z} {X : jz_X} {m : jz_M} {r : Int32} (C : jz_C X 4 b_He_firstMutual R_He (some .int) rm_He_firstMutual (cz_G Z)) : ∀ (fu : Nat) (o0 : Nat) (x1 : Int32) (x2 : Int32) (x3 : Int32) , kz_He o0 → f_He_firstMutual_2 m fu o0 x1 x2 x3 = some r → jz_J X 4 (cz_G Z) (jz_q X (cz_G Z) (some (.int r)) m) m [(0, .ref (gz_ad (cz_G Z) o0)), (1, .int x1), (2, .int x2), (3, .int x3)] 2 [] := by
  intro fu
  induction fu with
  | zero => intro o0 x1 x2 x3 k0 h; cases h
  | succ fu ih =>
    intro o0 x1 x2 x3 k0 h
    rw [f_He_firstMutual_2] at h
    refine jr_iload_n 2 C d_He_firstMutual_2 rfl ?_
    refine jr_bipush 3 6 C d_He_firstMutual_3 (by decide) ?_
    refine jr_icmp_ge 5 26 C d_He_firstMutual_5 (by decide) (fun c1_ => ?_) (fun c1_ => ?_)
    · have h := jz_t c1_ h
      refine jr_iconst 26 (-1) C d_He_firstMutual_26 (by decide) ?_
      obtain rfl := Option.some.inj h
      exact jr_iret 27 (v := (-1)) C d_He_firstMutual_27 rfl
    · have h := jz_f c1_ h
      refine jr_aload_n 8 C d_He_firstMutual_8 rfl ?_
      refine jr_iload_n 9 C d_He_firstMutual_9 rfl ?_
      refine jr_iload_n 10 C d_He_firstMutual_10 rfl ?_
      refine jr_iload_n 11 C d_He_firstMutual_11 rfl ?_
      obtain ⟨v2_, ev2_, h⟩ := jz_b h
      refine jr_callV 12 [.int x1, .int x2, .int x3] C d_He_firstMutual_12 (c_He_isMutual (xz_l X) C.2.2.2.2.2.2.1 k0 ev2_) sz_He_isMutual tz_He_isMutual lk_He_19 (oz_He k0) rfl (by decide) rfl rfl (Nat.le_of_ble_eq_true rfl) rfl ?_
      refine jr_if_eq 15 20 C d_He_firstMutual_15 (by decide) (fun c3_ => ?_) (fun c3_ => ?_)
      · have h := jz_t c3_ h
        obtain ⟨x4_, ex4_, h⟩ := jz_ne h
        refine jr_iinc 20 [(0, .ref (gz_ad (cz_G Z) o0)), (1, .int x1), (2, .int x2), (3, .int x4_)] C d_He_firstMutual_20 rfl (by decide) rfl (by rw [ex4_]; rfl) rfl ?_
        refine jr_goto 23 2 C d_He_firstMutual_23 (by decide) ?_
        refine jr_sub [0, 1, 2, 3] rfl ?_
        exact ih o0 x1 x2 x4_ k0 h
      · have h := jz_f c3_ h
        refine jr_iload_n 18 C d_He_firstMutual_18 rfl ?_
        obtain rfl := Option.some.inj h
        exact jr_iret 19 (v := x3) C d_He_firstMutual_19 rfl
def f_He_firstMutual (o0 : Nat) (a1 : Int32) (a2 : Int32) (m : jz_M) : Option (Int32) :=
  f_He_firstMutual_2 m 1000 o0 a1 a2 0
set_option maxHeartbeats 4000000 in
set_option maxRecDepth 100000 in
theorem c_He_firstMutual {Z : cz_Z} (l : Launch) (hI : jz_I (cz_G Z)) {o0 : Nat} {a1 : Int32} {a2 : Int32} {m : jz_M} {r : Int32} (ko0 : kz_He o0) (h : f_He_firstMutual o0 a1 a2 m = some r) : jz_m l y_He_firstMutual cd_He_firstMutual rm_He_firstMutual (cz_G Z) [.ref (gz_ad (cz_G Z) o0), .int a1, .int a2] m (some (.int r)) m := by
  refine jz_met (own := R_He) (by decide) rfl hI (Nat.le_of_ble_eq_true rfl) (fun X hX C => ?_)
  subst hX
  show jz_J X 4 (cz_G Z) _ m [(0, .ref (gz_ad (cz_G Z) o0)), (1, .int a1), (2, .int a2)] 0 []
  unfold f_He_firstMutual at h
  refine jr_iconst 0 0 C d_He_firstMutual_0 (by decide) ?_
  refine jr_istore_n 1 [(0, .ref (gz_ad (cz_G Z) o0)), (1, .int a1), (2, .int a2), (3, .int 0)] C d_He_firstMutual_1 rfl (by decide) rfl ?_
  refine jr_sub [0, 1, 2, 3] rfl ?_
  exact t_He_firstMutual_2 C 1000 o0 a1 a2 0 ko0 h
abbrev rm_Wi_isShared : Room := { frames := 2, cells := 0, slots := 0, locals := 45 }
abbrev cd_Wi_isShared : Cond := .code y_Wi_isShared b_Wi_isShared 2 (some .boolean)
def f_Wi_isShared (a1 : Int32) (m : jz_M) : Option (Int32) :=
  (f_Wi_countOn a1 m).bind fun v1_ =>
  if v1_ ≤ 2 then
    some 0
  else
    some 1
set_option maxHeartbeats 4000000 in
set_option maxRecDepth 100000 in
theorem c_Wi_isShared {Z : cz_Z} (l : Launch) (hI : jz_I (cz_G Z)) {a1 : Int32} {m : jz_M} {r : Int32} (h : f_Wi_isShared a1 m = some r) : jz_m l y_Wi_isShared cd_Wi_isShared rm_Wi_isShared (cz_G Z) [.ref (gz_ad (cz_G Z) 3), .int a1] m (some (.int r)) m := by
  refine jz_met (own := R_Wi) (by decide) rfl hI (Nat.le_of_ble_eq_true rfl) (fun X hX C => ?_)
  subst hX
  show jz_J X 2 (cz_G Z) _ m [(0, .ref (gz_ad (cz_G Z) 3)), (1, .int a1)] 0 []
  unfold f_Wi_isShared at h
  refine jr_aload_n 0 C d_Wi_isShared_0 rfl ?_
  refine jr_iload_n 1 C d_Wi_isShared_1 rfl ?_
  obtain ⟨v1_, ev1_, h⟩ := jz_b h
  refine jr_callV 2 [.int a1] C d_Wi_isShared_2 (c_Wi_countOn (xz_l X) C.2.2.2.2.2.2.1 ev1_) sz_Wi_countOn tz_Wi_countOn lk_Wi_22 oz_Wi rfl (by decide) rfl rfl (Nat.le_of_ble_eq_true rfl) rfl ?_
  refine jr_iconst 5 2 C d_Wi_isShared_5 (by decide) ?_
  refine jr_icmp_le 6 13 C d_Wi_isShared_6 (by decide) (fun c2_ => ?_) (fun c2_ => ?_)
  · have h := jz_t c2_ h
    refine jr_iconst 13 0 C d_Wi_isShared_13 (by decide) ?_
    obtain rfl := Option.some.inj h
    exact jr_zret 14 (v := 0) C d_Wi_isShared_14 rfl nb_0
  · have h := jz_f c2_ h
    refine jr_iconst 9 1 C d_Wi_isShared_9 (by decide) ?_
    refine jr_goto 10 14 C d_Wi_isShared_10 (by decide) ?_
    obtain rfl := Option.some.inj h
    exact jr_zret 14 (v := 1) C d_Wi_isShared_14 rfl nb_1
abbrev rm_Wi_priorityOf : Room := { frames := 0, cells := 0, slots := 0, locals := 0 }
abbrev cd_Wi_priorityOf : Cond := .code y_Wi_priorityOf b_Wi_priorityOf 3 (some .int)
def f_Wi_priorityOf (a1 : Int32) (a2 : Int32) (m : jz_M) : Option (Int32) :=
  (jz_ix 36 ((a1 * 6) + a2)).bind fun j1_ =>
  some (m 5 j1_)
set_option maxHeartbeats 4000000 in
set_option maxRecDepth 100000 in
theorem c_Wi_priorityOf {Z : cz_Z} (l : Launch) (hI : jz_I (cz_G Z)) {a1 : Int32} {a2 : Int32} {m : jz_M} {r : Int32} (h : f_Wi_priorityOf a1 a2 m = some r) : jz_m l y_Wi_priorityOf cd_Wi_priorityOf rm_Wi_priorityOf (cz_G Z) [.ref (gz_ad (cz_G Z) 3), .int a1, .int a2] m (some (.int r)) m := by
  refine jz_met (own := R_Wi) (by decide) rfl hI (Nat.le_of_ble_eq_true rfl) (fun X hX C => ?_)
  subst hX
  show jz_J X 3 (cz_G Z) _ m [(0, .ref (gz_ad (cz_G Z) 3)), (1, .int a1), (2, .int a2)] 0 []
  unfold f_Wi_priorityOf at h
  refine jr_aload_n 0 C d_Wi_priorityOf_0 rfl ?_
  refine gf_Wi_15 1 C d_Wi_priorityOf_1 ?_
  refine jr_iload_n 4 C d_Wi_priorityOf_4 rfl ?_
  refine jr_bipush 5 6 C d_Wi_priorityOf_5 (by decide) ?_
  refine jr_imul 7 C d_Wi_priorityOf_7 ?_
  refine jr_iload_n 8 C d_Wi_priorityOf_8 rfl ?_
  refine jr_iadd 9 C d_Wi_priorityOf_9 ?_
  obtain ⟨j1_, ej1_, h⟩ := jz_b h
  refine jr_iald 10 C d_Wi_priorityOf_10 zk_Wi_priorities ej1_ ?_
  obtain rfl := Option.some.inj h
  exact jr_iret 11 (v := (m 5 j1_)) C d_Wi_priorityOf_11 rfl
abbrev rm_AR_speakerSeenBy : Room := { frames := 1, cells := 0, slots := 0, locals := 24 }
abbrev cd_AR_speakerSeenBy : Cond := .code y_AR_speakerSeenBy b_AR_speakerSeenBy 7 (some .int)
def f_AR_speakerSeenBy_6 (m : jz_M) : Nat → Int32 → Int32 → Int32 → Int32 → Int32 → Option (Int32)
  | 0, _, _, _, _, _ => none
  | fu + 1, x1, x2, x3, x4, x5 =>
    if 6 ≤ x5 then
      some x4
    else
      (f_AR_hearingAt x3 m).bind fun v2_ =>
      (f_He_isMutual v2_ x1 x2 x5 m).bind fun v3_ =>
      if v3_ = 0 then
        jz_n (x5 + 1) fun x5_ =>
        f_AR_speakerSeenBy_6 m fu x1 x2 x3 x4 x5_
      else
        (f_Wi_priorityOf x5 x2 m).bind fun v6_ =>
        (f_Wi_priorityOf x4 x2 m).bind fun v7_ =>
        jz_n (v6_ - v7_) fun x8_ =>
        if 0 < x8_ then
          jz_n (x5 + 1) fun x10_ =>
          f_AR_speakerSeenBy_6 m fu x1 x2 x3 x5 x10_
        else
          if ¬ x8_ = 0 then
            jz_n (x5 + 1) fun x12_ =>
            f_AR_speakerSeenBy_6 m fu x1 x2 x3 x4 x12_
          else
            if x5 ≤ x4 then
              jz_n (x5 + 1) fun x14_ =>
              f_AR_speakerSeenBy_6 m fu x1 x2 x3 x4 x14_
            else
              jz_n (x5 + 1) fun x15_ =>
              f_AR_speakerSeenBy_6 m fu x1 x2 x3 x5 x15_
set_option maxHeartbeats 4000000 in
set_option maxRecDepth 100000 in
theorem t_AR_speakerSeenBy_6 {Z : cz_Z} {X : jz_X} {m : jz_M} {r : Int32} (C : jz_C X 7 b_AR_speakerSeenBy R_AR (some .int) rm_AR_speakerSeenBy (cz_G Z)) : ∀ (fu : Nat) (x1 : Int32) (x2 : Int32) (x3 : Int32) (x4 : Int32) (x5 : Int32) , f_AR_speakerSeenBy_6 m fu x1 x2 x3 x4 x5 = some r → jz_J X 7 (cz_G Z) (jz_q X (cz_G Z) (some (.int r)) m) m [(0, .ref (gz_ad (cz_G Z) 0)), (1, .int x1), (2, .int x2), (3, .int x3), (4, .int x4), (5, .int x5)] 6 [] := by
  intro fu
  induction fu with
  | zero => intro x1 x2 x3 x4 x5 h; cases h
  | succ fu ih =>
    intro x1 x2 x3 x4 x5 h
    rw [f_AR_speakerSeenBy_6] at h
    refine jr_iload 6 C d_AR_speakerSeenBy_6 rfl ?_
    refine jr_bipush 8 6 C d_AR_speakerSeenBy_8 (by decide) ?_
    refine jr_icmp_ge 10 78 C d_AR_speakerSeenBy_10 (by decide) (fun c1_ => ?_) (fun c1_ => ?_)
    · have h := jz_t c1_ h
      refine jr_iload 78 C d_AR_speakerSeenBy_78 rfl ?_
      obtain rfl := Option.some.inj h
      exact jr_iret 80 (v := x4) C d_AR_speakerSeenBy_80 rfl
    · have h := jz_f c1_ h
      refine jr_aload_n 13 C d_AR_speakerSeenBy_13 rfl ?_
      refine jr_iload_n 14 C d_AR_speakerSeenBy_14 rfl ?_
      obtain ⟨v2_, ev2_, h⟩ := jz_b h
      refine jr_callV 15 [.int x3] C d_AR_speakerSeenBy_15 (c_AR_hearingAt (xz_l X) C.2.2.2.2.2.2.1  ev2_) sz_AR_hearingAt tz_AR_hearingAt lk_AR_150 oz_AR rfl (by decide) rfl rfl (Nat.le_of_ble_eq_true rfl) rfl ?_
      refine jr_iload_n 18 C d_AR_speakerSeenBy_18 rfl ?_
      refine jr_iload_n 19 C d_AR_speakerSeenBy_19 rfl ?_
      refine jr_iload 20 C d_AR_speakerSeenBy_20 rfl ?_
      obtain ⟨v3_, ev3_, h⟩ := jz_b h
      refine jr_callVN 22 [.int x1, .int x2, .int x5] C d_AR_speakerSeenBy_22 (c_He_isMutual (xz_l X) C.2.2.2.2.2.2.1 (kr_AR_hearingAt ev2_) ev3_) sz_He_isMutual tz_He_isMutual lk_AR_154 (oz_He (kr_AR_hearingAt ev2_)) rfl (by decide) rfl rfl (Nat.le_of_ble_eq_true rfl) rfl ?_
      refine jr_if_eq 25 72 C d_AR_speakerSeenBy_25 (by decide) (fun c4_ => ?_) (fun c4_ => ?_)
      · have h := jz_t c4_ h
        obtain ⟨x5_, ex5_, h⟩ := jz_ne h
        refine jr_iinc 72 [(0, .ref (gz_ad (cz_G Z) 0)), (1, .int x1), (2, .int x2), (3, .int x3), (4, .int x4), (5, .int x5_)] C d_AR_speakerSeenBy_72 rfl (by decide) rfl (by rw [ex5_]; rfl) rfl ?_
        refine jr_goto 75 6 C d_AR_speakerSeenBy_75 (by decide) ?_
        refine jr_sub [0, 1, 2, 3, 4, 5] rfl ?_
        exact ih x1 x2 x3 x4 x5_  h
      · have h := jz_f c4_ h
        refine jr_aload_n 28 C d_AR_speakerSeenBy_28 rfl ?_
        refine gf_AR_19 29 C d_AR_speakerSeenBy_29 ?_
        refine jr_iload 32 C d_AR_speakerSeenBy_32 rfl ?_
        refine jr_iload_n 34 C d_AR_speakerSeenBy_34 rfl ?_
        obtain ⟨v6_, ev6_, h⟩ := jz_b h
        refine jr_callVN 35 [.int x5, .int x2] C d_AR_speakerSeenBy_35 (c_Wi_priorityOf (xz_l X) C.2.2.2.2.2.2.1  ev6_) sz_Wi_priorityOf tz_Wi_priorityOf lk_AR_193 oz_Wi rfl (by decide) rfl rfl (Nat.le_of_ble_eq_true rfl) rfl ?_
        refine jr_aload_n 38 C d_AR_speakerSeenBy_38 rfl ?_
        refine gf_AR_19 39 C d_AR_speakerSeenBy_39 ?_
        refine jr_iload 42 C d_AR_speakerSeenBy_42 rfl ?_
        refine jr_iload_n 44 C d_AR_speakerSeenBy_44 rfl ?_
        obtain ⟨v7_, ev7_, h⟩ := jz_b h
        refine jr_callVN 45 [.int x4, .int x2] C d_AR_speakerSeenBy_45 (c_Wi_priorityOf (xz_l X) C.2.2.2.2.2.2.1  ev7_) sz_Wi_priorityOf tz_Wi_priorityOf lk_AR_193 oz_Wi rfl (by decide) rfl rfl (Nat.le_of_ble_eq_true rfl) rfl ?_
        refine jr_isub 48 C d_AR_speakerSeenBy_48 ?_
        obtain ⟨x8_, ex8_, h⟩ := jz_ne h
        refine jr_top ex8_ ?_
        refine jr_istore 49 [(0, .ref (gz_ad (cz_G Z) 0)), (1, .int x1), (2, .int x2), (3, .int x3), (4, .int x4), (5, .int x5), (6, .int x8_)] C d_AR_speakerSeenBy_49 rfl (by decide) rfl ?_
        refine jr_iload 51 C d_AR_speakerSeenBy_51 rfl ?_
        refine jr_if_gt 53 68 C d_AR_speakerSeenBy_53 (by decide) (fun c9_ => ?_) (fun c9_ => ?_)
        · have h := jz_t c9_ h
          refine jr_iload 68 C d_AR_speakerSeenBy_68 rfl ?_
          refine jr_istore 70 [(0, .ref (gz_ad (cz_G Z) 0)), (1, .int x1), (2, .int x2), (3, .int x3), (4, .int x5), (5, .int x5), (6, .int x8_)] C d_AR_speakerSeenBy_70 rfl (by decide) rfl ?_
          obtain ⟨x10_, ex10_, h⟩ := jz_ne h
          refine jr_iinc 72 [(0, .ref (gz_ad (cz_G Z) 0)), (1, .int x1), (2, .int x2), (3, .int x3), (4, .int x5), (5, .int x10_), (6, .int x8_)] C d_AR_speakerSeenBy_72 rfl (by decide) rfl (by rw [ex10_]; rfl) rfl ?_
          refine jr_goto 75 6 C d_AR_speakerSeenBy_75 (by decide) ?_
          refine jr_sub [0, 1, 2, 3, 4, 5] rfl ?_
          exact ih x1 x2 x3 x5 x10_  h
        · have h := jz_f c9_ h
          refine jr_iload 56 C d_AR_speakerSeenBy_56 rfl ?_
          refine jr_if_ne 58 72 C d_AR_speakerSeenBy_58 (by decide) (fun c11_ => ?_) (fun c11_ => ?_)
          · have h := jz_t c11_ h
            obtain ⟨x12_, ex12_, h⟩ := jz_ne h
            refine jr_iinc 72 [(0, .ref (gz_ad (cz_G Z) 0)), (1, .int x1), (2, .int x2), (3, .int x3), (4, .int x4), (5, .int x12_), (6, .int x8_)] C d_AR_speakerSeenBy_72 rfl (by decide) rfl (by rw [ex12_]; rfl) rfl ?_
            refine jr_goto 75 6 C d_AR_speakerSeenBy_75 (by decide) ?_
            refine jr_sub [0, 1, 2, 3, 4, 5] rfl ?_
            exact ih x1 x2 x3 x4 x12_  h
          · have h := jz_f c11_ h
            refine jr_iload 61 C d_AR_speakerSeenBy_61 rfl ?_
            refine jr_iload 63 C d_AR_speakerSeenBy_63 rfl ?_
            refine jr_icmp_le 65 72 C d_AR_speakerSeenBy_65 (by decide) (fun c13_ => ?_) (fun c13_ => ?_)
            · have h := jz_t c13_ h
              obtain ⟨x14_, ex14_, h⟩ := jz_ne h
              refine jr_iinc 72 [(0, .ref (gz_ad (cz_G Z) 0)), (1, .int x1), (2, .int x2), (3, .int x3), (4, .int x4), (5, .int x14_), (6, .int x8_)] C d_AR_speakerSeenBy_72 rfl (by decide) rfl (by rw [ex14_]; rfl) rfl ?_
              refine jr_goto 75 6 C d_AR_speakerSeenBy_75 (by decide) ?_
              refine jr_sub [0, 1, 2, 3, 4, 5] rfl ?_
              exact ih x1 x2 x3 x4 x14_  h
            · have h := jz_f c13_ h
              refine jr_iload 68 C d_AR_speakerSeenBy_68 rfl ?_
              refine jr_istore 70 [(0, .ref (gz_ad (cz_G Z) 0)), (1, .int x1), (2, .int x2), (3, .int x3), (4, .int x5), (5, .int x5), (6, .int x8_)] C d_AR_speakerSeenBy_70 rfl (by decide) rfl ?_
              obtain ⟨x15_, ex15_, h⟩ := jz_ne h
              refine jr_iinc 72 [(0, .ref (gz_ad (cz_G Z) 0)), (1, .int x1), (2, .int x2), (3, .int x3), (4, .int x5), (5, .int x15_), (6, .int x8_)] C d_AR_speakerSeenBy_72 rfl (by decide) rfl (by rw [ex15_]; rfl) rfl ?_
              refine jr_goto 75 6 C d_AR_speakerSeenBy_75 (by decide) ?_
              refine jr_sub [0, 1, 2, 3, 4, 5] rfl ?_
              exact ih x1 x2 x3 x5 x15_  h
def f_AR_speakerSeenBy (a1 : Int32) (a2 : Int32) (a3 : Int32) (m : jz_M) : Option (Int32) :=
  f_AR_speakerSeenBy_6 m 1000 a1 a2 a3 a1 0
set_option maxHeartbeats 4000000 in
set_option maxRecDepth 100000 in
theorem c_AR_speakerSeenBy {Z : cz_Z} (l : Launch) (hI : jz_I (cz_G Z)) {a1 : Int32} {a2 : Int32} {a3 : Int32} {m : jz_M} {r : Int32} (h : f_AR_speakerSeenBy a1 a2 a3 m = some r) : jz_m l y_AR_speakerSeenBy cd_AR_speakerSeenBy rm_AR_speakerSeenBy (cz_G Z) [.ref (gz_ad (cz_G Z) 0), .int a1, .int a2, .int a3] m (some (.int r)) m := by
  refine jz_met (own := R_AR) (by decide) rfl hI (Nat.le_of_ble_eq_true rfl) (fun X hX C => ?_)
  subst hX
  show jz_J X 7 (cz_G Z) _ m [(0, .ref (gz_ad (cz_G Z) 0)), (1, .int a1), (2, .int a2), (3, .int a3)] 0 []
  unfold f_AR_speakerSeenBy at h
  refine jr_iload_n 0 C d_AR_speakerSeenBy_0 rfl ?_
  refine jr_istore 1 [(0, .ref (gz_ad (cz_G Z) 0)), (1, .int a1), (2, .int a2), (3, .int a3), (4, .int a1)] C d_AR_speakerSeenBy_1 rfl (by decide) rfl ?_
  refine jr_iconst 3 0 C d_AR_speakerSeenBy_3 (by decide) ?_
  refine jr_istore 4 [(0, .ref (gz_ad (cz_G Z) 0)), (1, .int a1), (2, .int a2), (3, .int a3), (4, .int a1), (5, .int 0)] C d_AR_speakerSeenBy_4 rfl (by decide) rfl ?_
  refine jr_sub [0, 1, 2, 3, 4, 5] rfl ?_
  exact t_AR_speakerSeenBy_6 C 1000 a1 a2 a3 a1 0 h
abbrev rm_AR_nameOf : Room := { frames := 0, cells := 0, slots := 0, locals := 0 }
abbrev cd_AR_nameOf : Cond := .code y_AR_nameOf b_AR_nameOf 2 (some .int)
def f_AR_nameOf (a0 : Int32) (a1 : Int32) (m : jz_M) : Option (Int32) :=
  some (((7 : Int32) * a0) + a1)
set_option maxHeartbeats 4000000 in
set_option maxRecDepth 100000 in
theorem c_AR_nameOf {Z : cz_Z} (l : Launch) (hI : jz_I (cz_G Z)) {a0 : Int32} {a1 : Int32} {m : jz_M} {r : Int32} (h : f_AR_nameOf a0 a1 m = some r) : jz_m l y_AR_nameOf cd_AR_nameOf rm_AR_nameOf (cz_G Z) [.int a0, .int a1] m (some (.int r)) m := by
  refine jz_met (own := R_AR) (by decide) rfl hI (Nat.le_of_ble_eq_true rfl) (fun X hX C => ?_)
  subst hX
  show jz_J X 2 (cz_G Z) _ m [(0, .int a0), (1, .int a1)] 0 []
  unfold f_AR_nameOf at h
  refine jr_bipush 0 7 C d_AR_nameOf_0 (by decide) ?_
  refine jr_iload_n 2 C d_AR_nameOf_2 rfl ?_
  refine jr_imul 3 C d_AR_nameOf_3 ?_
  refine jr_iload_n 4 C d_AR_nameOf_4 rfl ?_
  refine jr_iadd 5 C d_AR_nameOf_5 ?_
  obtain rfl := Option.some.inj h
  exact jr_iret 6 (v := (((7 : Int32) * a0) + a1)) C d_AR_nameOf_6 rfl
