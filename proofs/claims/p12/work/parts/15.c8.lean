abbrev rm_Ba_hasLink : Room := { frames := 1, cells := 0, slots := 0, locals := 22 }
abbrev cd_Ba_hasLink : Cond := .code y_Ba_hasLink b_Ba_hasLink 4 (some .boolean)
def f_Ba_hasLink_2 (m : jz_M) : Nat → Nat → Int32 → Int32 → Int32 → Option (Int32)
  | 0, _, _, _, _ => none
  | fu + 1, o0, x1, x2, x3 =>
    (jz_ix 42 x1).bind fun j1_ =>
    if (m (o0 + 7) j1_) ≤ x3 then
      some 0
    else
      (f_Ba_linkOf o0 x1 x3 m).bind fun v3_ =>
      if ¬ (v3_ - v3_ / 64 * 64) = x2 then
        jz_n (x3 + 1) fun x5_ =>
        f_Ba_hasLink_2 m fu o0 x1 x2 x5_
      else
        some 1
set_option maxHeartbeats 4000000 in
set_option maxRecDepth 100000 in
theorem t_Ba_hasLink_2 {Z : cz_Z} {X : jz_X} {m : jz_M} {r : Int32} (C : jz_C X 4 b_Ba_hasLink R_Ba (some .boolean) rm_Ba_hasLink (cz_G Z)) : ∀ (fu : Nat) (o0 : Nat) (x1 : Int32) (x2 : Int32) (x3 : Int32) , kz_Ba o0 → f_Ba_hasLink_2 m fu o0 x1 x2 x3 = some r → jz_J X 4 (cz_G Z) (jz_q X (cz_G Z) (some (.int r)) m) m [(0, .ref (gz_ad (cz_G Z) o0)), (1, .int x1), (2, .int x2), (3, .int x3)] 2 [] := by
  intro fu
  induction fu with
  | zero => intro o0 x1 x2 x3 k0 h; cases h
  | succ fu ih =>
    intro o0 x1 x2 x3 k0 h
    rw [f_Ba_hasLink_2] at h
    refine jr_iload_n 2 C d_Ba_hasLink_2 rfl ?_
    refine jr_aload_n 3 C d_Ba_hasLink_3 rfl ?_
    refine gf_Ba_31 4 C d_Ba_hasLink_4 k0 ?_
    refine jr_iload_n 7 C d_Ba_hasLink_7 rfl ?_
    obtain ⟨j1_, ej1_, h⟩ := jz_b h
    refine jr_iald 8 C d_Ba_hasLink_8 (zk_Ba_linkCounts k0) ej1_ ?_
    refine jr_icmp_ge 9 33 C d_Ba_hasLink_9 (by decide) (fun c2_ => ?_) (fun c2_ => ?_)
    · have h := jz_t c2_ h
      refine jr_iconst 33 0 C d_Ba_hasLink_33 (by decide) ?_
      obtain rfl := Option.some.inj h
      exact jr_zret 34 (v := 0) C d_Ba_hasLink_34 rfl nb_0
    · have h := jz_f c2_ h
      refine jr_aload_n 12 C d_Ba_hasLink_12 rfl ?_
      refine jr_iload_n 13 C d_Ba_hasLink_13 rfl ?_
      refine jr_iload_n 14 C d_Ba_hasLink_14 rfl ?_
      obtain ⟨v3_, ev3_, h⟩ := jz_b h
      refine jr_callV 15 [.int x1, .int x3] C d_Ba_hasLink_15 (c_Ba_linkOf (xz_l X) C.2.2.2.2.2.2.1 k0 ev3_) sz_Ba_linkOf tz_Ba_linkOf lk_Ba_47 (oz_Ba k0) rfl (by decide) rfl rfl (Nat.le_of_ble_eq_true rfl) rfl ?_
      refine jr_bipush 18 64 C d_Ba_hasLink_18 (by decide) ?_
      refine jr_irem 20 C d_Ba_hasLink_20 (by decide) ?_
      refine jr_iload_n 21 C d_Ba_hasLink_21 rfl ?_
      refine jr_icmp_ne 22 27 C d_Ba_hasLink_22 (by decide) (fun c4_ => ?_) (fun c4_ => ?_)
      · have h := jz_t c4_ h
        obtain ⟨x5_, ex5_, h⟩ := jz_ne h
        refine jr_iinc 27 [(0, .ref (gz_ad (cz_G Z) o0)), (1, .int x1), (2, .int x2), (3, .int x5_)] C d_Ba_hasLink_27 rfl (by decide) rfl (by rw [ex5_]; rfl) rfl ?_
        refine jr_goto 30 2 C d_Ba_hasLink_30 (by decide) ?_
        refine jr_sub [0, 1, 2, 3] rfl ?_
        exact ih o0 x1 x2 x5_ k0 h
      · have h := jz_f c4_ h
        refine jr_iconst 25 1 C d_Ba_hasLink_25 (by decide) ?_
        obtain rfl := Option.some.inj h
        exact jr_zret 26 (v := 1) C d_Ba_hasLink_26 rfl nb_1
def f_Ba_hasLink (o0 : Nat) (a1 : Int32) (a2 : Int32) (m : jz_M) : Option (Int32) :=
  f_Ba_hasLink_2 m 1000 o0 a1 a2 0
set_option maxHeartbeats 4000000 in
set_option maxRecDepth 100000 in
theorem c_Ba_hasLink {Z : cz_Z} (l : Launch) (hI : jz_I (cz_G Z)) {o0 : Nat} {a1 : Int32} {a2 : Int32} {m : jz_M} {r : Int32} (ko0 : kz_Ba o0) (h : f_Ba_hasLink o0 a1 a2 m = some r) : jz_m l y_Ba_hasLink cd_Ba_hasLink rm_Ba_hasLink (cz_G Z) [.ref (gz_ad (cz_G Z) o0), .int a1, .int a2] m (some (.int r)) m := by
  refine jz_met (own := R_Ba) (by decide) rfl hI (Nat.le_of_ble_eq_true rfl) (fun X hX C => ?_)
  subst hX
  show jz_J X 4 (cz_G Z) _ m [(0, .ref (gz_ad (cz_G Z) o0)), (1, .int a1), (2, .int a2)] 0 []
  unfold f_Ba_hasLink at h
  refine jr_iconst 0 0 C d_Ba_hasLink_0 (by decide) ?_
  refine jr_istore_n 1 [(0, .ref (gz_ad (cz_G Z) o0)), (1, .int a1), (2, .int a2), (3, .int 0)] C d_Ba_hasLink_1 rfl (by decide) rfl ?_
  refine jr_sub [0, 1, 2, 3] rfl ?_
  exact t_Ba_hasLink_2 C 1000 o0 a1 a2 0 ko0 h
abbrev rm_Wa_reach : Room := { frames := 1, cells := 0, slots := 0, locals := 20 }
abbrev cd_Wa_reach : Cond := .code y_Wa_reach b_Wa_reach 5 none
def f_Wa_reach_32 (x1 : Int32) (x2 : Int32) (x4 : Int32) (m : jz_M) : Option (jz_M) :=
  (jz_ix 42 x1).bind fun j1_ =>
  if (m 149 j1_) ≤ x2 then
    (jz_ix 42 x1).bind fun j3_ =>
    if ¬ x2 = (m 149 j3_) then
      some m
    else
      (jz_ix 42 x1).bind fun j5_ =>
      (jz_ix 42 x1).bind fun j6_ =>
      jz_n (jz_up m 150 j6_ ((m 150 j5_) ||| x4)) fun m7_ =>
      some m7_
  else
    (jz_ix 42 x1).bind fun j8_ =>
    jz_n (jz_up m 149 j8_ x2) fun m9_ =>
    (jz_ix 42 x1).bind fun j10_ =>
    jz_n (jz_up m9_ 150 j10_ x4) fun m11_ =>
    some m11_
set_option maxHeartbeats 4000000 in
set_option maxRecDepth 100000 in
theorem t_Wa_reach_32 {Z : cz_Z} {X : jz_X} {r : jz_M} (C : jz_C X 5 b_Wa_reach R_Wa none rm_Wa_reach (cz_G Z)) : ∀ (x1 : Int32) (x2 : Int32) (x4 : Int32) (m : jz_M) , f_Wa_reach_32 x1 x2 x4 m = some r → jz_J X 5 (cz_G Z) (jz_q X (cz_G Z) none r) m [(0, .ref (gz_ad (cz_G Z) 148)), (1, .int x1), (2, .int x2), (4, .int x4)] 32 [] := by
  intro x1 x2 x4 m h
  unfold f_Wa_reach_32 at h
  refine jr_iload_n 32 C d_Wa_reach_32 rfl ?_
  refine jr_aload_n 33 C d_Wa_reach_33 rfl ?_
  refine gf_Wa_9 34 C d_Wa_reach_34 ?_
  refine jr_iload_n 37 C d_Wa_reach_37 rfl ?_
  obtain ⟨j1_, ej1_, h⟩ := jz_b h
  refine jr_iald 38 C d_Wa_reach_38 zk_Wa_costs ej1_ ?_
  refine jr_icmp_ge 39 60 C d_Wa_reach_39 (by decide) (fun c2_ => ?_) (fun c2_ => ?_)
  · have h := jz_t c2_ h
    refine jr_iload_n 60 C d_Wa_reach_60 rfl ?_
    refine jr_aload_n 61 C d_Wa_reach_61 rfl ?_
    refine gf_Wa_9 62 C d_Wa_reach_62 ?_
    refine jr_iload_n 65 C d_Wa_reach_65 rfl ?_
    obtain ⟨j3_, ej3_, h⟩ := jz_b h
    refine jr_iald 66 C d_Wa_reach_66 zk_Wa_costs ej3_ ?_
    refine jr_icmp_ne 67 81 C d_Wa_reach_67 (by decide) (fun c4_ => ?_) (fun c4_ => ?_)
    · have h := jz_t c4_ h
      obtain rfl := Option.some.inj h
      exact jr_vret 81 C d_Wa_reach_81 rfl
    · have h := jz_f c4_ h
      refine jr_aload_n 70 C d_Wa_reach_70 rfl ?_
      refine gf_Wa_15 71 C d_Wa_reach_71 ?_
      refine jr_iload_n 74 C d_Wa_reach_74 rfl ?_
      refine jr_dup2 75 C d_Wa_reach_75 rfl rfl ?_
      obtain ⟨j5_, ej5_, h⟩ := jz_b h
      refine jr_iald 76 C d_Wa_reach_76 zk_Wa_firstHops ej5_ ?_
      refine jr_iload 77 C d_Wa_reach_77 rfl ?_
      refine jr_ior 79 C d_Wa_reach_79 ?_
      obtain ⟨j6_, ej6_, h⟩ := jz_b h
      obtain ⟨m7_, em7_, h⟩ := jz_ne h
      refine jr_iast 80 C d_Wa_reach_80 zk_Wa_firstHops ej6_ ?_
      refine jr_mem em7_ ?_
      obtain rfl := Option.some.inj h
      exact jr_vret 81 C d_Wa_reach_81 rfl
  · have h := jz_f c2_ h
    refine jr_aload_n 42 C d_Wa_reach_42 rfl ?_
    refine gf_Wa_9 43 C d_Wa_reach_43 ?_
    refine jr_iload_n 46 C d_Wa_reach_46 rfl ?_
    refine jr_iload_n 47 C d_Wa_reach_47 rfl ?_
    obtain ⟨j8_, ej8_, h⟩ := jz_b h
    obtain ⟨m9_, em9_, h⟩ := jz_ne h
    refine jr_iast 48 C d_Wa_reach_48 zk_Wa_costs ej8_ ?_
    refine jr_mem em9_ ?_
    refine jr_aload_n 49 C d_Wa_reach_49 rfl ?_
    refine gf_Wa_15 50 C d_Wa_reach_50 ?_
    refine jr_iload_n 53 C d_Wa_reach_53 rfl ?_
    refine jr_iload 54 C d_Wa_reach_54 rfl ?_
    obtain ⟨j10_, ej10_, h⟩ := jz_b h
    obtain ⟨m11_, em11_, h⟩ := jz_ne h
    refine jr_iast 56 C d_Wa_reach_56 zk_Wa_firstHops ej10_ ?_
    refine jr_mem em11_ ?_
    refine jr_goto 57 81 C d_Wa_reach_57 (by decide) ?_
    obtain rfl := Option.some.inj h
    exact jr_vret 81 C d_Wa_reach_81 rfl
def f_Wa_reach (a1 : Int32) (a2 : Int32) (a3 : Int32) (m : jz_M) : Option (jz_M) :=
  (f_AR_partOf a1 m).bind fun v1_ =>
  if ¬ v1_ = 0 then
    f_Wa_reach_32 a1 a2 a3 m
  else
    if (a3 &&& 64) = 0 then
      f_Wa_reach_32 a1 a2 a3 m
    else
      (f_AR_routerOf a1 m).bind fun v4_ =>
      jz_n ((a3 &&& (-65)) ||| ((1 : Int32) <<< (v4_ &&& 31))) fun x5_ =>
      f_Wa_reach_32 a1 a2 x5_ m
set_option maxHeartbeats 4000000 in
set_option maxRecDepth 100000 in
theorem c_Wa_reach {Z : cz_Z} (l : Launch) (hI : jz_I (cz_G Z)) {a1 : Int32} {a2 : Int32} {a3 : Int32} {m : jz_M} {r : jz_M} (h : f_Wa_reach a1 a2 a3 m = some r) : jz_m l y_Wa_reach cd_Wa_reach rm_Wa_reach (cz_G Z) [.ref (gz_ad (cz_G Z) 148), .int a1, .int a2, .int a3] m none r := by
  refine jz_met (own := R_Wa) (by decide) rfl hI (Nat.le_of_ble_eq_true rfl) (fun X hX C => ?_)
  subst hX
  show jz_J X 5 (cz_G Z) _ m [(0, .ref (gz_ad (cz_G Z) 148)), (1, .int a1), (2, .int a2), (3, .int a3)] 0 []
  unfold f_Wa_reach at h
  refine jr_iload_n 0 C d_Wa_reach_0 rfl ?_
  refine jr_istore 1 [(0, .ref (gz_ad (cz_G Z) 148)), (1, .int a1), (2, .int a2), (3, .int a3), (4, .int a3)] C d_Wa_reach_1 rfl (by decide) rfl ?_
  refine jr_iload_n 3 C d_Wa_reach_3 rfl ?_
  obtain ⟨v1_, ev1_, h⟩ := jz_b h
  refine jr_callSN 4 [.int a1] C d_Wa_reach_4 (c_AR_partOf (xz_l X) C.2.2.2.2.2.2.1 ev1_) sz_AR_partOf tz_AR_partOf lk_Wa_31 (by decide) rfl rfl (Nat.le_of_ble_eq_true rfl) rfl ?_
  refine jr_if_ne 7 32 C d_Wa_reach_7 (by decide) (fun c2_ => ?_) (fun c2_ => ?_)
  · have h := jz_t c2_ h
    refine jr_sub [0, 1, 2, 4] rfl ?_
    exact t_Wa_reach_32 C  a1 a2 a3 m h
  · have h := jz_f c2_ h
    refine jr_iload 10 C d_Wa_reach_10 rfl ?_
    refine jr_bipush 12 64 C d_Wa_reach_12 (by decide) ?_
    refine jr_iand 14 C d_Wa_reach_14 ?_
    refine jr_if_eq 15 32 C d_Wa_reach_15 (by decide) (fun c3_ => ?_) (fun c3_ => ?_)
    · have h := jz_t c3_ h
      refine jr_sub [0, 1, 2, 4] rfl ?_
      exact t_Wa_reach_32 C  a1 a2 a3 m h
    · have h := jz_f c3_ h
      refine jr_iload 18 C d_Wa_reach_18 rfl ?_
      refine jr_bipush 20 (-65) C d_Wa_reach_20 (by decide) ?_
      refine jr_iand 22 C d_Wa_reach_22 ?_
      refine jr_iconst 23 1 C d_Wa_reach_23 (by decide) ?_
      refine jr_iload_n 24 C d_Wa_reach_24 rfl ?_
      obtain ⟨v4_, ev4_, h⟩ := jz_b h
      refine jr_callSN 25 [.int a1] C d_Wa_reach_25 (c_AR_routerOf (xz_l X) C.2.2.2.2.2.2.1  ev4_) sz_AR_routerOf tz_AR_routerOf lk_Wa_59 (by decide) rfl rfl (Nat.le_of_ble_eq_true rfl) rfl ?_
      refine jr_ishl 28 C d_Wa_reach_28 ?_
      refine jr_ior 29 C d_Wa_reach_29 ?_
      obtain ⟨x5_, ex5_, h⟩ := jz_ne h
      refine jr_top ex5_ ?_
      refine jr_istore 30 [(0, .ref (gz_ad (cz_G Z) 148)), (1, .int a1), (2, .int a2), (3, .int a3), (4, .int x5_)] C d_Wa_reach_30 rfl (by decide) rfl ?_
      refine jr_sub [0, 1, 2, 4] rfl ?_
      exact t_Wa_reach_32 C  a1 a2 x5_ m h
abbrev rm_Wa_followLinks : Room := { frames := 2, cells := 0, slots := 0, locals := 45 }
abbrev cd_Wa_followLinks : Cond := .code y_Wa_followLinks b_Wa_followLinks 6 none
def f_Wa_followLinks_11 : Nat → Nat → Int32 → Int32 → jz_M → Option (jz_M)
  | 0, _, _, _, _ => none
  | fu + 1, o1, x2, x3, m =>
    (jz_ix 42 x2).bind fun j1_ =>
    if (m (o1 + 7) j1_) ≤ x3 then
      some m
    else
      (f_Ba_linkOf o1 x2 x3 m).bind fun v3_ =>
      jz_n (v3_ - v3_ / 64 * 64) fun x4_ =>
      (f_AR_isName x4_ m).bind fun v5_ =>
      if v5_ = 0 then
        jz_n (x3 + 1) fun x7_ =>
        f_Wa_followLinks_11 fu o1 x2 x7_ m
      else
        (f_Ba_isAlive o1 x4_ m).bind fun v8_ =>
        if v8_ = 0 then
          jz_n (x3 + 1) fun x10_ =>
          f_Wa_followLinks_11 fu o1 x2 x10_ m
        else
          (f_Ba_hasLink o1 x4_ x2 m).bind fun v11_ =>
          if v11_ = 0 then
            jz_n (x3 + 1) fun x13_ =>
            f_Wa_followLinks_11 fu o1 x2 x13_ m
          else
            (jz_ix 42 x2).bind fun j14_ =>
            (jz_ix 42 x2).bind fun j15_ =>
            (f_Wa_reach x4_ ((m 149 j14_) + (v3_ / 64)) (m 150 j15_) m).bind fun v16_ =>
            jz_n (x3 + 1) fun x17_ =>
            f_Wa_followLinks_11 fu o1 x2 x17_ v16_
set_option maxHeartbeats 4000000 in
set_option maxRecDepth 100000 in
theorem t_Wa_followLinks_11 {Z : cz_Z} {X : jz_X} {r : jz_M} (C : jz_C X 6 b_Wa_followLinks R_Wa none rm_Wa_followLinks (cz_G Z)) : ∀ (fu : Nat) (o1 : Nat) (x2 : Int32) (x3 : Int32) (m : jz_M) , kz_Ba o1 → f_Wa_followLinks_11 fu o1 x2 x3 m = some r → jz_J X 6 (cz_G Z) (jz_q X (cz_G Z) none r) m [(0, .ref (gz_ad (cz_G Z) 148)), (1, .ref (gz_ad (cz_G Z) o1)), (2, .int x2), (3, .int x3)] 11 [] := by
  intro fu
  induction fu with
  | zero => intro o1 x2 x3 m k1 h; cases h
  | succ fu ih =>
    intro o1 x2 x3 m k1 h
    rw [f_Wa_followLinks_11] at h
    refine jr_iload_n 11 C d_Wa_followLinks_11 rfl ?_
    refine jr_aload_n 12 C d_Wa_followLinks_12 rfl ?_
    refine gf_Wa_41 13 C d_Wa_followLinks_13 k1 ?_
    refine jr_iload_n 16 C d_Wa_followLinks_16 rfl ?_
    obtain ⟨j1_, ej1_, h⟩ := jz_b h
    refine jr_iald 17 C d_Wa_followLinks_17 (zk_Ba_linkCounts k1) ej1_ ?_
    refine jr_icmp_ge 18 93 C d_Wa_followLinks_18 (by decide) (fun c2_ => ?_) (fun c2_ => ?_)
    · have h := jz_t c2_ h
      obtain rfl := Option.some.inj h
      exact jr_vret 93 C d_Wa_followLinks_93 rfl
    · have h := jz_f c2_ h
      refine jr_aload_n 21 C d_Wa_followLinks_21 rfl ?_
      refine jr_iload_n 22 C d_Wa_followLinks_22 rfl ?_
      refine jr_iload_n 23 C d_Wa_followLinks_23 rfl ?_
      obtain ⟨v3_, ev3_, h⟩ := jz_b h
      refine jr_callVN 24 [.int x2, .int x3] C d_Wa_followLinks_24 (c_Ba_linkOf (xz_l X) C.2.2.2.2.2.2.1 k1 ev3_) sz_Ba_linkOf tz_Ba_linkOf lk_Wa_44 (oz_Ba k1) rfl (by decide) rfl rfl (Nat.le_of_ble_eq_true rfl) rfl ?_
      refine jr_istore 27 [(0, .ref (gz_ad (cz_G Z) 148)), (1, .ref (gz_ad (cz_G Z) o1)), (2, .int x2), (3, .int x3), (4, .int v3_)] C d_Wa_followLinks_27 rfl (by decide) rfl ?_
      refine jr_iload 29 C d_Wa_followLinks_29 rfl ?_
      refine jr_bipush 31 64 C d_Wa_followLinks_31 (by decide) ?_
      refine jr_irem 33 C d_Wa_followLinks_33 (by decide) ?_
      obtain ⟨x4_, ex4_, h⟩ := jz_ne h
      refine jr_top ex4_ ?_
      refine jr_istore 34 [(0, .ref (gz_ad (cz_G Z) 148)), (1, .ref (gz_ad (cz_G Z) o1)), (2, .int x2), (3, .int x3), (4, .int v3_), (5, .int x4_)] C d_Wa_followLinks_34 rfl (by decide) rfl ?_
      refine jr_iload 36 C d_Wa_followLinks_36 rfl ?_
      obtain ⟨v5_, ev5_, h⟩ := jz_b h
      refine jr_callSN 38 [.int x4_] C d_Wa_followLinks_38 (c_AR_isName (xz_l X) C.2.2.2.2.2.2.1  ev5_) sz_AR_isName tz_AR_isName lk_Wa_48 (by decide) rfl rfl (Nat.le_of_ble_eq_true rfl) rfl ?_
      refine jr_if_eq 41 87 C d_Wa_followLinks_41 (by decide) (fun c6_ => ?_) (fun c6_ => ?_)
      · have h := jz_t c6_ h
        obtain ⟨x7_, ex7_, h⟩ := jz_ne h
        refine jr_iinc 87 [(0, .ref (gz_ad (cz_G Z) 148)), (1, .ref (gz_ad (cz_G Z) o1)), (2, .int x2), (3, .int x7_), (4, .int v3_), (5, .int x4_)] C d_Wa_followLinks_87 rfl (by decide) rfl (by rw [ex7_]; rfl) rfl ?_
        refine jr_goto 90 11 C d_Wa_followLinks_90 (by decide) ?_
        refine jr_sub [0, 1, 2, 3] rfl ?_
        exact ih o1 x2 x7_ m k1 h
      · have h := jz_f c6_ h
        refine jr_aload_n 44 C d_Wa_followLinks_44 rfl ?_
        refine jr_iload 45 C d_Wa_followLinks_45 rfl ?_
        obtain ⟨v8_, ev8_, h⟩ := jz_b h
        refine jr_callVN 47 [.int x4_] C d_Wa_followLinks_47 (c_Ba_isAlive (xz_l X) C.2.2.2.2.2.2.1 k1 ev8_) sz_Ba_isAlive tz_Ba_isAlive lk_Wa_35 (oz_Ba k1) rfl (by decide) rfl rfl (Nat.le_of_ble_eq_true rfl) rfl ?_
        refine jr_if_eq 50 87 C d_Wa_followLinks_50 (by decide) (fun c9_ => ?_) (fun c9_ => ?_)
        · have h := jz_t c9_ h
          obtain ⟨x10_, ex10_, h⟩ := jz_ne h
          refine jr_iinc 87 [(0, .ref (gz_ad (cz_G Z) 148)), (1, .ref (gz_ad (cz_G Z) o1)), (2, .int x2), (3, .int x10_), (4, .int v3_), (5, .int x4_)] C d_Wa_followLinks_87 rfl (by decide) rfl (by rw [ex10_]; rfl) rfl ?_
          refine jr_goto 90 11 C d_Wa_followLinks_90 (by decide) ?_
          refine jr_sub [0, 1, 2, 3] rfl ?_
          exact ih o1 x2 x10_ m k1 h
        · have h := jz_f c9_ h
          refine jr_aload_n 53 C d_Wa_followLinks_53 rfl ?_
          refine jr_iload 54 C d_Wa_followLinks_54 rfl ?_
          refine jr_iload_n 56 C d_Wa_followLinks_56 rfl ?_
          obtain ⟨v11_, ev11_, h⟩ := jz_b h
          refine jr_callVN 57 [.int x4_, .int x2] C d_Wa_followLinks_57 (c_Ba_hasLink (xz_l X) C.2.2.2.2.2.2.1 k1 ev11_) sz_Ba_hasLink tz_Ba_hasLink lk_Wa_51 (oz_Ba k1) rfl (by decide) rfl rfl (Nat.le_of_ble_eq_true rfl) rfl ?_
          refine jr_if_eq 60 87 C d_Wa_followLinks_60 (by decide) (fun c12_ => ?_) (fun c12_ => ?_)
          · have h := jz_t c12_ h
            obtain ⟨x13_, ex13_, h⟩ := jz_ne h
            refine jr_iinc 87 [(0, .ref (gz_ad (cz_G Z) 148)), (1, .ref (gz_ad (cz_G Z) o1)), (2, .int x2), (3, .int x13_), (4, .int v3_), (5, .int x4_)] C d_Wa_followLinks_87 rfl (by decide) rfl (by rw [ex13_]; rfl) rfl ?_
            refine jr_goto 90 11 C d_Wa_followLinks_90 (by decide) ?_
            refine jr_sub [0, 1, 2, 3] rfl ?_
            exact ih o1 x2 x13_ m k1 h
          · have h := jz_f c12_ h
            refine jr_aload_n 63 C d_Wa_followLinks_63 rfl ?_
            refine jr_iload 64 C d_Wa_followLinks_64 rfl ?_
            refine jr_aload_n 66 C d_Wa_followLinks_66 rfl ?_
            refine gf_Wa_9 67 C d_Wa_followLinks_67 ?_
            refine jr_iload_n 70 C d_Wa_followLinks_70 rfl ?_
            obtain ⟨j14_, ej14_, h⟩ := jz_b h
            refine jr_iald 71 C d_Wa_followLinks_71 zk_Wa_costs ej14_ ?_
            refine jr_iload 72 C d_Wa_followLinks_72 rfl ?_
            refine jr_bipush 74 64 C d_Wa_followLinks_74 (by decide) ?_
            refine jr_idiv 76 C d_Wa_followLinks_76 (by decide) ?_
            refine jr_iadd 77 C d_Wa_followLinks_77 ?_
            refine jr_aload_n 78 C d_Wa_followLinks_78 rfl ?_
            refine gf_Wa_15 79 C d_Wa_followLinks_79 ?_
            refine jr_iload_n 82 C d_Wa_followLinks_82 rfl ?_
            obtain ⟨j15_, ej15_, h⟩ := jz_b h
            refine jr_iald 83 C d_Wa_followLinks_83 zk_Wa_firstHops ej15_ ?_
            obtain ⟨v16_, ev16_, h⟩ := jz_b h
            refine jr_callV 84 [.int x4_, .int ((m 149 j14_) + (v3_ / 64)), .int (m 150 j15_)] C d_Wa_followLinks_84 (c_Wa_reach (xz_l X) C.2.2.2.2.2.2.1  ev16_) sz_Wa_reach tz_Wa_reach lk_Wa_55 oz_Wa rfl (by decide) rfl rfl (Nat.le_of_ble_eq_true rfl) rfl ?_
            obtain ⟨x17_, ex17_, h⟩ := jz_ne h
            refine jr_iinc 87 [(0, .ref (gz_ad (cz_G Z) 148)), (1, .ref (gz_ad (cz_G Z) o1)), (2, .int x2), (3, .int x17_), (4, .int v3_), (5, .int x4_)] C d_Wa_followLinks_87 rfl (by decide) rfl (by rw [ex17_]; rfl) rfl ?_
            refine jr_goto 90 11 C d_Wa_followLinks_90 (by decide) ?_
            refine jr_sub [0, 1, 2, 3] rfl ?_
            exact ih o1 x2 x17_ v16_ k1 h
def f_Wa_followLinks (o1 : Nat) (a2 : Int32) (m : jz_M) : Option (jz_M) :=
  (f_Ba_isAlive o1 a2 m).bind fun v1_ =>
  if ¬ v1_ = 0 then
    f_Wa_followLinks_11 1000 o1 a2 0 m
  else
    some m
set_option maxHeartbeats 4000000 in
set_option maxRecDepth 100000 in
theorem c_Wa_followLinks {Z : cz_Z} (l : Launch) (hI : jz_I (cz_G Z)) {o1 : Nat} {a2 : Int32} {m : jz_M} {r : jz_M} (ko1 : kz_Ba o1) (h : f_Wa_followLinks o1 a2 m = some r) : jz_m l y_Wa_followLinks cd_Wa_followLinks rm_Wa_followLinks (cz_G Z) [.ref (gz_ad (cz_G Z) 148), .ref (gz_ad (cz_G Z) o1), .int a2] m none r := by
  refine jz_met (own := R_Wa) (by decide) rfl hI (Nat.le_of_ble_eq_true rfl) (fun X hX C => ?_)
  subst hX
  show jz_J X 6 (cz_G Z) _ m [(0, .ref (gz_ad (cz_G Z) 148)), (1, .ref (gz_ad (cz_G Z) o1)), (2, .int a2)] 0 []
  unfold f_Wa_followLinks at h
  refine jr_aload_n 0 C d_Wa_followLinks_0 rfl ?_
  refine jr_iload_n 1 C d_Wa_followLinks_1 rfl ?_
  obtain ⟨v1_, ev1_, h⟩ := jz_b h
  refine jr_callVN 2 [.int a2] C d_Wa_followLinks_2 (c_Ba_isAlive (xz_l X) C.2.2.2.2.2.2.1 ko1 ev1_) sz_Ba_isAlive tz_Ba_isAlive lk_Wa_35 (oz_Ba ko1) rfl (by decide) rfl rfl (Nat.le_of_ble_eq_true rfl) rfl ?_
  refine jr_if_ne 5 9 C d_Wa_followLinks_5 (by decide) (fun c2_ => ?_) (fun c2_ => ?_)
  · have h := jz_t c2_ h
    refine jr_iconst 9 0 C d_Wa_followLinks_9 (by decide) ?_
    refine jr_istore_n 10 [(0, .ref (gz_ad (cz_G Z) 148)), (1, .ref (gz_ad (cz_G Z) o1)), (2, .int a2), (3, .int 0)] C d_Wa_followLinks_10 rfl (by decide) rfl ?_
    refine jr_sub [0, 1, 2, 3] rfl ?_
    exact t_Wa_followLinks_11 C  1000 o1 a2 0 m ko1 h
  · have h := jz_f c2_ h
    obtain rfl := Option.some.inj h
    exact jr_vret 8 C d_Wa_followLinks_8 rfl
abbrev rm_Wa_find : Room := { frames := 3, cells := 0, slots := 0, locals := 70 }
abbrev cd_Wa_find : Cond := .code y_Wa_find b_Wa_find 5 none
def f_Wa_find_53 : Nat → Nat → Int32 → jz_M → Option (jz_M)
  | 0, _, _, _ => none
  | fu + 1, o1, x3, m =>
    if 42 ≤ x3 then
      some m
    else
      (f_Wa_nextToSettle m).bind fun v2_ =>
      if 0 ≤ v2_ then
        (jz_ix 42 v2_).bind fun j4_ =>
        jz_n (jz_up m 151 j4_ (vp_nar .boolean 1)) fun m5_ =>
        (f_Wa_followLinks o1 v2_ m5_).bind fun v6_ =>
        jz_n (x3 + 1) fun x7_ =>
        f_Wa_find_53 fu o1 x7_ v6_
      else
        some m
set_option maxHeartbeats 4000000 in
set_option maxRecDepth 100000 in
theorem t_Wa_find_53 {Z : cz_Z} {X : jz_X} {r : jz_M} (C : jz_C X 5 b_Wa_find R_Wa none rm_Wa_find (cz_G Z)) : ∀ (fu : Nat) (o1 : Nat) (x3 : Int32) (m : jz_M) , kz_Ba o1 → f_Wa_find_53 fu o1 x3 m = some r → jz_J X 5 (cz_G Z) (jz_q X (cz_G Z) none r) m [(0, .ref (gz_ad (cz_G Z) 148)), (1, .ref (gz_ad (cz_G Z) o1)), (3, .int x3)] 53 [] := by
  intro fu
  induction fu with
  | zero => intro o1 x3 m k1 h; cases h
  | succ fu ih =>
    intro o1 x3 m k1 h
    rw [f_Wa_find_53] at h
    refine jr_iload_n 53 C d_Wa_find_53 rfl ?_
    refine jr_bipush 54 42 C d_Wa_find_54 (by decide) ?_
    refine jr_icmp_ge 56 92 C d_Wa_find_56 (by decide) (fun c1_ => ?_) (fun c1_ => ?_)
    · have h := jz_t c1_ h
      obtain rfl := Option.some.inj h
      exact jr_vret 92 C d_Wa_find_92 rfl
    · have h := jz_f c1_ h
      refine jr_aload_n 59 C d_Wa_find_59 rfl ?_
      obtain ⟨v2_, ev2_, h⟩ := jz_b h
      refine jr_callV 60 [] C d_Wa_find_60 (c_Wa_nextToSettle (xz_l X) C.2.2.2.2.2.2.1  ev2_) sz_Wa_nextToSettle tz_Wa_nextToSettle lk_Wa_23 oz_Wa rfl (by decide) rfl rfl (Nat.le_of_ble_eq_true rfl) rfl ?_
      refine jr_istore 63 [(0, .ref (gz_ad (cz_G Z) 148)), (1, .ref (gz_ad (cz_G Z) o1)), (3, .int x3), (4, .int v2_)] C d_Wa_find_63 rfl (by decide) rfl ?_
      refine jr_iload 65 C d_Wa_find_65 rfl ?_
      refine jr_if_ge 67 71 C d_Wa_find_67 (by decide) (fun c3_ => ?_) (fun c3_ => ?_)
      · have h := jz_t c3_ h
        refine jr_aload_n 71 C d_Wa_find_71 rfl ?_
        refine gf_Wa_18 72 C d_Wa_find_72 ?_
        refine jr_iload 75 C d_Wa_find_75 rfl ?_
        refine jr_iconst 77 1 C d_Wa_find_77 (by decide) ?_
        obtain ⟨j4_, ej4_, h⟩ := jz_b h
        obtain ⟨m5_, em5_, h⟩ := jz_ne h
        refine jr_zast 78 C d_Wa_find_78 zk_Wa_settled ej4_ ?_
        refine jr_mem em5_ ?_
        refine jr_aload_n 79 C d_Wa_find_79 rfl ?_
        refine jr_aload_n 80 C d_Wa_find_80 rfl ?_
        refine jr_iload 81 C d_Wa_find_81 rfl ?_
        obtain ⟨v6_, ev6_, h⟩ := jz_b h
        refine jr_callV 83 [.ref (gz_ad (cz_G Z) o1), .int v2_] C d_Wa_find_83 (c_Wa_followLinks (xz_l X) C.2.2.2.2.2.2.1 k1 ev6_) sz_Wa_followLinks tz_Wa_followLinks lk_Wa_27 oz_Wa rfl (by decide) rfl rfl (Nat.le_of_ble_eq_true rfl) rfl ?_
        obtain ⟨x7_, ex7_, h⟩ := jz_ne h
        refine jr_iinc 86 [(0, .ref (gz_ad (cz_G Z) 148)), (1, .ref (gz_ad (cz_G Z) o1)), (3, .int x7_), (4, .int v2_)] C d_Wa_find_86 rfl (by decide) rfl (by rw [ex7_]; rfl) rfl ?_
        refine jr_goto 89 53 C d_Wa_find_89 (by decide) ?_
        refine jr_sub [0, 1, 2] rfl ?_
        exact ih o1 x7_ v6_ k1 h
      · have h := jz_f c3_ h
        obtain rfl := Option.some.inj h
        exact jr_vret 70 C d_Wa_find_70 rfl
def f_Wa_find_2 : Nat → Nat → Int32 → Int32 → jz_M → Option (jz_M)
  | 0, _, _, _, _ => none
  | fu + 1, o1, x2, x3, m =>
    if 42 ≤ x3 then
      (jz_ix 42 x2).bind fun j2_ =>
      jz_n (jz_up m 149 j2_ 0) fun m3_ =>
      (jz_ix 42 x2).bind fun j4_ =>
      jz_n (jz_up m3_ 150 j4_ 64) fun m5_ =>
      f_Wa_find_53 1000 o1 0 m5_
    else
      (jz_ix 42 x3).bind fun j6_ =>
      jz_n (jz_up m 149 j6_ 1000000) fun m7_ =>
      (jz_ix 42 x3).bind fun j8_ =>
      jz_n (jz_up m7_ 150 j8_ 0) fun m9_ =>
      (jz_ix 42 x3).bind fun j10_ =>
      jz_n (jz_up m9_ 151 j10_ (vp_nar .boolean 0)) fun m11_ =>
      jz_n (x3 + 1) fun x12_ =>
      f_Wa_find_2 fu o1 x2 x12_ m11_
set_option maxHeartbeats 4000000 in
set_option maxRecDepth 100000 in
theorem t_Wa_find_2 {Z : cz_Z} {X : jz_X} {r : jz_M} (C : jz_C X 5 b_Wa_find R_Wa none rm_Wa_find (cz_G Z)) : ∀ (fu : Nat) (o1 : Nat) (x2 : Int32) (x3 : Int32) (m : jz_M) , kz_Ba o1 → f_Wa_find_2 fu o1 x2 x3 m = some r → jz_J X 5 (cz_G Z) (jz_q X (cz_G Z) none r) m [(0, .ref (gz_ad (cz_G Z) 148)), (1, .ref (gz_ad (cz_G Z) o1)), (2, .int x2), (3, .int x3)] 2 [] := by
  intro fu
  induction fu with
  | zero => intro o1 x2 x3 m k1 h; cases h
  | succ fu ih =>
    intro o1 x2 x3 m k1 h
    rw [f_Wa_find_2] at h
    refine jr_iload_n 2 C d_Wa_find_2 rfl ?_
    refine jr_bipush 3 42 C d_Wa_find_3 (by decide) ?_
    refine jr_icmp_ge 5 36 C d_Wa_find_5 (by decide) (fun c1_ => ?_) (fun c1_ => ?_)
    · have h := jz_t c1_ h
      refine jr_aload_n 36 C d_Wa_find_36 rfl ?_
      refine gf_Wa_9 37 C d_Wa_find_37 ?_
      refine jr_iload_n 40 C d_Wa_find_40 rfl ?_
      refine jr_iconst 41 0 C d_Wa_find_41 (by decide) ?_
      obtain ⟨j2_, ej2_, h⟩ := jz_b h
      obtain ⟨m3_, em3_, h⟩ := jz_ne h
      refine jr_iast 42 C d_Wa_find_42 zk_Wa_costs ej2_ ?_
      refine jr_mem em3_ ?_
      refine jr_aload_n 43 C d_Wa_find_43 rfl ?_
      refine gf_Wa_15 44 C d_Wa_find_44 ?_
      refine jr_iload_n 47 C d_Wa_find_47 rfl ?_
      refine jr_bipush 48 64 C d_Wa_find_48 (by decide) ?_
      obtain ⟨j4_, ej4_, h⟩ := jz_b h
      obtain ⟨m5_, em5_, h⟩ := jz_ne h
      refine jr_iast 50 C d_Wa_find_50 zk_Wa_firstHops ej4_ ?_
      refine jr_mem em5_ ?_
      refine jr_iconst 51 0 C d_Wa_find_51 (by decide) ?_
      refine jr_istore_n 52 [(0, .ref (gz_ad (cz_G Z) 148)), (1, .ref (gz_ad (cz_G Z) o1)), (2, .int x2), (3, .int 0)] C d_Wa_find_52 rfl (by decide) rfl ?_
      refine jr_sub [0, 1, 3] rfl ?_
      exact t_Wa_find_53 C  1000 o1 0 m5_ k1 h
    · have h := jz_f c1_ h
      refine jr_aload_n 8 C d_Wa_find_8 rfl ?_
      refine gf_Wa_9 9 C d_Wa_find_9 ?_
      refine jr_iload_n 12 C d_Wa_find_12 rfl ?_
      refine jr_ldc 13 1000000 C d_Wa_find_13 lk_Wa_22 ?_
      obtain ⟨j6_, ej6_, h⟩ := jz_b h
      obtain ⟨m7_, em7_, h⟩ := jz_ne h
      refine jr_iast 15 C d_Wa_find_15 zk_Wa_costs ej6_ ?_
      refine jr_mem em7_ ?_
      refine jr_aload_n 16 C d_Wa_find_16 rfl ?_
      refine gf_Wa_15 17 C d_Wa_find_17 ?_
      refine jr_iload_n 20 C d_Wa_find_20 rfl ?_
      refine jr_iconst 21 0 C d_Wa_find_21 (by decide) ?_
      obtain ⟨j8_, ej8_, h⟩ := jz_b h
      obtain ⟨m9_, em9_, h⟩ := jz_ne h
      refine jr_iast 22 C d_Wa_find_22 zk_Wa_firstHops ej8_ ?_
      refine jr_mem em9_ ?_
      refine jr_aload_n 23 C d_Wa_find_23 rfl ?_
      refine gf_Wa_18 24 C d_Wa_find_24 ?_
      refine jr_iload_n 27 C d_Wa_find_27 rfl ?_
      refine jr_iconst 28 0 C d_Wa_find_28 (by decide) ?_
      obtain ⟨j10_, ej10_, h⟩ := jz_b h
      obtain ⟨m11_, em11_, h⟩ := jz_ne h
      refine jr_zast 29 C d_Wa_find_29 zk_Wa_settled ej10_ ?_
      refine jr_mem em11_ ?_
      obtain ⟨x12_, ex12_, h⟩ := jz_ne h
      refine jr_iinc 30 [(0, .ref (gz_ad (cz_G Z) 148)), (1, .ref (gz_ad (cz_G Z) o1)), (2, .int x2), (3, .int x12_)] C d_Wa_find_30 rfl (by decide) rfl (by rw [ex12_]; rfl) rfl ?_
      refine jr_goto 33 2 C d_Wa_find_33 (by decide) ?_
      refine jr_sub [0, 1, 2, 3] rfl ?_
      exact ih o1 x2 x12_ m11_ k1 h
def f_Wa_find (o1 : Nat) (a2 : Int32) (m : jz_M) : Option (jz_M) :=
  f_Wa_find_2 1000 o1 a2 0 m
set_option maxHeartbeats 4000000 in
set_option maxRecDepth 100000 in
theorem c_Wa_find {Z : cz_Z} (l : Launch) (hI : jz_I (cz_G Z)) {o1 : Nat} {a2 : Int32} {m : jz_M} {r : jz_M} (ko1 : kz_Ba o1) (h : f_Wa_find o1 a2 m = some r) : jz_m l y_Wa_find cd_Wa_find rm_Wa_find (cz_G Z) [.ref (gz_ad (cz_G Z) 148), .ref (gz_ad (cz_G Z) o1), .int a2] m none r := by
  refine jz_met (own := R_Wa) (by decide) rfl hI (Nat.le_of_ble_eq_true rfl) (fun X hX C => ?_)
  subst hX
  show jz_J X 5 (cz_G Z) _ m [(0, .ref (gz_ad (cz_G Z) 148)), (1, .ref (gz_ad (cz_G Z) o1)), (2, .int a2)] 0 []
  unfold f_Wa_find at h
  refine jr_iconst 0 0 C d_Wa_find_0 (by decide) ?_
  refine jr_istore_n 1 [(0, .ref (gz_ad (cz_G Z) 148)), (1, .ref (gz_ad (cz_G Z) o1)), (2, .int a2), (3, .int 0)] C d_Wa_find_1 rfl (by decide) rfl ?_
  refine jr_sub [0, 1, 2, 3] rfl ?_
  exact t_Wa_find_2 C 1000 o1 a2 0 m ko1 h
abbrev rm_Wa_wayTo : Room := { frames := 1, cells := 0, slots := 0, locals := 21 }
abbrev cd_Wa_wayTo : Cond := .code y_Wa_wayTo b_Wa_wayTo 4 (some .int)
def f_Wa_wayTo_37 (m : jz_M) : Nat → Int32 → Int32 → Int32 → Option (Int32)
  | 0, _, _, _ => none
  | fu + 1, x1, x2, x3 =>
    if 6 ≤ x3 then
      some (-1)
    else
      if ((x2 >>> (x3 &&& 31)) &&& 1) = 0 then
        jz_n (x3 + 1) fun x3_ =>
        f_Wa_wayTo_37 m fu x1 x2 x3_
      else
        (f_AR_nameOf x1 0 m).bind fun v4_ =>
        (jz_ix 42 v4_).bind fun j5_ =>
        some (x3 + ((8 : Int32) * (m 149 j5_)))
set_option maxHeartbeats 4000000 in
set_option maxRecDepth 100000 in
theorem t_Wa_wayTo_37 {Z : cz_Z} {X : jz_X} {m : jz_M} {r : Int32} (C : jz_C X 4 b_Wa_wayTo R_Wa (some .int) rm_Wa_wayTo (cz_G Z)) : ∀ (fu : Nat) (x1 : Int32) (x2 : Int32) (x3 : Int32) , f_Wa_wayTo_37 m fu x1 x2 x3 = some r → jz_J X 4 (cz_G Z) (jz_q X (cz_G Z) (some (.int r)) m) m [(0, .ref (gz_ad (cz_G Z) 148)), (1, .int x1), (2, .int x2), (3, .int x3)] 37 [] := by
  intro fu
  induction fu with
  | zero => intro x1 x2 x3 h; cases h
  | succ fu ih =>
    intro x1 x2 x3 h
    rw [f_Wa_wayTo_37] at h
    refine jr_iload_n 37 C d_Wa_wayTo_37 rfl ?_
    refine jr_bipush 38 6 C d_Wa_wayTo_38 (by decide) ?_
    refine jr_icmp_ge 40 73 C d_Wa_wayTo_40 (by decide) (fun c1_ => ?_) (fun c1_ => ?_)
    · have h := jz_t c1_ h
      refine jr_iconst 73 (-1) C d_Wa_wayTo_73 (by decide) ?_
      obtain rfl := Option.some.inj h
      exact jr_iret 74 (v := (-1)) C d_Wa_wayTo_74 rfl
    · have h := jz_f c1_ h
      refine jr_iload_n 43 C d_Wa_wayTo_43 rfl ?_
      refine jr_iload_n 44 C d_Wa_wayTo_44 rfl ?_
      refine jr_ishr 45 C d_Wa_wayTo_45 ?_
      refine jr_iconst 46 1 C d_Wa_wayTo_46 (by decide) ?_
      refine jr_iand 47 C d_Wa_wayTo_47 ?_
      refine jr_if_eq 48 67 C d_Wa_wayTo_48 (by decide) (fun c2_ => ?_) (fun c2_ => ?_)
      · have h := jz_t c2_ h
        obtain ⟨x3_, ex3_, h⟩ := jz_ne h
        refine jr_iinc 67 [(0, .ref (gz_ad (cz_G Z) 148)), (1, .int x1), (2, .int x2), (3, .int x3_)] C d_Wa_wayTo_67 rfl (by decide) rfl (by rw [ex3_]; rfl) rfl ?_
        refine jr_goto 70 37 C d_Wa_wayTo_70 (by decide) ?_
        refine jr_sub [0, 1, 2, 3] rfl ?_
        exact ih x1 x2 x3_  h
      · have h := jz_f c2_ h
        refine jr_iload_n 51 C d_Wa_wayTo_51 rfl ?_
        refine jr_bipush 52 8 C d_Wa_wayTo_52 (by decide) ?_
        refine jr_aload_n 54 C d_Wa_wayTo_54 rfl ?_
        refine gf_Wa_9 55 C d_Wa_wayTo_55 ?_
        refine jr_iload_n 58 C d_Wa_wayTo_58 rfl ?_
        refine jr_iconst 59 0 C d_Wa_wayTo_59 (by decide) ?_
        obtain ⟨v4_, ev4_, h⟩ := jz_b h
        refine jr_callSN 60 [.int x1, .int 0] C d_Wa_wayTo_60 (c_AR_nameOf (xz_l X) C.2.2.2.2.2.2.1  ev4_) sz_AR_nameOf tz_AR_nameOf lk_Wa_65 (by decide) rfl rfl (Nat.le_of_ble_eq_true rfl) rfl ?_
        obtain ⟨j5_, ej5_, h⟩ := jz_b h
        refine jr_iald 63 C d_Wa_wayTo_63 zk_Wa_costs ej5_ ?_
        refine jr_imul 64 C d_Wa_wayTo_64 ?_
        refine jr_iadd 65 C d_Wa_wayTo_65 ?_
        obtain rfl := Option.some.inj h
        exact jr_iret 66 (v := (x3 + ((8 : Int32) * (m 149 j5_)))) C d_Wa_wayTo_66 rfl
def f_Wa_wayTo (a1 : Int32) (m : jz_M) : Option (Int32) :=
  (f_AR_isRouter a1 m).bind fun v1_ =>
  if v1_ = 0 then
    some (-1)
  else
    (f_AR_nameOf a1 0 m).bind fun v3_ =>
    (jz_ix 42 v3_).bind fun j4_ =>
    if (m 149 j4_) < 1000000 then
      (f_AR_nameOf a1 0 m).bind fun v6_ =>
      (jz_ix 42 v6_).bind fun j7_ =>
      jz_n (m 150 j7_) fun x8_ =>
      f_Wa_wayTo_37 m 1000 a1 x8_ 0
    else
      some (-1)
set_option maxHeartbeats 4000000 in
set_option maxRecDepth 100000 in
theorem c_Wa_wayTo {Z : cz_Z} (l : Launch) (hI : jz_I (cz_G Z)) {a1 : Int32} {m : jz_M} {r : Int32} (h : f_Wa_wayTo a1 m = some r) : jz_m l y_Wa_wayTo cd_Wa_wayTo rm_Wa_wayTo (cz_G Z) [.ref (gz_ad (cz_G Z) 148), .int a1] m (some (.int r)) m := by
  refine jz_met (own := R_Wa) (by decide) rfl hI (Nat.le_of_ble_eq_true rfl) (fun X hX C => ?_)
  subst hX
  show jz_J X 4 (cz_G Z) _ m [(0, .ref (gz_ad (cz_G Z) 148)), (1, .int a1)] 0 []
  unfold f_Wa_wayTo at h
  refine jr_iload_n 0 C d_Wa_wayTo_0 rfl ?_
  obtain ⟨v1_, ev1_, h⟩ := jz_b h
  refine jr_callSN 1 [.int a1] C d_Wa_wayTo_1 (c_AR_isRouter (xz_l X) C.2.2.2.2.2.2.1 ev1_) sz_AR_isRouter tz_AR_isRouter lk_Wa_62 (by decide) rfl rfl (Nat.le_of_ble_eq_true rfl) rfl ?_
  refine jr_if_eq 4 22 C d_Wa_wayTo_4 (by decide) (fun c2_ => ?_) (fun c2_ => ?_)
  · have h := jz_t c2_ h
    refine jr_iconst 22 (-1) C d_Wa_wayTo_22 (by decide) ?_
    obtain rfl := Option.some.inj h
    exact jr_iret 23 (v := (-1)) C d_Wa_wayTo_23 rfl
  · have h := jz_f c2_ h
    refine jr_aload_n 7 C d_Wa_wayTo_7 rfl ?_
    refine gf_Wa_9 8 C d_Wa_wayTo_8 ?_
    refine jr_iload_n 11 C d_Wa_wayTo_11 rfl ?_
    refine jr_iconst 12 0 C d_Wa_wayTo_12 (by decide) ?_
    obtain ⟨v3_, ev3_, h⟩ := jz_b h
    refine jr_callSN 13 [.int a1, .int 0] C d_Wa_wayTo_13 (c_AR_nameOf (xz_l X) C.2.2.2.2.2.2.1  ev3_) sz_AR_nameOf tz_AR_nameOf lk_Wa_65 (by decide) rfl rfl (Nat.le_of_ble_eq_true rfl) rfl ?_
    obtain ⟨j4_, ej4_, h⟩ := jz_b h
    refine jr_iald 16 C d_Wa_wayTo_16 zk_Wa_costs ej4_ ?_
    refine jr_ldc 17 1000000 C d_Wa_wayTo_17 lk_Wa_22 ?_
    refine jr_icmp_lt 19 24 C d_Wa_wayTo_19 (by decide) (fun c5_ => ?_) (fun c5_ => ?_)
    · have h := jz_t c5_ h
      refine jr_aload_n 24 C d_Wa_wayTo_24 rfl ?_
      refine gf_Wa_15 25 C d_Wa_wayTo_25 ?_
      refine jr_iload_n 28 C d_Wa_wayTo_28 rfl ?_
      refine jr_iconst 29 0 C d_Wa_wayTo_29 (by decide) ?_
      obtain ⟨v6_, ev6_, h⟩ := jz_b h
      refine jr_callSN 30 [.int a1, .int 0] C d_Wa_wayTo_30 (c_AR_nameOf (xz_l X) C.2.2.2.2.2.2.1  ev6_) sz_AR_nameOf tz_AR_nameOf lk_Wa_65 (by decide) rfl rfl (Nat.le_of_ble_eq_true rfl) rfl ?_
      obtain ⟨j7_, ej7_, h⟩ := jz_b h
      refine jr_iald 33 C d_Wa_wayTo_33 zk_Wa_firstHops ej7_ ?_
      obtain ⟨x8_, ex8_, h⟩ := jz_ne h
      refine jr_top ex8_ ?_
      refine jr_istore_n 34 [(0, .ref (gz_ad (cz_G Z) 148)), (1, .int a1), (2, .int x8_)] C d_Wa_wayTo_34 rfl (by decide) rfl ?_
      refine jr_iconst 35 0 C d_Wa_wayTo_35 (by decide) ?_
      refine jr_istore_n 36 [(0, .ref (gz_ad (cz_G Z) 148)), (1, .int a1), (2, .int x8_), (3, .int 0)] C d_Wa_wayTo_36 rfl (by decide) rfl ?_
      refine jr_sub [0, 1, 2, 3] rfl ?_
      exact t_Wa_wayTo_37 C  1000 a1 x8_ 0 h
    · have h := jz_f c5_ h
      refine jr_iconst 22 (-1) C d_Wa_wayTo_22 (by decide) ?_
      obtain rfl := Option.some.inj h
      exact jr_iret 23 (v := (-1)) C d_Wa_wayTo_23 rfl
abbrev rm_Wa_nearer : Room := { frames := 1, cells := 0, slots := 0, locals := 21 }
abbrev cd_Wa_nearer : Cond := .code y_Wa_nearer b_Wa_nearer 4 (some .int)
def f_Wa_nearer_22 (m : jz_M) (x1 : Int32) (x2 : Int32) (s0 : Int32) : Option (Int32) :=
  (f_AR_nameOf x2 0 m).bind fun v1_ =>
  (jz_ix 42 v1_).bind fun j2_ =>
  if s0 ≤ (m 149 j2_) then
    some x1
  else
    some x2
set_option maxHeartbeats 4000000 in
set_option maxRecDepth 100000 in
theorem t_Wa_nearer_22 {Z : cz_Z} {X : jz_X} {m : jz_M} {r : Int32} (C : jz_C X 4 b_Wa_nearer R_Wa (some .int) rm_Wa_nearer (cz_G Z)) : ∀ (x1 : Int32) (x2 : Int32) (s0 : Int32) , f_Wa_nearer_22 m x1 x2 s0 = some r → jz_J X 4 (cz_G Z) (jz_q X (cz_G Z) (some (.int r)) m) m [(0, .ref (gz_ad (cz_G Z) 148)), (1, .int x1), (2, .int x2)] 22 [.int s0] := by
  intro x1 x2 s0 h
  unfold f_Wa_nearer_22 at h
  refine jr_istore_n 22 [(0, .ref (gz_ad (cz_G Z) 148)), (1, .int x1), (2, .int x2), (3, .int s0)] C d_Wa_nearer_22 rfl (by decide) rfl ?_
  refine jr_aload_n 23 C d_Wa_nearer_23 rfl ?_
  refine gf_Wa_9 24 C d_Wa_nearer_24 ?_
  refine jr_iload_n 27 C d_Wa_nearer_27 rfl ?_
  refine jr_iconst 28 0 C d_Wa_nearer_28 (by decide) ?_
  obtain ⟨v1_, ev1_, h⟩ := jz_b h
  refine jr_callSN 29 [.int x2, .int 0] C d_Wa_nearer_29 (c_AR_nameOf (xz_l X) C.2.2.2.2.2.2.1 ev1_) sz_AR_nameOf tz_AR_nameOf lk_Wa_65 (by decide) rfl rfl (Nat.le_of_ble_eq_true rfl) rfl ?_
  obtain ⟨j2_, ej2_, h⟩ := jz_b h
  refine jr_iald 32 C d_Wa_nearer_32 zk_Wa_costs ej2_ ?_
  refine jr_iload_n 33 C d_Wa_nearer_33 rfl ?_
  refine jr_icmp_ge 34 41 C d_Wa_nearer_34 (by decide) (fun c3_ => ?_) (fun c3_ => ?_)
  · have h := jz_t c3_ h
    refine jr_iload_n 41 C d_Wa_nearer_41 rfl ?_
    obtain rfl := Option.some.inj h
    exact jr_iret 42 (v := x1) C d_Wa_nearer_42 rfl
  · have h := jz_f c3_ h
    refine jr_iload_n 37 C d_Wa_nearer_37 rfl ?_
    refine jr_goto 38 42 C d_Wa_nearer_38 (by decide) ?_
    obtain rfl := Option.some.inj h
    exact jr_iret 42 (v := x2) C d_Wa_nearer_42 rfl
def f_Wa_nearer (a1 : Int32) (a2 : Int32) (m : jz_M) : Option (Int32) :=
  (f_AR_isRouter a1 m).bind fun v1_ =>
  if v1_ = 0 then
    f_Wa_nearer_22 m a1 a2 1000000
  else
    (f_AR_nameOf a1 0 m).bind fun v3_ =>
    (jz_ix 42 v3_).bind fun j4_ =>
    f_Wa_nearer_22 m a1 a2 (m 149 j4_)
set_option maxHeartbeats 4000000 in
set_option maxRecDepth 100000 in
theorem c_Wa_nearer {Z : cz_Z} (l : Launch) (hI : jz_I (cz_G Z)) {a1 : Int32} {a2 : Int32} {m : jz_M} {r : Int32} (h : f_Wa_nearer a1 a2 m = some r) : jz_m l y_Wa_nearer cd_Wa_nearer rm_Wa_nearer (cz_G Z) [.ref (gz_ad (cz_G Z) 148), .int a1, .int a2] m (some (.int r)) m := by
  refine jz_met (own := R_Wa) (by decide) rfl hI (Nat.le_of_ble_eq_true rfl) (fun X hX C => ?_)
  subst hX
  show jz_J X 4 (cz_G Z) _ m [(0, .ref (gz_ad (cz_G Z) 148)), (1, .int a1), (2, .int a2)] 0 []
  unfold f_Wa_nearer at h
  refine jr_iload_n 0 C d_Wa_nearer_0 rfl ?_
  obtain ⟨v1_, ev1_, h⟩ := jz_b h
  refine jr_callSN 1 [.int a1] C d_Wa_nearer_1 (c_AR_isRouter (xz_l X) C.2.2.2.2.2.2.1 ev1_) sz_AR_isRouter tz_AR_isRouter lk_Wa_62 (by decide) rfl rfl (Nat.le_of_ble_eq_true rfl) rfl ?_
  refine jr_if_eq 4 20 C d_Wa_nearer_4 (by decide) (fun c2_ => ?_) (fun c2_ => ?_)
  · have h := jz_t c2_ h
    refine jr_ldc 20 1000000 C d_Wa_nearer_20 lk_Wa_22 ?_
    refine jr_sub [0, 1, 2] rfl ?_
    exact t_Wa_nearer_22 C  a1 a2 1000000 h
  · have h := jz_f c2_ h
    refine jr_aload_n 7 C d_Wa_nearer_7 rfl ?_
    refine gf_Wa_9 8 C d_Wa_nearer_8 ?_
    refine jr_iload_n 11 C d_Wa_nearer_11 rfl ?_
    refine jr_iconst 12 0 C d_Wa_nearer_12 (by decide) ?_
    obtain ⟨v3_, ev3_, h⟩ := jz_b h
    refine jr_callSN 13 [.int a1, .int 0] C d_Wa_nearer_13 (c_AR_nameOf (xz_l X) C.2.2.2.2.2.2.1  ev3_) sz_AR_nameOf tz_AR_nameOf lk_Wa_65 (by decide) rfl rfl (Nat.le_of_ble_eq_true rfl) rfl ?_
    obtain ⟨j4_, ej4_, h⟩ := jz_b h
    refine jr_iald 16 C d_Wa_nearer_16 zk_Wa_costs ej4_ ?_
    refine jr_goto 17 22 C d_Wa_nearer_17 (by decide) ?_
    refine jr_sub [0, 1, 2] rfl ?_
    exact t_Wa_nearer_22 C  a1 a2 (m 149 j4_) h
abbrev rm_AR_wayToArea : Room := { frames := 4, cells := 0, slots := 0, locals := 94 }
abbrev cd_AR_wayToArea : Cond := .code y_AR_wayToArea b_AR_wayToArea 6 (some .int)
def f_AR_wayToArea_26 : Nat → Int32 → Int32 → Nat → Int32 → Int32 → jz_M → Option (Int32 × jz_M)
  | 0, _, _, _, _, _, _ => none
  | fu + 1, x1, x2, o3, x4, x5, m =>
    if 6 ≤ x5 then
      (f_Wa_wayTo x4 m).bind fun v2_ =>
      some (v2_, m)
    else
      if x5 = x1 then
        jz_n (x5 + 1) fun x4_ =>
        f_AR_wayToArea_26 fu x1 x2 o3 x4 x4_ m
      else
        (f_AR_nameOf x5 0 m).bind fun v5_ =>
        (jz_ix 42 v5_).bind fun j6_ =>
        if ¬ (m (o3 + 6) j6_) = x2 then
          jz_n (x5 + 1) fun x8_ =>
          f_AR_wayToArea_26 fu x1 x2 o3 x4 x8_ m
        else
          (f_Wa_nearer x4 x5 m).bind fun v9_ =>
          jz_n (x5 + 1) fun x10_ =>
          f_AR_wayToArea_26 fu x1 x2 o3 v9_ x10_ m
set_option maxHeartbeats 4000000 in
set_option maxRecDepth 100000 in
theorem t_AR_wayToArea_26 {Z : cz_Z} {X : jz_X} {r : Int32 × jz_M} (C : jz_C X 6 b_AR_wayToArea R_AR (some .int) rm_AR_wayToArea (cz_G Z)) : ∀ (fu : Nat) (x1 : Int32) (x2 : Int32) (o3 : Nat) (x4 : Int32) (x5 : Int32) (m : jz_M) , kz_Ba o3 → f_AR_wayToArea_26 fu x1 x2 o3 x4 x5 m = some r → jz_J X 6 (cz_G Z) (jz_q X (cz_G Z) (some (.int r.1)) r.2) m [(0, .ref (gz_ad (cz_G Z) 0)), (1, .int x1), (2, .int x2), (3, .ref (gz_ad (cz_G Z) o3)), (4, .int x4), (5, .int x5)] 26 [] := by
  intro fu
  induction fu with
  | zero => intro x1 x2 o3 x4 x5 m k3 h; cases h
  | succ fu ih =>
    intro x1 x2 o3 x4 x5 m k3 h
    rw [f_AR_wayToArea_26] at h
    refine jr_iload 26 C d_AR_wayToArea_26 rfl ?_
    refine jr_bipush 28 6 C d_AR_wayToArea_28 (by decide) ?_
    refine jr_icmp_ge 30 73 C d_AR_wayToArea_30 (by decide) (fun c1_ => ?_) (fun c1_ => ?_)
    · have h := jz_t c1_ h
      refine jr_aload_n 73 C d_AR_wayToArea_73 rfl ?_
      refine gf_AR_47 74 C d_AR_wayToArea_74 ?_
      refine jr_iload 77 C d_AR_wayToArea_77 rfl ?_
      obtain ⟨v2_, ev2_, h⟩ := jz_b h
      refine jr_callVN 79 [.int x4] C d_AR_wayToArea_79 (c_Wa_wayTo (xz_l X) C.2.2.2.2.2.2.1  ev2_) sz_Wa_wayTo tz_Wa_wayTo lk_AR_266 oz_Wa rfl (by decide) rfl rfl (Nat.le_of_ble_eq_true rfl) rfl ?_
      obtain rfl := Option.some.inj h
      exact jr_iret 82 (v := v2_) C d_AR_wayToArea_82 rfl
    · have h := jz_f c1_ h
      refine jr_iload 33 C d_AR_wayToArea_33 rfl ?_
      refine jr_iload_n 35 C d_AR_wayToArea_35 rfl ?_
      refine jr_icmp_eq 36 67 C d_AR_wayToArea_36 (by decide) (fun c3_ => ?_) (fun c3_ => ?_)
      · have h := jz_t c3_ h
        obtain ⟨x4_, ex4_, h⟩ := jz_ne h
        refine jr_iinc 67 [(0, .ref (gz_ad (cz_G Z) 0)), (1, .int x1), (2, .int x2), (3, .ref (gz_ad (cz_G Z) o3)), (4, .int x4), (5, .int x4_)] C d_AR_wayToArea_67 rfl (by decide) rfl (by rw [ex4_]; rfl) rfl ?_
        refine jr_goto 70 26 C d_AR_wayToArea_70 (by decide) ?_
        refine jr_sub [0, 1, 2, 3, 4, 5] rfl ?_
        exact ih x1 x2 o3 x4 x4_ m k3 h
      · have h := jz_f c3_ h
        refine jr_aload_n 39 C d_AR_wayToArea_39 rfl ?_
        refine gf_AR_275 40 C d_AR_wayToArea_40 k3 ?_
        refine jr_iload 43 C d_AR_wayToArea_43 rfl ?_
        refine jr_iconst 45 0 C d_AR_wayToArea_45 (by decide) ?_
        obtain ⟨v5_, ev5_, h⟩ := jz_b h
        refine jr_callS 46 [.int x5, .int 0] C d_AR_wayToArea_46 (c_AR_nameOf (xz_l X) C.2.2.2.2.2.2.1  ev5_) sz_AR_nameOf tz_AR_nameOf lk_AR_215 (by decide) rfl rfl (Nat.le_of_ble_eq_true rfl) rfl ?_
        obtain ⟨j6_, ej6_, h⟩ := jz_b h
        refine jr_iald 49 C d_AR_wayToArea_49 (zk_Ba_areas k3) ej6_ ?_
        refine jr_iload_n 50 C d_AR_wayToArea_50 rfl ?_
        refine jr_icmp_ne 51 67 C d_AR_wayToArea_51 (by decide) (fun c7_ => ?_) (fun c7_ => ?_)
        · have h := jz_t c7_ h
          obtain ⟨x8_, ex8_, h⟩ := jz_ne h
          refine jr_iinc 67 [(0, .ref (gz_ad (cz_G Z) 0)), (1, .int x1), (2, .int x2), (3, .ref (gz_ad (cz_G Z) o3)), (4, .int x4), (5, .int x8_)] C d_AR_wayToArea_67 rfl (by decide) rfl (by rw [ex8_]; rfl) rfl ?_
          refine jr_goto 70 26 C d_AR_wayToArea_70 (by decide) ?_
          refine jr_sub [0, 1, 2, 3, 4, 5] rfl ?_
          exact ih x1 x2 o3 x4 x8_ m k3 h
        · have h := jz_f c7_ h
          refine jr_aload_n 54 C d_AR_wayToArea_54 rfl ?_
          refine gf_AR_47 55 C d_AR_wayToArea_55 ?_
          refine jr_iload 58 C d_AR_wayToArea_58 rfl ?_
          refine jr_iload 60 C d_AR_wayToArea_60 rfl ?_
          obtain ⟨v9_, ev9_, h⟩ := jz_b h
          refine jr_callVN 62 [.int x4, .int x5] C d_AR_wayToArea_62 (c_Wa_nearer (xz_l X) C.2.2.2.2.2.2.1  ev9_) sz_Wa_nearer tz_Wa_nearer lk_AR_276 oz_Wa rfl (by decide) rfl rfl (Nat.le_of_ble_eq_true rfl) rfl ?_
          refine jr_istore 65 [(0, .ref (gz_ad (cz_G Z) 0)), (1, .int x1), (2, .int x2), (3, .ref (gz_ad (cz_G Z) o3)), (4, .int v9_), (5, .int x5)] C d_AR_wayToArea_65 rfl (by decide) rfl ?_
          obtain ⟨x10_, ex10_, h⟩ := jz_ne h
          refine jr_iinc 67 [(0, .ref (gz_ad (cz_G Z) 0)), (1, .int x1), (2, .int x2), (3, .ref (gz_ad (cz_G Z) o3)), (4, .int v9_), (5, .int x10_)] C d_AR_wayToArea_67 rfl (by decide) rfl (by rw [ex10_]; rfl) rfl ?_
          refine jr_goto 70 26 C d_AR_wayToArea_70 (by decide) ?_
          refine jr_sub [0, 1, 2, 3, 4, 5] rfl ?_
          exact ih x1 x2 o3 v9_ x10_ m k3 h
def f_AR_wayToArea (a1 : Int32) (a2 : Int32) (m : jz_M) : Option (Int32 × jz_M) :=
  (f_AR_baseOf a1 2 m).bind fun v1_ =>
  (f_AR_nameOf a1 0 m).bind fun v2_ =>
  (f_Wa_find v1_ v2_ m).bind fun v3_ =>
  f_AR_wayToArea_26 1000 a1 a2 v1_ (-1) 0 v3_
set_option maxHeartbeats 4000000 in
set_option maxRecDepth 100000 in
theorem c_AR_wayToArea {Z : cz_Z} (l : Launch) (hI : jz_I (cz_G Z)) {a1 : Int32} {a2 : Int32} {m : jz_M} {r : Int32 × jz_M} (h : f_AR_wayToArea a1 a2 m = some r) : jz_m l y_AR_wayToArea cd_AR_wayToArea rm_AR_wayToArea (cz_G Z) [.ref (gz_ad (cz_G Z) 0), .int a1, .int a2] m (some (.int r.1)) r.2 := by
  refine jz_met (own := R_AR) (by decide) rfl hI (Nat.le_of_ble_eq_true rfl) (fun X hX C => ?_)
  subst hX
  show jz_J X 6 (cz_G Z) _ m [(0, .ref (gz_ad (cz_G Z) 0)), (1, .int a1), (2, .int a2)] 0 []
  unfold f_AR_wayToArea at h
  refine jr_aload_n 0 C d_AR_wayToArea_0 rfl ?_
  refine jr_iload_n 1 C d_AR_wayToArea_1 rfl ?_
  refine jr_iconst 2 2 C d_AR_wayToArea_2 (by decide) ?_
  obtain ⟨v1_, ev1_, h⟩ := jz_b h
  refine jr_callV 3 [.int a1, .int 2] C d_AR_wayToArea_3 (c_AR_baseOf (xz_l X) C.2.2.2.2.2.2.1 ev1_) sz_AR_baseOf tz_AR_baseOf lk_AR_87 oz_AR rfl (by decide) rfl rfl (Nat.le_of_ble_eq_true rfl) rfl ?_
  refine jr_astore_n 6 [(0, .ref (gz_ad (cz_G Z) 0)), (1, .int a1), (2, .int a2), (3, .ref (gz_ad (cz_G Z) v1_))] C d_AR_wayToArea_6 rfl (by decide) rfl ?_
  refine jr_aload_n 7 C d_AR_wayToArea_7 rfl ?_
  refine gf_AR_47 8 C d_AR_wayToArea_8 ?_
  refine jr_aload_n 11 C d_AR_wayToArea_11 rfl ?_
  refine jr_iload_n 12 C d_AR_wayToArea_12 rfl ?_
  refine jr_iconst 13 0 C d_AR_wayToArea_13 (by decide) ?_
  obtain ⟨v2_, ev2_, h⟩ := jz_b h
  refine jr_callS 14 [.int a1, .int 0] C d_AR_wayToArea_14 (c_AR_nameOf (xz_l X) C.2.2.2.2.2.2.1 ev2_) sz_AR_nameOf tz_AR_nameOf lk_AR_215 (by decide) rfl rfl (Nat.le_of_ble_eq_true rfl) rfl ?_
  obtain ⟨v3_, ev3_, h⟩ := jz_b h
  refine jr_callVN 17 [.ref (gz_ad (cz_G Z) v1_), .int v2_] C d_AR_wayToArea_17 (c_Wa_find (xz_l X) C.2.2.2.2.2.2.1 (kr_AR_baseOf ev1_) ev3_) sz_Wa_find tz_Wa_find lk_AR_263 oz_Wa rfl (by decide) rfl rfl (Nat.le_of_ble_eq_true rfl) rfl ?_
  refine jr_iconst 20 (-1) C d_AR_wayToArea_20 (by decide) ?_
  refine jr_istore 21 [(0, .ref (gz_ad (cz_G Z) 0)), (1, .int a1), (2, .int a2), (3, .ref (gz_ad (cz_G Z) v1_)), (4, .int (-1))] C d_AR_wayToArea_21 rfl (by decide) rfl ?_
  refine jr_iconst 23 0 C d_AR_wayToArea_23 (by decide) ?_
  refine jr_istore 24 [(0, .ref (gz_ad (cz_G Z) 0)), (1, .int a1), (2, .int a2), (3, .ref (gz_ad (cz_G Z) v1_)), (4, .int (-1)), (5, .int 0)] C d_AR_wayToArea_24 rfl (by decide) rfl ?_
  refine jr_sub [0, 1, 2, 3, 4, 5] rfl ?_
  exact t_AR_wayToArea_26 C 1000 a1 a2 v1_ (-1) 0 v3_ (kr_AR_baseOf ev1_) h
