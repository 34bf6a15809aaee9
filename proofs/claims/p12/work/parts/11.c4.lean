abbrev rm_Wi_metricOf : Room := { frames := 0, cells := 0, slots := 0, locals := 0 }
abbrev cd_Wi_metricOf : Cond := .code y_Wi_metricOf b_Wi_metricOf 3 (some .int)
def f_Wi_metricOf (a1 : Int32) (a2 : Int32) (m : jz_M) : Option (Int32) :=
  (jz_ix 36 ((a1 * 6) + a2)).bind fun j1_ =>
  some (m 4 j1_)
set_option maxHeartbeats 4000000 in
set_option maxRecDepth 100000 in
theorem c_Wi_metricOf {Z : cz_Z} (l : Launch) (hI : jz_I (cz_G Z)) {a1 : Int32} {a2 : Int32} {m : jz_M} {r : Int32} (h : f_Wi_metricOf a1 a2 m = some r) : jz_m l y_Wi_metricOf cd_Wi_metricOf rm_Wi_metricOf (cz_G Z) [.ref (gz_ad (cz_G Z) 3), .int a1, .int a2] m (some (.int r)) m := by
  refine jz_met (own := R_Wi) (by decide) rfl hI (Nat.le_of_ble_eq_true rfl) (fun X hX C => ?_)
  subst hX
  show jz_J X 3 (cz_G Z) _ m [(0, .ref (gz_ad (cz_G Z) 3)), (1, .int a1), (2, .int a2)] 0 []
  unfold f_Wi_metricOf at h
  refine jr_aload_n 0 C d_Wi_metricOf_0 rfl ?_
  refine gf_Wi_9 1 C d_Wi_metricOf_1 ?_
  refine jr_iload_n 4 C d_Wi_metricOf_4 rfl ?_
  refine jr_bipush 5 6 C d_Wi_metricOf_5 (by decide) ?_
  refine jr_imul 7 C d_Wi_metricOf_7 ?_
  refine jr_iload_n 8 C d_Wi_metricOf_8 rfl ?_
  refine jr_iadd 9 C d_Wi_metricOf_9 ?_
  obtain ⟨j1_, ej1_, h⟩ := jz_b h
  refine jr_iald 10 C d_Wi_metricOf_10 zk_Wi_metrics ej1_ ?_
  obtain rfl := Option.some.inj h
  exact jr_iret 11 (v := (m 4 j1_)) C d_Wi_metricOf_11 rfl
abbrev rm_Dr_addLink : Room := { frames := 0, cells := 0, slots := 0, locals := 0 }
abbrev cd_Dr_addLink : Cond := .code y_Dr_addLink b_Dr_addLink 3 none
def f_Dr_addLink (a1 : Int32) (a2 : Int32) (m : jz_M) : Option (jz_M) :=
  if 10 ≤ (m 146 0) then
    some m
  else
    (jz_ix 10 (m 146 0)).bind fun j2_ =>
    jz_n (jz_up m 147 j2_ (a1 + ((64 : Int32) * a2))) fun m3_ =>
    jz_n (jz_up m3_ 146 0 ((m3_ 146 0) + 1)) fun m4_ =>
    some m4_
set_option maxHeartbeats 4000000 in
set_option maxRecDepth 100000 in
theorem c_Dr_addLink {Z : cz_Z} (l : Launch) (hI : jz_I (cz_G Z)) {a1 : Int32} {a2 : Int32} {m : jz_M} {r : jz_M} (h : f_Dr_addLink a1 a2 m = some r) : jz_m l y_Dr_addLink cd_Dr_addLink rm_Dr_addLink (cz_G Z) [.ref (gz_ad (cz_G Z) 146), .int a1, .int a2] m none r := by
  refine jz_met (own := R_Dr) (by decide) rfl hI (Nat.le_of_ble_eq_true rfl) (fun X hX C => ?_)
  subst hX
  show jz_J X 3 (cz_G Z) _ m [(0, .ref (gz_ad (cz_G Z) 146)), (1, .int a1), (2, .int a2)] 0 []
  unfold f_Dr_addLink at h
  refine jr_aload_n 0 C d_Dr_addLink_0 rfl ?_
  refine gf_Dr_15 1 C d_Dr_addLink_1 ?_
  refine jr_bipush 4 10 C d_Dr_addLink_4 (by decide) ?_
  refine jr_icmp_ge 6 34 C d_Dr_addLink_6 (by decide) (fun c1_ => ?_) (fun c1_ => ?_)
  · have h := jz_t c1_ h
    obtain rfl := Option.some.inj h
    exact jr_vret 34 C d_Dr_addLink_34 rfl
  · have h := jz_f c1_ h
    refine jr_aload_n 9 C d_Dr_addLink_9 rfl ?_
    refine gf_Dr_9 10 C d_Dr_addLink_10 ?_
    refine jr_aload_n 13 C d_Dr_addLink_13 rfl ?_
    refine gf_Dr_15 14 C d_Dr_addLink_14 ?_
    refine jr_iload_n 17 C d_Dr_addLink_17 rfl ?_
    refine jr_bipush 18 64 C d_Dr_addLink_18 (by decide) ?_
    refine jr_iload_n 20 C d_Dr_addLink_20 rfl ?_
    refine jr_imul 21 C d_Dr_addLink_21 ?_
    refine jr_iadd 22 C d_Dr_addLink_22 ?_
    obtain ⟨j2_, ej2_, h⟩ := jz_b h
    obtain ⟨m3_, em3_, h⟩ := jz_ne h
    refine jr_iast 23 C d_Dr_addLink_23 zk_Dr_links ej2_ ?_
    refine jr_mem em3_ ?_
    refine jr_aload_n 24 C d_Dr_addLink_24 rfl ?_
    refine jr_dup 25 C d_Dr_addLink_25 rfl ?_
    refine gf_Dr_15 26 C d_Dr_addLink_26 ?_
    refine jr_iconst 29 1 C d_Dr_addLink_29 (by decide) ?_
    refine jr_iadd 30 C d_Dr_addLink_30 ?_
    obtain ⟨m4_, em4_, h⟩ := jz_ne h
    refine pf_Dr_15 31 C d_Dr_addLink_31 ?_
    refine jr_mem em4_ ?_
    obtain rfl := Option.some.inj h
    exact jr_vret 34 C d_Dr_addLink_34 rfl
abbrev rm_AR_draftItself : Room := { frames := 3, cells := 0, slots := 0, locals := 66 }
abbrev cd_AR_draftItself : Cond := .code y_AR_draftItself b_AR_draftItself 6 none
def f_AR_draftItself_93 (k37 : Int32 → Int32 → Int32 → jz_M → Option (jz_M)) (x1 : Int32) (x2 : Int32) (x3 : Int32) (s0 : Int32) (m : jz_M) : Option (jz_M) :=
  (f_Wi_metricOf x1 x3 m).bind fun v1_ =>
  (f_Dr_addLink s0 v1_ m).bind fun v2_ =>
  jz_n (x3 + 1) fun x3_ =>
  k37 x1 x2 x3_ v2_
set_option maxHeartbeats 4000000 in
set_option maxRecDepth 100000 in
theorem t_AR_draftItself_93 {Z : cz_Z} {X : jz_X} {r : jz_M} (C : jz_C X 6 b_AR_draftItself R_AR none rm_AR_draftItself (cz_G Z)) (k37 : Int32 → Int32 → Int32 → jz_M → Option (jz_M)) (hk37 : ∀ (x1 : Int32) (x2 : Int32) (x3 : Int32) (m : jz_M), k37 x1 x2 x3 m = some r → jz_J X 6 (cz_G Z) (jz_q X (cz_G Z) none r) m [(0, .ref (gz_ad (cz_G Z) 0)), (1, .int x1), (2, .int x2), (3, .int x3)] 37 []) : ∀ (x1 : Int32) (x2 : Int32) (x3 : Int32) (s0 : Int32) (m : jz_M) , f_AR_draftItself_93 k37 x1 x2 x3 s0 m = some r → jz_J X 6 (cz_G Z) (jz_q X (cz_G Z) none r) m [(0, .ref (gz_ad (cz_G Z) 0)), (1, .int x1), (2, .int x2), (3, .int x3)] 93 [.int s0] := by
  intro x1 x2 x3 s0 m h
  unfold f_AR_draftItself_93 at h
  refine jr_istore 93 [(0, .ref (gz_ad (cz_G Z) 0)), (1, .int x1), (2, .int x2), (3, .int x3), (5, .int s0)] C d_AR_draftItself_93 rfl (by decide) rfl ?_
  refine jr_aload_n 95 C d_AR_draftItself_95 rfl ?_
  refine gf_AR_40 96 C d_AR_draftItself_96 ?_
  refine jr_iload 99 C d_AR_draftItself_99 rfl ?_
  refine jr_aload_n 101 C d_AR_draftItself_101 rfl ?_
  refine gf_AR_19 102 C d_AR_draftItself_102 ?_
  refine jr_iload_n 105 C d_AR_draftItself_105 rfl ?_
  refine jr_iload_n 106 C d_AR_draftItself_106 rfl ?_
  obtain ⟨v1_, ev1_, h⟩ := jz_b h
  refine jr_callVN 107 [.int x1, .int x3] C d_AR_draftItself_107 (c_Wi_metricOf (xz_l X) C.2.2.2.2.2.2.1 ev1_) sz_Wi_metricOf tz_Wi_metricOf lk_AR_218 oz_Wi rfl (by decide) rfl rfl (Nat.le_of_ble_eq_true rfl) rfl ?_
  obtain ⟨v2_, ev2_, h⟩ := jz_b h
  refine jr_callVN 110 [.int s0, .int v1_] C d_AR_draftItself_110 (c_Dr_addLink (xz_l X) C.2.2.2.2.2.2.1 ev2_) sz_Dr_addLink tz_Dr_addLink lk_AR_221 oz_Dr rfl (by decide) rfl rfl (Nat.le_of_ble_eq_true rfl) rfl ?_
  obtain ⟨x3_, ex3_, h⟩ := jz_ne h
  refine jr_iinc 113 [(0, .ref (gz_ad (cz_G Z) 0)), (1, .int x1), (2, .int x2), (3, .int x3_), (5, .int s0)] C d_AR_draftItself_113 rfl (by decide) rfl (by rw [ex3_]; rfl) rfl ?_
  refine jr_goto 116 37 C d_AR_draftItself_116 (by decide) ?_
  refine jr_sub [0, 1, 2, 3] rfl ?_
  exact hk37 x1 x2 x3_ v2_ h
def f_AR_draftItself_37 : Nat → Int32 → Int32 → Int32 → jz_M → Option (jz_M)
  | 0, _, _, _, _ => none
  | fu + 1, x1, x2, x3, m =>
    if 6 ≤ x3 then
      some m
    else
      (f_AR_hearingAt x2 m).bind fun v2_ =>
      (f_He_firstMutual v2_ x1 x3 m).bind fun v3_ =>
      if v3_ < 0 then
        jz_n (x3 + 1) fun x5_ =>
        f_AR_draftItself_37 fu x1 x2 x5_ m
      else
        (f_Wi_isShared x3 m).bind fun v6_ =>
        if v6_ = 0 then
          (f_AR_nameOf v3_ 0 m).bind fun v8_ =>
          f_AR_draftItself_93 (f_AR_draftItself_37 fu) x1 x2 x3 v8_ m
        else
          (f_AR_speakerSeenBy x1 x3 x2 m).bind fun v9_ =>
          (f_AR_nameOf v9_ ((1 : Int32) + x3) m).bind fun v10_ =>
          f_AR_draftItself_93 (f_AR_draftItself_37 fu) x1 x2 x3 v10_ m
set_option maxHeartbeats 4000000 in
set_option maxRecDepth 100000 in
theorem t_AR_draftItself_37 {Z : cz_Z} {X : jz_X} {r : jz_M} (C : jz_C X 6 b_AR_draftItself R_AR none rm_AR_draftItself (cz_G Z)) : ∀ (fu : Nat) (x1 : Int32) (x2 : Int32) (x3 : Int32) (m : jz_M) , f_AR_draftItself_37 fu x1 x2 x3 m = some r → jz_J X 6 (cz_G Z) (jz_q X (cz_G Z) none r) m [(0, .ref (gz_ad (cz_G Z) 0)), (1, .int x1), (2, .int x2), (3, .int x3)] 37 [] := by
  intro fu
  induction fu with
  | zero => intro x1 x2 x3 m h; cases h
  | succ fu ih =>
    intro x1 x2 x3 m h
    rw [f_AR_draftItself_37] at h
    refine jr_iload_n 37 C d_AR_draftItself_37 rfl ?_
    refine jr_bipush 38 6 C d_AR_draftItself_38 (by decide) ?_
    refine jr_icmp_ge 40 119 C d_AR_draftItself_40 (by decide) (fun c1_ => ?_) (fun c1_ => ?_)
    · have h := jz_t c1_ h
      obtain rfl := Option.some.inj h
      exact jr_vret 119 C d_AR_draftItself_119 rfl
    · have h := jz_f c1_ h
      refine jr_aload_n 43 C d_AR_draftItself_43 rfl ?_
      refine jr_iload_n 44 C d_AR_draftItself_44 rfl ?_
      obtain ⟨v2_, ev2_, h⟩ := jz_b h
      refine jr_callV 45 [.int x2] C d_AR_draftItself_45 (c_AR_hearingAt (xz_l X) C.2.2.2.2.2.2.1  ev2_) sz_AR_hearingAt tz_AR_hearingAt lk_AR_150 oz_AR rfl (by decide) rfl rfl (Nat.le_of_ble_eq_true rfl) rfl ?_
      refine jr_iload_n 48 C d_AR_draftItself_48 rfl ?_
      refine jr_iload_n 49 C d_AR_draftItself_49 rfl ?_
      obtain ⟨v3_, ev3_, h⟩ := jz_b h
      refine jr_callVN 50 [.int x1, .int x3] C d_AR_draftItself_50 (c_He_firstMutual (xz_l X) C.2.2.2.2.2.2.1 (kr_AR_hearingAt ev2_) ev3_) sz_He_firstMutual tz_He_firstMutual lk_AR_212 (oz_He (kr_AR_hearingAt ev2_)) rfl (by decide) rfl rfl (Nat.le_of_ble_eq_true rfl) rfl ?_
      refine jr_istore 53 [(0, .ref (gz_ad (cz_G Z) 0)), (1, .int x1), (2, .int x2), (3, .int x3), (4, .int v3_)] C d_AR_draftItself_53 rfl (by decide) rfl ?_
      refine jr_iload 55 C d_AR_draftItself_55 rfl ?_
      refine jr_if_lt 57 113 C d_AR_draftItself_57 (by decide) (fun c4_ => ?_) (fun c4_ => ?_)
      · have h := jz_t c4_ h
        obtain ⟨x5_, ex5_, h⟩ := jz_ne h
        refine jr_iinc 113 [(0, .ref (gz_ad (cz_G Z) 0)), (1, .int x1), (2, .int x2), (3, .int x5_), (4, .int v3_)] C d_AR_draftItself_113 rfl (by decide) rfl (by rw [ex5_]; rfl) rfl ?_
        refine jr_goto 116 37 C d_AR_draftItself_116 (by decide) ?_
        refine jr_sub [0, 1, 2, 3] rfl ?_
        exact ih x1 x2 x5_ m  h
      · have h := jz_f c4_ h
        refine jr_aload_n 60 C d_AR_draftItself_60 rfl ?_
        refine gf_AR_19 61 C d_AR_draftItself_61 ?_
        refine jr_iload_n 64 C d_AR_draftItself_64 rfl ?_
        obtain ⟨v6_, ev6_, h⟩ := jz_b h
        refine jr_callVN 65 [.int x3] C d_AR_draftItself_65 (c_Wi_isShared (xz_l X) C.2.2.2.2.2.2.1  ev6_) sz_Wi_isShared tz_Wi_isShared lk_AR_102 oz_Wi rfl (by decide) rfl rfl (Nat.le_of_ble_eq_true rfl) rfl ?_
        refine jr_if_eq 68 87 C d_AR_draftItself_68 (by decide) (fun c7_ => ?_) (fun c7_ => ?_)
        · have h := jz_t c7_ h
          refine jr_iload 87 C d_AR_draftItself_87 rfl ?_
          refine jr_iconst 89 0 C d_AR_draftItself_89 (by decide) ?_
          obtain ⟨v8_, ev8_, h⟩ := jz_b h
          refine jr_callS 90 [.int v3_, .int 0] C d_AR_draftItself_90 (c_AR_nameOf (xz_l X) C.2.2.2.2.2.2.1  ev8_) sz_AR_nameOf tz_AR_nameOf lk_AR_215 (by decide) rfl rfl (Nat.le_of_ble_eq_true rfl) rfl ?_
          refine jr_sub [0, 1, 2, 3] rfl ?_
          exact t_AR_draftItself_93 C (f_AR_draftItself_37 fu) ih x1 x2 x3 v8_ m h
        · have h := jz_f c7_ h
          refine jr_aload_n 71 C d_AR_draftItself_71 rfl ?_
          refine jr_iload_n 72 C d_AR_draftItself_72 rfl ?_
          refine jr_iload_n 73 C d_AR_draftItself_73 rfl ?_
          refine jr_iload_n 74 C d_AR_draftItself_74 rfl ?_
          obtain ⟨v9_, ev9_, h⟩ := jz_b h
          refine jr_callV 75 [.int x1, .int x3, .int x2] C d_AR_draftItself_75 (c_AR_speakerSeenBy (xz_l X) C.2.2.2.2.2.2.1  ev9_) sz_AR_speakerSeenBy tz_AR_speakerSeenBy lk_AR_157 oz_AR rfl (by decide) rfl rfl (Nat.le_of_ble_eq_true rfl) rfl ?_
          refine jr_iconst 78 1 C d_AR_draftItself_78 (by decide) ?_
          refine jr_iload_n 79 C d_AR_draftItself_79 rfl ?_
          refine jr_iadd 80 C d_AR_draftItself_80 ?_
          obtain ⟨v10_, ev10_, h⟩ := jz_b h
          refine jr_callS 81 [.int v9_, .int ((1 : Int32) + x3)] C d_AR_draftItself_81 (c_AR_nameOf (xz_l X) C.2.2.2.2.2.2.1  ev10_) sz_AR_nameOf tz_AR_nameOf lk_AR_215 (by decide) rfl rfl (Nat.le_of_ble_eq_true rfl) rfl ?_
          refine jr_goto 84 93 C d_AR_draftItself_84 (by decide) ?_
          refine jr_sub [0, 1, 2, 3] rfl ?_
          exact t_AR_draftItself_93 C (f_AR_draftItself_37 fu) ih x1 x2 x3 v10_ m h
def f_AR_draftItself_32 (x1 : Int32) (x2 : Int32) (s0 : Int32) (m : jz_M) : Option (jz_M) :=
  (jz_bo s0).bind fun b1_ =>
  jz_n (jz_up m 146 2 b1_) fun m2_ =>
  f_AR_draftItself_37 1000 x1 x2 0 m2_
set_option maxHeartbeats 4000000 in
set_option maxRecDepth 100000 in
theorem t_AR_draftItself_32 {Z : cz_Z} {X : jz_X} {r : jz_M} (C : jz_C X 6 b_AR_draftItself R_AR none rm_AR_draftItself (cz_G Z)) : ∀ (x1 : Int32) (x2 : Int32) (s0 : Int32) (m : jz_M) , f_AR_draftItself_32 x1 x2 s0 m = some r → jz_J X 6 (cz_G Z) (jz_q X (cz_G Z) none r) m [(0, .ref (gz_ad (cz_G Z) 0)), (1, .int x1), (2, .int x2)] 32 [.int s0, .ref (gz_ad (cz_G Z) 146)] := by
  intro x1 x2 s0 m h
  unfold f_AR_draftItself_32 at h
  obtain ⟨b1_, eb1_, h⟩ := jz_b h
  refine jr_top (jz_bo_eq eb1_) ?_
  obtain ⟨m2_, em2_, h⟩ := jz_ne h
  refine pf_AR_208 32 C d_AR_draftItself_32 (jz_bo_n eb1_) ?_
  refine jr_mem em2_ ?_
  refine jr_iconst 35 0 C d_AR_draftItself_35 (by decide) ?_
  refine jr_istore_n 36 [(0, .ref (gz_ad (cz_G Z) 0)), (1, .int x1), (2, .int x2), (3, .int 0)] C d_AR_draftItself_36 rfl (by decide) rfl ?_
  refine jr_sub [0, 1, 2, 3] rfl ?_
  exact t_AR_draftItself_37 C 1000 x1 x2 0 m2_ h
def f_AR_draftItself_31 (x1 : Int32) (x2 : Int32) (m : jz_M) : Option (jz_M) :=
  f_AR_draftItself_32 x1 x2 0 m
set_option maxHeartbeats 4000000 in
set_option maxRecDepth 100000 in
theorem t_AR_draftItself_31 {Z : cz_Z} {X : jz_X} {r : jz_M} (C : jz_C X 6 b_AR_draftItself R_AR none rm_AR_draftItself (cz_G Z)) : ∀ (x1 : Int32) (x2 : Int32) (m : jz_M) , f_AR_draftItself_31 x1 x2 m = some r → jz_J X 6 (cz_G Z) (jz_q X (cz_G Z) none r) m [(0, .ref (gz_ad (cz_G Z) 0)), (1, .int x1), (2, .int x2)] 31 [.ref (gz_ad (cz_G Z) 146)] := by
  intro x1 x2 m h
  unfold f_AR_draftItself_31 at h
  refine jr_iconst 31 0 C d_AR_draftItself_31 (by decide) ?_
  refine jr_sub [0, 1, 2] rfl ?_
  exact t_AR_draftItself_32 C x1 x2 0 m h
def f_AR_draftItself (a1 : Int32) (a2 : Int32) (m : jz_M) : Option (jz_M) :=
  if ¬ a2 = 1 then
    f_AR_draftItself_31 a1 a2 m
  else
    (jz_ix 6 a1).bind fun j2_ =>
    if ¬ (m 2 j2_) = 3 then
      f_AR_draftItself_31 a1 a2 m
    else
      (f_AR_hasLevelTwoNeighbourElsewhere a1 m).bind fun v4_ =>
      if v4_ = 0 then
        f_AR_draftItself_31 a1 a2 m
      else
        f_AR_draftItself_32 a1 a2 1 m
set_option maxHeartbeats 4000000 in
set_option maxRecDepth 100000 in
theorem c_AR_draftItself {Z : cz_Z} (l : Launch) (hI : jz_I (cz_G Z)) {a1 : Int32} {a2 : Int32} {m : jz_M} {r : jz_M} (h : f_AR_draftItself a1 a2 m = some r) : jz_m l y_AR_draftItself cd_AR_draftItself rm_AR_draftItself (cz_G Z) [.ref (gz_ad (cz_G Z) 0), .int a1, .int a2] m none r := by
  refine jz_met (own := R_AR) (by decide) rfl hI (Nat.le_of_ble_eq_true rfl) (fun X hX C => ?_)
  subst hX
  show jz_J X 6 (cz_G Z) _ m [(0, .ref (gz_ad (cz_G Z) 0)), (1, .int a1), (2, .int a2)] 0 []
  unfold f_AR_draftItself at h
  refine jr_aload_n 0 C d_AR_draftItself_0 rfl ?_
  refine gf_AR_40 1 C d_AR_draftItself_1 ?_
  refine jr_iload_n 4 C d_AR_draftItself_4 rfl ?_
  refine jr_iconst 5 1 C d_AR_draftItself_5 (by decide) ?_
  refine jr_icmp_ne 6 31 C d_AR_draftItself_6 (by decide) (fun c1_ => ?_) (fun c1_ => ?_)
  · have h := jz_t c1_ h
    refine jr_sub [0, 1, 2] rfl ?_
    exact t_AR_draftItself_31 C  a1 a2 m h
  · have h := jz_f c1_ h
    refine jr_aload_n 9 C d_AR_draftItself_9 rfl ?_
    refine gf_AR_13 10 C d_AR_draftItself_10 ?_
    refine jr_iload_n 13 C d_AR_draftItself_13 rfl ?_
    obtain ⟨j2_, ej2_, h⟩ := jz_b h
    refine jr_iald 14 C d_AR_draftItself_14 zk_AR_levelSets ej2_ ?_
    refine jr_iconst 15 3 C d_AR_draftItself_15 (by decide) ?_
    refine jr_icmp_ne 16 31 C d_AR_draftItself_16 (by decide) (fun c3_ => ?_) (fun c3_ => ?_)
    · have h := jz_t c3_ h
      refine jr_sub [0, 1, 2] rfl ?_
      exact t_AR_draftItself_31 C  a1 a2 m h
    · have h := jz_f c3_ h
      refine jr_aload_n 19 C d_AR_draftItself_19 rfl ?_
      refine jr_iload_n 20 C d_AR_draftItself_20 rfl ?_
      obtain ⟨v4_, ev4_, h⟩ := jz_b h
      refine jr_callV 21 [.int a1] C d_AR_draftItself_21 (c_AR_hasLevelTwoNeighbourElsewhere (xz_l X) C.2.2.2.2.2.2.1  ev4_) sz_AR_hasLevelTwoNeighbourElsewhere tz_AR_hasLevelTwoNeighbourElsewhere lk_AR_205 oz_AR rfl (by decide) rfl rfl (Nat.le_of_ble_eq_true rfl) rfl ?_
      refine jr_if_eq 24 31 C d_AR_draftItself_24 (by decide) (fun c5_ => ?_) (fun c5_ => ?_)
      · have h := jz_t c5_ h
        refine jr_sub [0, 1, 2] rfl ?_
        exact t_AR_draftItself_31 C  a1 a2 m h
      · have h := jz_f c5_ h
        refine jr_iconst 27 1 C d_AR_draftItself_27 (by decide) ?_
        refine jr_goto 28 32 C d_AR_draftItself_28 (by decide) ?_
        refine jr_sub [0, 1, 2] rfl ?_
        exact t_AR_draftItself_32 C  a1 a2 1 m h
abbrev rm_AR_draftCircuit : Room := { frames := 3, cells := 0, slots := 0, locals := 66 }
abbrev cd_AR_draftCircuit : Cond := .code y_AR_draftCircuit b_AR_draftCircuit 6 (some .boolean)
def f_AR_draftCircuit_57 : Nat → Int32 → Int32 → Nat → Int32 → jz_M → Option (Int32 × jz_M)
  | 0, _, _, _, _, _ => none
  | fu + 1, x1, x3, o4, x5, m =>
    if 6 ≤ x5 then
      some (1, m)
    else
      (f_He_isMutual o4 x1 x3 x5 m).bind fun v2_ =>
      if v2_ = 0 then
        jz_n (x5 + 1) fun x4_ =>
        f_AR_draftCircuit_57 fu x1 x3 o4 x4_ m
      else
        (f_AR_nameOf x5 0 m).bind fun v5_ =>
        (f_Dr_addLink v5_ 0 m).bind fun v6_ =>
        jz_n (x5 + 1) fun x7_ =>
        f_AR_draftCircuit_57 fu x1 x3 o4 x7_ v6_
set_option maxHeartbeats 4000000 in
set_option maxRecDepth 100000 in
theorem t_AR_draftCircuit_57 {Z : cz_Z} {X : jz_X} {r : Int32 × jz_M} (C : jz_C X 6 b_AR_draftCircuit R_AR (some .boolean) rm_AR_draftCircuit (cz_G Z)) : ∀ (fu : Nat) (x1 : Int32) (x3 : Int32) (o4 : Nat) (x5 : Int32) (m : jz_M) , kz_He o4 → f_AR_draftCircuit_57 fu x1 x3 o4 x5 m = some r → jz_J X 6 (cz_G Z) (jz_q X (cz_G Z) (some (.int r.1)) r.2) m [(0, .ref (gz_ad (cz_G Z) 0)), (1, .int x1), (3, .int x3), (4, .ref (gz_ad (cz_G Z) o4)), (5, .int x5)] 57 [] := by
  intro fu
  induction fu with
  | zero => intro x1 x3 o4 x5 m k4 h; cases h
  | succ fu ih =>
    intro x1 x3 o4 x5 m k4 h
    rw [f_AR_draftCircuit_57] at h
    refine jr_iload 57 C d_AR_draftCircuit_57 rfl ?_
    refine jr_bipush 59 6 C d_AR_draftCircuit_59 (by decide) ?_
    refine jr_icmp_ge 61 96 C d_AR_draftCircuit_61 (by decide) (fun c1_ => ?_) (fun c1_ => ?_)
    · have h := jz_t c1_ h
      refine jr_iconst 96 1 C d_AR_draftCircuit_96 (by decide) ?_
      obtain rfl := Option.some.inj h
      exact jr_zret 97 (v := 1) C d_AR_draftCircuit_97 rfl nb_1
    · have h := jz_f c1_ h
      refine jr_aload 64 C d_AR_draftCircuit_64 rfl ?_
      refine jr_iload_n 66 C d_AR_draftCircuit_66 rfl ?_
      refine jr_iload_n 67 C d_AR_draftCircuit_67 rfl ?_
      refine jr_iload 68 C d_AR_draftCircuit_68 rfl ?_
      obtain ⟨v2_, ev2_, h⟩ := jz_b h
      refine jr_callVN 70 [.int x1, .int x3, .int x5] C d_AR_draftCircuit_70 (c_He_isMutual (xz_l X) C.2.2.2.2.2.2.1 k4 ev2_) sz_He_isMutual tz_He_isMutual lk_AR_154 (oz_He k4) rfl (by decide) rfl rfl (Nat.le_of_ble_eq_true rfl) rfl ?_
      refine jr_if_eq 73 90 C d_AR_draftCircuit_73 (by decide) (fun c3_ => ?_) (fun c3_ => ?_)
      · have h := jz_t c3_ h
        obtain ⟨x4_, ex4_, h⟩ := jz_ne h
        refine jr_iinc 90 [(0, .ref (gz_ad (cz_G Z) 0)), (1, .int x1), (3, .int x3), (4, .ref (gz_ad (cz_G Z) o4)), (5, .int x4_)] C d_AR_draftCircuit_90 rfl (by decide) rfl (by rw [ex4_]; rfl) rfl ?_
        refine jr_goto 93 57 C d_AR_draftCircuit_93 (by decide) ?_
        refine jr_sub [0, 1, 2, 3, 4] rfl ?_
        exact ih x1 x3 o4 x4_ m k4 h
      · have h := jz_f c3_ h
        refine jr_aload_n 76 C d_AR_draftCircuit_76 rfl ?_
        refine gf_AR_40 77 C d_AR_draftCircuit_77 ?_
        refine jr_iload 80 C d_AR_draftCircuit_80 rfl ?_
        refine jr_iconst 82 0 C d_AR_draftCircuit_82 (by decide) ?_
        obtain ⟨v5_, ev5_, h⟩ := jz_b h
        refine jr_callS 83 [.int x5, .int 0] C d_AR_draftCircuit_83 (c_AR_nameOf (xz_l X) C.2.2.2.2.2.2.1  ev5_) sz_AR_nameOf tz_AR_nameOf lk_AR_215 (by decide) rfl rfl (Nat.le_of_ble_eq_true rfl) rfl ?_
        refine jr_iconst 86 0 C d_AR_draftCircuit_86 (by decide) ?_
        obtain ⟨v6_, ev6_, h⟩ := jz_b h
        refine jr_callVN 87 [.int v5_, .int 0] C d_AR_draftCircuit_87 (c_Dr_addLink (xz_l X) C.2.2.2.2.2.2.1  ev6_) sz_Dr_addLink tz_Dr_addLink lk_AR_221 oz_Dr rfl (by decide) rfl rfl (Nat.le_of_ble_eq_true rfl) rfl ?_
        obtain ⟨x7_, ex7_, h⟩ := jz_ne h
        refine jr_iinc 90 [(0, .ref (gz_ad (cz_G Z) 0)), (1, .int x1), (3, .int x3), (4, .ref (gz_ad (cz_G Z) o4)), (5, .int x7_)] C d_AR_draftCircuit_90 rfl (by decide) rfl (by rw [ex7_]; rfl) rfl ?_
        refine jr_goto 93 57 C d_AR_draftCircuit_93 (by decide) ?_
        refine jr_sub [0, 1, 2, 3, 4] rfl ?_
        exact ih x1 x3 o4 x7_ v6_ k4 h
def f_AR_draftCircuit (a1 : Int32) (a2 : Int32) (a3 : Int32) (m : jz_M) : Option (Int32 × jz_M) :=
  (f_AR_hearingAt a2 m).bind fun v1_ =>
  (f_Wi_isShared a3 m).bind fun v2_ =>
  if v2_ = 0 then
    some (0, m)
  else
    (f_He_firstMutual v1_ a1 a3 m).bind fun v4_ =>
    if v4_ < 0 then
      some (0, m)
    else
      (f_AR_speakerSeenBy a1 a3 a2 m).bind fun v6_ =>
      if v6_ = a1 then
        (f_AR_nameOf a1 0 m).bind fun v8_ =>
        (f_Dr_addLink v8_ 0 m).bind fun v9_ =>
        f_AR_draftCircuit_57 1000 a1 a3 v1_ 0 v9_
      else
        some (0, m)
set_option maxHeartbeats 4000000 in
set_option maxRecDepth 100000 in
theorem c_AR_draftCircuit {Z : cz_Z} (l : Launch) (hI : jz_I (cz_G Z)) {a1 : Int32} {a2 : Int32} {a3 : Int32} {m : jz_M} {r : Int32 × jz_M} (h : f_AR_draftCircuit a1 a2 a3 m = some r) : jz_m l y_AR_draftCircuit cd_AR_draftCircuit rm_AR_draftCircuit (cz_G Z) [.ref (gz_ad (cz_G Z) 0), .int a1, .int a2, .int a3] m (some (.int r.1)) r.2 := by
  refine jz_met (own := R_AR) (by decide) rfl hI (Nat.le_of_ble_eq_true rfl) (fun X hX C => ?_)
  subst hX
  show jz_J X 6 (cz_G Z) _ m [(0, .ref (gz_ad (cz_G Z) 0)), (1, .int a1), (2, .int a2), (3, .int a3)] 0 []
  unfold f_AR_draftCircuit at h
  refine jr_aload_n 0 C d_AR_draftCircuit_0 rfl ?_
  refine jr_iload_n 1 C d_AR_draftCircuit_1 rfl ?_
  obtain ⟨v1_, ev1_, h⟩ := jz_b h
  refine jr_callV 2 [.int a2] C d_AR_draftCircuit_2 (c_AR_hearingAt (xz_l X) C.2.2.2.2.2.2.1 ev1_) sz_AR_hearingAt tz_AR_hearingAt lk_AR_150 oz_AR rfl (by decide) rfl rfl (Nat.le_of_ble_eq_true rfl) rfl ?_
  refine jr_astore 5 [(0, .ref (gz_ad (cz_G Z) 0)), (1, .int a1), (2, .int a2), (3, .int a3), (4, .ref (gz_ad (cz_G Z) v1_))] C d_AR_draftCircuit_5 rfl (by decide) rfl ?_
  refine jr_aload_n 7 C d_AR_draftCircuit_7 rfl ?_
  refine gf_AR_19 8 C d_AR_draftCircuit_8 ?_
  refine jr_iload_n 11 C d_AR_draftCircuit_11 rfl ?_
  obtain ⟨v2_, ev2_, h⟩ := jz_b h
  refine jr_callVN 12 [.int a3] C d_AR_draftCircuit_12 (c_Wi_isShared (xz_l X) C.2.2.2.2.2.2.1 ev2_) sz_Wi_isShared tz_Wi_isShared lk_AR_102 oz_Wi rfl (by decide) rfl rfl (Nat.le_of_ble_eq_true rfl) rfl ?_
  refine jr_if_eq 15 39 C d_AR_draftCircuit_15 (by decide) (fun c3_ => ?_) (fun c3_ => ?_)
  · have h := jz_t c3_ h
    refine jr_iconst 39 0 C d_AR_draftCircuit_39 (by decide) ?_
    obtain rfl := Option.some.inj h
    exact jr_zret 40 (v := 0) C d_AR_draftCircuit_40 rfl nb_0
  · have h := jz_f c3_ h
    refine jr_aload 18 C d_AR_draftCircuit_18 rfl ?_
    refine jr_iload_n 20 C d_AR_draftCircuit_20 rfl ?_
    refine jr_iload_n 21 C d_AR_draftCircuit_21 rfl ?_
    obtain ⟨v4_, ev4_, h⟩ := jz_b h
    refine jr_callVN 22 [.int a1, .int a3] C d_AR_draftCircuit_22 (c_He_firstMutual (xz_l X) C.2.2.2.2.2.2.1 (kr_AR_hearingAt ev1_) ev4_) sz_He_firstMutual tz_He_firstMutual lk_AR_212 (oz_He (kr_AR_hearingAt ev1_)) rfl (by decide) rfl rfl (Nat.le_of_ble_eq_true rfl) rfl ?_
    refine jr_if_lt 25 39 C d_AR_draftCircuit_25 (by decide) (fun c5_ => ?_) (fun c5_ => ?_)
    · have h := jz_t c5_ h
      refine jr_iconst 39 0 C d_AR_draftCircuit_39 (by decide) ?_
      obtain rfl := Option.some.inj h
      exact jr_zret 40 (v := 0) C d_AR_draftCircuit_40 rfl nb_0
    · have h := jz_f c5_ h
      refine jr_aload_n 28 C d_AR_draftCircuit_28 rfl ?_
      refine jr_iload_n 29 C d_AR_draftCircuit_29 rfl ?_
      refine jr_iload_n 30 C d_AR_draftCircuit_30 rfl ?_
      refine jr_iload_n 31 C d_AR_draftCircuit_31 rfl ?_
      obtain ⟨v6_, ev6_, h⟩ := jz_b h
      refine jr_callV 32 [.int a1, .int a3, .int a2] C d_AR_draftCircuit_32 (c_AR_speakerSeenBy (xz_l X) C.2.2.2.2.2.2.1  ev6_) sz_AR_speakerSeenBy tz_AR_speakerSeenBy lk_AR_157 oz_AR rfl (by decide) rfl rfl (Nat.le_of_ble_eq_true rfl) rfl ?_
      refine jr_iload_n 35 C d_AR_draftCircuit_35 rfl ?_
      refine jr_icmp_eq 36 41 C d_AR_draftCircuit_36 (by decide) (fun c7_ => ?_) (fun c7_ => ?_)
      · have h := jz_t c7_ h
        refine jr_aload_n 41 C d_AR_draftCircuit_41 rfl ?_
        refine gf_AR_40 42 C d_AR_draftCircuit_42 ?_
        refine jr_iload_n 45 C d_AR_draftCircuit_45 rfl ?_
        refine jr_iconst 46 0 C d_AR_draftCircuit_46 (by decide) ?_
        obtain ⟨v8_, ev8_, h⟩ := jz_b h
        refine jr_callS 47 [.int a1, .int 0] C d_AR_draftCircuit_47 (c_AR_nameOf (xz_l X) C.2.2.2.2.2.2.1  ev8_) sz_AR_nameOf tz_AR_nameOf lk_AR_215 (by decide) rfl rfl (Nat.le_of_ble_eq_true rfl) rfl ?_
        refine jr_iconst 50 0 C d_AR_draftCircuit_50 (by decide) ?_
        obtain ⟨v9_, ev9_, h⟩ := jz_b h
        refine jr_callVN 51 [.int v8_, .int 0] C d_AR_draftCircuit_51 (c_Dr_addLink (xz_l X) C.2.2.2.2.2.2.1  ev9_) sz_Dr_addLink tz_Dr_addLink lk_AR_221 oz_Dr rfl (by decide) rfl rfl (Nat.le_of_ble_eq_true rfl) rfl ?_
        refine jr_iconst 54 0 C d_AR_draftCircuit_54 (by decide) ?_
        refine jr_istore 55 [(0, .ref (gz_ad (cz_G Z) 0)), (1, .int a1), (2, .int a2), (3, .int a3), (4, .ref (gz_ad (cz_G Z) v1_)), (5, .int 0)] C d_AR_draftCircuit_55 rfl (by decide) rfl ?_
        refine jr_sub [0, 1, 3, 4, 5] rfl ?_
        exact t_AR_draftCircuit_57 C  1000 a1 a3 v1_ 0 v9_ (kr_AR_hearingAt ev1_) h
      · have h := jz_f c7_ h
        refine jr_iconst 39 0 C d_AR_draftCircuit_39 (by decide) ?_
        obtain rfl := Option.some.inj h
        exact jr_zret 40 (v := 0) C d_AR_draftCircuit_40 rfl nb_0
abbrev rm_AR_draftPart : Room := { frames := 4, cells := 0, slots := 0, locals := 91 }
abbrev cd_AR_draftPart : Cond := .code y_AR_draftPart b_AR_draftPart 4 (some .boolean)
def f_AR_draftPart (a1 : Int32) (a2 : Int32) (a3 : Int32) (m : jz_M) : Option (Int32 × jz_M) :=
  (jz_ix 6 a1).bind fun j1_ =>
  (f_Dr_begin (m 1 j1_) m).bind fun v2_ =>
  if ¬ a3 = 0 then
    (f_AR_draftCircuit a1 a2 (a3 - 1) v2_).bind fun v4_ =>
    (jz_bo v4_.1).bind fun b5_ =>
    some (b5_, v4_.2)
  else
    (f_AR_draftItself a1 a2 v2_).bind fun v6_ =>
    some (1, v6_)
set_option maxHeartbeats 4000000 in
set_option maxRecDepth 100000 in
theorem c_AR_draftPart {Z : cz_Z} (l : Launch) (hI : jz_I (cz_G Z)) {a1 : Int32} {a2 : Int32} {a3 : Int32} {m : jz_M} {r : Int32 × jz_M} (h : f_AR_draftPart a1 a2 a3 m = some r) : jz_m l y_AR_draftPart cd_AR_draftPart rm_AR_draftPart (cz_G Z) [.ref (gz_ad (cz_G Z) 0), .int a1, .int a2, .int a3] m (some (.int r.1)) r.2 := by
  refine jz_met (own := R_AR) (by decide) rfl hI (Nat.le_of_ble_eq_true rfl) (fun X hX C => ?_)
  subst hX
  show jz_J X 4 (cz_G Z) _ m [(0, .ref (gz_ad (cz_G Z) 0)), (1, .int a1), (2, .int a2), (3, .int a3)] 0 []
  unfold f_AR_draftPart at h
  refine jr_aload_n 0 C d_AR_draftPart_0 rfl ?_
  refine gf_AR_40 1 C d_AR_draftPart_1 ?_
  refine jr_aload_n 4 C d_AR_draftPart_4 rfl ?_
  refine gf_AR_9 5 C d_AR_draftPart_5 ?_
  refine jr_iload_n 8 C d_AR_draftPart_8 rfl ?_
  obtain ⟨j1_, ej1_, h⟩ := jz_b h
  refine jr_iald 9 C d_AR_draftPart_9 zk_AR_areas ej1_ ?_
  obtain ⟨v2_, ev2_, h⟩ := jz_b h
  refine jr_callVN 10 [.int (m 1 j1_)] C d_AR_draftPart_10 (c_Dr_begin (xz_l X) C.2.2.2.2.2.2.1 ev2_) sz_Dr_begin tz_Dr_begin lk_AR_196 oz_Dr rfl (by decide) rfl rfl (Nat.le_of_ble_eq_true rfl) rfl ?_
  refine jr_iload_n 13 C d_AR_draftPart_13 rfl ?_
  refine jr_if_ne 14 25 C d_AR_draftPart_14 (by decide) (fun c3_ => ?_) (fun c3_ => ?_)
  · have h := jz_t c3_ h
    refine jr_aload_n 25 C d_AR_draftPart_25 rfl ?_
    refine jr_iload_n 26 C d_AR_draftPart_26 rfl ?_
    refine jr_iload_n 27 C d_AR_draftPart_27 rfl ?_
    refine jr_iload_n 28 C d_AR_draftPart_28 rfl ?_
    refine jr_iconst 29 1 C d_AR_draftPart_29 (by decide) ?_
    refine jr_isub 30 C d_AR_draftPart_30 ?_
    obtain ⟨v4_, ev4_, h⟩ := jz_b h
    refine jr_callV 31 [.int a1, .int a2, .int (a3 - 1)] C d_AR_draftPart_31 (c_AR_draftCircuit (xz_l X) C.2.2.2.2.2.2.1  ev4_) sz_AR_draftCircuit tz_AR_draftCircuit lk_AR_202 oz_AR rfl (by decide) rfl rfl (Nat.le_of_ble_eq_true rfl) rfl ?_
    obtain ⟨b5_, eb5_, h⟩ := jz_b h
    refine jr_top (jz_bo_eq eb5_) ?_
    obtain rfl := Option.some.inj h
    exact jr_zret 34 (v := b5_) C d_AR_draftPart_34 rfl (jz_bo_n eb5_).1
  · have h := jz_f c3_ h
    refine jr_aload_n 17 C d_AR_draftPart_17 rfl ?_
    refine jr_iload_n 18 C d_AR_draftPart_18 rfl ?_
    refine jr_iload_n 19 C d_AR_draftPart_19 rfl ?_
    obtain ⟨v6_, ev6_, h⟩ := jz_b h
    refine jr_callV 20 [.int a1, .int a2] C d_AR_draftPart_20 (c_AR_draftItself (xz_l X) C.2.2.2.2.2.2.1  ev6_) sz_AR_draftItself tz_AR_draftItself lk_AR_199 oz_AR rfl (by decide) rfl rfl (Nat.le_of_ble_eq_true rfl) rfl ?_
    refine jr_iconst 23 1 C d_AR_draftPart_23 (by decide) ?_
    obtain rfl := Option.some.inj h
    exact jr_zret 24 (v := 1) C d_AR_draftPart_24 rfl nb_1
abbrev rm_Ba_renew : Room := { frames := 1, cells := 0, slots := 0, locals := 25 }
abbrev cd_Ba_renew : Cond := .code y_Ba_renew b_Ba_renew 4 none
def f_Ba_renew (o0 : Nat) (a1 : Int32) (a3 : Int32) (m : jz_M) : Option (jz_M) :=
  (jz_ix 42 a1).bind fun j1_ =>
  (jz_ix 42 a1).bind fun j2_ =>
  jz_n (jz_up m (o0 + 2) j2_ ((m (o0 + 2) j1_) + 1)) fun m3_ =>
  (jz_ix 42 a1).bind fun j4_ =>
  (jz_ix 42 a1).bind fun j5_ =>
  jz_n (jz_up m3_ (o0 + 1) j5_ (m3_ (o0 + 2) j4_)) fun m6_ =>
  (jz_ix 42 a1).bind fun j7_ =>
  jz_n (jz_up m6_ (o0 + 3) j7_ 20) fun m8_ =>
  (jz_ix 42 a1).bind fun j9_ =>
  jz_n (jz_up m8_ (o0 + 5) j9_ (vp_nar .boolean (m8_ 146 2))) fun m10_ =>
  (jz_ix 42 a1).bind fun j11_ =>
  jz_n (jz_up m10_ (o0 + 6) j11_ (m10_ 146 1)) fun m12_ =>
  (f_Ba_takeLinks o0 a1 147 10 0 (m12_ 146 0) m12_).bind fun v13_ =>
  (jz_ix 42 a1).bind fun j14_ =>
  jz_n (jz_up v13_ (o0 + 9) j14_ a3) fun m15_ =>
  (jz_ix 42 a1).bind fun j16_ =>
  jz_n (jz_up m15_ (o0 + 10) j16_ 0) fun m17_ =>
  some m17_
set_option maxHeartbeats 4000000 in
set_option maxRecDepth 100000 in
theorem c_Ba_renew {Z : cz_Z} (l : Launch) (hI : jz_I (cz_G Z)) {o0 : Nat} {a1 : Int32} {a3 : Int32} {m : jz_M} {r : jz_M} (ko0 : kz_Ba o0) (h : f_Ba_renew o0 a1 a3 m = some r) : jz_m l y_Ba_renew cd_Ba_renew rm_Ba_renew (cz_G Z) [.ref (gz_ad (cz_G Z) o0), .int a1, .ref (gz_ad (cz_G Z) 146), .int a3] m none r := by
  refine jz_met (own := R_Ba) (by decide) rfl hI (Nat.le_of_ble_eq_true rfl) (fun X hX C => ?_)
  subst hX
  show jz_J X 4 (cz_G Z) _ m [(0, .ref (gz_ad (cz_G Z) o0)), (1, .int a1), (2, .ref (gz_ad (cz_G Z) 146)), (3, .int a3)] 0 []
  unfold f_Ba_renew at h
  refine jr_aload_n 0 C d_Ba_renew_0 rfl ?_
  refine gf_Ba_15 1 C d_Ba_renew_1 ko0 ?_
  refine jr_iload_n 4 C d_Ba_renew_4 rfl ?_
  refine jr_dup2 5 C d_Ba_renew_5 rfl rfl ?_
  obtain ⟨j1_, ej1_, h⟩ := jz_b h
  refine jr_iald 6 C d_Ba_renew_6 (zk_Ba_greatest ko0) ej1_ ?_
  refine jr_iconst 7 1 C d_Ba_renew_7 (by decide) ?_
  refine jr_iadd 8 C d_Ba_renew_8 ?_
  obtain ⟨j2_, ej2_, h⟩ := jz_b h
  obtain ⟨m3_, em3_, h⟩ := jz_ne h
  refine jr_iast 9 C d_Ba_renew_9 (zk_Ba_greatest ko0) ej2_ ?_
  refine jr_mem em3_ ?_
  refine jr_aload_n 10 C d_Ba_renew_10 rfl ?_
  refine gf_Ba_9 11 C d_Ba_renew_11 ko0 ?_
  refine jr_iload_n 14 C d_Ba_renew_14 rfl ?_
  refine jr_aload_n 15 C d_Ba_renew_15 rfl ?_
  refine gf_Ba_15 16 C d_Ba_renew_16 ko0 ?_
  refine jr_iload_n 19 C d_Ba_renew_19 rfl ?_
  obtain ⟨j4_, ej4_, h⟩ := jz_b h
  refine jr_iald 20 C d_Ba_renew_20 (zk_Ba_greatest ko0) ej4_ ?_
  obtain ⟨j5_, ej5_, h⟩ := jz_b h
  obtain ⟨m6_, em6_, h⟩ := jz_ne h
  refine jr_iast 21 C d_Ba_renew_21 (zk_Ba_sequences ko0) ej5_ ?_
  refine jr_mem em6_ ?_
  refine jr_aload_n 22 C d_Ba_renew_22 rfl ?_
  refine gf_Ba_18 23 C d_Ba_renew_23 ko0 ?_
  refine jr_iload_n 26 C d_Ba_renew_26 rfl ?_
  refine jr_bipush 27 20 C d_Ba_renew_27 (by decide) ?_
  obtain ⟨j7_, ej7_, h⟩ := jz_b h
  obtain ⟨m8_, em8_, h⟩ := jz_ne h
  refine jr_iast 29 C d_Ba_renew_29 (zk_Ba_lives ko0) ej7_ ?_
  refine jr_mem em8_ ?_
  refine jr_aload_n 30 C d_Ba_renew_30 rfl ?_
  refine gf_Ba_24 31 C d_Ba_renew_31 ko0 ?_
  refine jr_iload_n 34 C d_Ba_renew_34 rfl ?_
  refine jr_aload_n 35 C d_Ba_renew_35 rfl ?_
  refine gf_Ba_69 36 C d_Ba_renew_36 ?_
  obtain ⟨j9_, ej9_, h⟩ := jz_b h
  obtain ⟨m10_, em10_, h⟩ := jz_ne h
  refine jr_zast 39 C d_Ba_renew_39 (zk_Ba_exits ko0) ej9_ ?_
  refine jr_mem em10_ ?_
  refine jr_aload_n 40 C d_Ba_renew_40 rfl ?_
  refine gf_Ba_28 41 C d_Ba_renew_41 ko0 ?_
  refine jr_iload_n 44 C d_Ba_renew_44 rfl ?_
  refine jr_aload_n 45 C d_Ba_renew_45 rfl ?_
  refine gf_Ba_80 46 C d_Ba_renew_46 ?_
  obtain ⟨j11_, ej11_, h⟩ := jz_b h
  obtain ⟨m12_, em12_, h⟩ := jz_ne h
  refine jr_iast 49 C d_Ba_renew_49 (zk_Ba_areas ko0) ej11_ ?_
  refine jr_mem em12_ ?_
  refine jr_aload_n 50 C d_Ba_renew_50 rfl ?_
  refine jr_iload_n 51 C d_Ba_renew_51 rfl ?_
  refine jr_aload_n 52 C d_Ba_renew_52 rfl ?_
  refine gf_Ba_79 53 C d_Ba_renew_53 ?_
  refine jr_iconst 56 0 C d_Ba_renew_56 (by decide) ?_
  refine jr_aload_n 57 C d_Ba_renew_57 rfl ?_
  refine gf_Ba_75 58 C d_Ba_renew_58 ?_
  obtain ⟨v13_, ev13_, h⟩ := jz_b h
  refine jr_callV 61 [.int a1, .ref (gz_ad (cz_G Z) 147), .int 0, .int (m12_ 146 0)] C d_Ba_renew_61 (c_Ba_takeLinks (xz_l X) C.2.2.2.2.2.2.1 ko0 zk_Dr_links ev13_) sz_Ba_takeLinks tz_Ba_takeLinks lk_Ba_83 (oz_Ba ko0) rfl (by decide) rfl rfl (Nat.le_of_ble_eq_true rfl) rfl ?_
  refine jr_aload_n 64 C d_Ba_renew_64 rfl ?_
  refine gf_Ba_37 65 C d_Ba_renew_65 ko0 ?_
  refine jr_iload_n 68 C d_Ba_renew_68 rfl ?_
  refine jr_iload_n 69 C d_Ba_renew_69 rfl ?_
  obtain ⟨j14_, ej14_, h⟩ := jz_b h
  obtain ⟨m15_, em15_, h⟩ := jz_ne h
  refine jr_iast 70 C d_Ba_renew_70 (zk_Ba_due ko0) ej14_ ?_
  refine jr_mem em15_ ?_
  refine jr_aload_n 71 C d_Ba_renew_71 rfl ?_
  refine gf_Ba_40 72 C d_Ba_renew_72 ko0 ?_
  refine jr_iload_n 75 C d_Ba_renew_75 rfl ?_
  refine jr_iconst 76 0 C d_Ba_renew_76 (by decide) ?_
  obtain ⟨j16_, ej16_, h⟩ := jz_b h
  obtain ⟨m17_, em17_, h⟩ := jz_ne h
  refine jr_iast 77 C d_Ba_renew_77 (zk_Ba_asked ko0) ej16_ ?_
  refine jr_mem em17_ ?_
  obtain rfl := Option.some.inj h
  exact jr_vret 78 C d_Ba_renew_78 rfl
abbrev rm_Ba_end : Room := { frames := 0, cells := 0, slots := 0, locals := 0 }
abbrev cd_Ba_end : Cond := .code y_Ba_end b_Ba_end 3 none
def f_Ba_end (o0 : Nat) (a1 : Int32) (a2 : Int32) (m : jz_M) : Option (jz_M) :=
  (jz_ix 42 a1).bind fun j1_ =>
  jz_n (jz_up m (o0 + 3) j1_ 0) fun m2_ =>
  (jz_ix 42 a1).bind fun j3_ =>
  jz_n (jz_up m2_ (o0 + 4) j3_ 0) fun m4_ =>
  (jz_ix 42 a1).bind fun j5_ =>
  jz_n (jz_up m4_ (o0 + 9) j5_ a2) fun m6_ =>
  some m6_
set_option maxHeartbeats 4000000 in
set_option maxRecDepth 100000 in
theorem c_Ba_end {Z : cz_Z} (l : Launch) (hI : jz_I (cz_G Z)) {o0 : Nat} {a1 : Int32} {a2 : Int32} {m : jz_M} {r : jz_M} (ko0 : kz_Ba o0) (h : f_Ba_end o0 a1 a2 m = some r) : jz_m l y_Ba_end cd_Ba_end rm_Ba_end (cz_G Z) [.ref (gz_ad (cz_G Z) o0), .int a1, .int a2] m none r := by
  refine jz_met (own := R_Ba) (by decide) rfl hI (Nat.le_of_ble_eq_true rfl) (fun X hX C => ?_)
  subst hX
  show jz_J X 3 (cz_G Z) _ m [(0, .ref (gz_ad (cz_G Z) o0)), (1, .int a1), (2, .int a2)] 0 []
  unfold f_Ba_end at h
  refine jr_aload_n 0 C d_Ba_end_0 rfl ?_
  refine gf_Ba_18 1 C d_Ba_end_1 ko0 ?_
  refine jr_iload_n 4 C d_Ba_end_4 rfl ?_
  refine jr_iconst 5 0 C d_Ba_end_5 (by decide) ?_
  obtain ⟨j1_, ej1_, h⟩ := jz_b h
  obtain ⟨m2_, em2_, h⟩ := jz_ne h
  refine jr_iast 6 C d_Ba_end_6 (zk_Ba_lives ko0) ej1_ ?_
  refine jr_mem em2_ ?_
  refine jr_aload_n 7 C d_Ba_end_7 rfl ?_
  refine gf_Ba_21 8 C d_Ba_end_8 ko0 ?_
  refine jr_iload_n 11 C d_Ba_end_11 rfl ?_
  refine jr_iconst 12 0 C d_Ba_end_12 (by decide) ?_
  obtain ⟨j3_, ej3_, h⟩ := jz_b h
  obtain ⟨m4_, em4_, h⟩ := jz_ne h
  refine jr_iast 13 C d_Ba_end_13 (zk_Ba_ticksAtRest ko0) ej3_ ?_
  refine jr_mem em4_ ?_
  refine jr_aload_n 14 C d_Ba_end_14 rfl ?_
  refine gf_Ba_37 15 C d_Ba_end_15 ko0 ?_
  refine jr_iload_n 18 C d_Ba_end_18 rfl ?_
  refine jr_iload_n 19 C d_Ba_end_19 rfl ?_
  obtain ⟨j5_, ej5_, h⟩ := jz_b h
  obtain ⟨m6_, em6_, h⟩ := jz_ne h
  refine jr_iast 20 C d_Ba_end_20 (zk_Ba_due ko0) ej5_ ?_
  refine jr_mem em6_ ?_
  obtain rfl := Option.some.inj h
  exact jr_vret 21 C d_Ba_end_21 rfl
abbrev rm_Ba_askNowhere : Room := { frames := 0, cells := 0, slots := 0, locals := 0 }
abbrev cd_Ba_askNowhere : Cond := .code y_Ba_askNowhere b_Ba_askNowhere 2 none
def f_Ba_askNowhere (o0 : Nat) (a1 : Int32) (m : jz_M) : Option (jz_M) :=
  (jz_ix 42 a1).bind fun j1_ =>
  jz_n (jz_up m (o0 + 10) j1_ 0) fun m2_ =>
  some m2_
set_option maxHeartbeats 4000000 in
set_option maxRecDepth 100000 in
theorem c_Ba_askNowhere {Z : cz_Z} (l : Launch) (hI : jz_I (cz_G Z)) {o0 : Nat} {a1 : Int32} {m : jz_M} {r : jz_M} (ko0 : kz_Ba o0) (h : f_Ba_askNowhere o0 a1 m = some r) : jz_m l y_Ba_askNowhere cd_Ba_askNowhere rm_Ba_askNowhere (cz_G Z) [.ref (gz_ad (cz_G Z) o0), .int a1] m none r := by
  refine jz_met (own := R_Ba) (by decide) rfl hI (Nat.le_of_ble_eq_true rfl) (fun X hX C => ?_)
  subst hX
  show jz_J X 2 (cz_G Z) _ m [(0, .ref (gz_ad (cz_G Z) o0)), (1, .int a1)] 0 []
  unfold f_Ba_askNowhere at h
  refine jr_aload_n 0 C d_Ba_askNowhere_0 rfl ?_
  refine gf_Ba_40 1 C d_Ba_askNowhere_1 ko0 ?_
  refine jr_iload_n 4 C d_Ba_askNowhere_4 rfl ?_
  refine jr_iconst 5 0 C d_Ba_askNowhere_5 (by decide) ?_
  obtain ⟨j1_, ej1_, h⟩ := jz_b h
  obtain ⟨m2_, em2_, h⟩ := jz_ne h
  refine jr_iast 6 C d_Ba_askNowhere_6 (zk_Ba_asked ko0) ej1_ ?_
  refine jr_mem em2_ ?_
  obtain rfl := Option.some.inj h
  exact jr_vret 7 C d_Ba_askNowhere_7 rfl
abbrev rm_AR_answerForOwn : Room := { frames := 5, cells := 0, slots := 0, locals := 114 }
abbrev cd_AR_answerForOwn : Cond := .code y_AR_answerForOwn b_AR_answerForOwn 5 none
def f_AR_answerForOwn (a1 : Int32) (a2 : Int32) (a3 : Int32) (m : jz_M) : Option (jz_M) :=
  (f_AR_baseOf a1 a2 m).bind fun v1_ =>
  (f_AR_partOf a3 m).bind fun v2_ =>
  (f_AR_draftPart a1 a2 v2_ m).bind fun v3_ =>
  if v3_.1 = 0 then
    (f_Wi_circuitsOf a1 v3_.2).bind fun v5_ =>
    (f_Ba_end v1_ a3 v5_ v3_.2).bind fun v6_ =>
    (f_Ba_askNowhere v1_ a3 v6_).bind fun v7_ =>
    some v7_
  else
    (f_Wi_circuitsOf a1 v3_.2).bind fun v8_ =>
    (f_Ba_renew v1_ a3 v8_ v3_.2).bind fun v9_ =>
    some v9_
set_option maxHeartbeats 4000000 in
set_option maxRecDepth 100000 in
theorem c_AR_answerForOwn {Z : cz_Z} (l : Launch) (hI : jz_I (cz_G Z)) {a1 : Int32} {a2 : Int32} {a3 : Int32} {m : jz_M} {r : jz_M} (h : f_AR_answerForOwn a1 a2 a3 m = some r) : jz_m l y_AR_answerForOwn cd_AR_answerForOwn rm_AR_answerForOwn (cz_G Z) [.ref (gz_ad (cz_G Z) 0), .int a1, .int a2, .int a3] m none r := by
  refine jz_met (own := R_AR) (by decide) rfl hI (Nat.le_of_ble_eq_true rfl) (fun X hX C => ?_)
  subst hX
  show jz_J X 5 (cz_G Z) _ m [(0, .ref (gz_ad (cz_G Z) 0)), (1, .int a1), (2, .int a2), (3, .int a3)] 0 []
  unfold f_AR_answerForOwn at h
  refine jr_aload_n 0 C d_AR_answerForOwn_0 rfl ?_
  refine jr_iload_n 1 C d_AR_answerForOwn_1 rfl ?_
  refine jr_iload_n 2 C d_AR_answerForOwn_2 rfl ?_
  obtain ⟨v1_, ev1_, h⟩ := jz_b h
  refine jr_callV 3 [.int a1, .int a2] C d_AR_answerForOwn_3 (c_AR_baseOf (xz_l X) C.2.2.2.2.2.2.1 ev1_) sz_AR_baseOf tz_AR_baseOf lk_AR_87 oz_AR rfl (by decide) rfl rfl (Nat.le_of_ble_eq_true rfl) rfl ?_
  refine jr_astore 6 [(0, .ref (gz_ad (cz_G Z) 0)), (1, .int a1), (2, .int a2), (3, .int a3), (4, .ref (gz_ad (cz_G Z) v1_))] C d_AR_answerForOwn_6 rfl (by decide) rfl ?_
  refine jr_aload_n 8 C d_AR_answerForOwn_8 rfl ?_
  refine jr_iload_n 9 C d_AR_answerForOwn_9 rfl ?_
  refine jr_iload_n 10 C d_AR_answerForOwn_10 rfl ?_
  refine jr_iload_n 11 C d_AR_answerForOwn_11 rfl ?_
  obtain ⟨v2_, ev2_, h⟩ := jz_b h
  refine jr_callS 12 [.int a3] C d_AR_answerForOwn_12 (c_AR_partOf (xz_l X) C.2.2.2.2.2.2.1 ev2_) sz_AR_partOf tz_AR_partOf lk_AR_257 (by decide) rfl rfl (Nat.le_of_ble_eq_true rfl) rfl ?_
  obtain ⟨v3_, ev3_, h⟩ := jz_b h
  refine jr_callV 15 [.int a1, .int a2, .int v2_] C d_AR_answerForOwn_15 (c_AR_draftPart (xz_l X) C.2.2.2.2.2.2.1 ev3_) sz_AR_draftPart tz_AR_draftPart lk_AR_224 oz_AR rfl (by decide) rfl rfl (Nat.le_of_ble_eq_true rfl) rfl ?_
  refine jr_if_eq 18 42 C d_AR_answerForOwn_18 (by decide) (fun c4_ => ?_) (fun c4_ => ?_)
  · have h := jz_t c4_ h
    refine jr_aload 42 C d_AR_answerForOwn_42 rfl ?_
    refine jr_iload_n 44 C d_AR_answerForOwn_44 rfl ?_
    refine jr_aload_n 45 C d_AR_answerForOwn_45 rfl ?_
    refine gf_AR_19 46 C d_AR_answerForOwn_46 ?_
    refine jr_iload_n 49 C d_AR_answerForOwn_49 rfl ?_
    obtain ⟨v5_, ev5_, h⟩ := jz_b h
    refine jr_callVN 50 [.int a1] C d_AR_answerForOwn_50 (c_Wi_circuitsOf (xz_l X) C.2.2.2.2.2.2.1  ev5_) sz_Wi_circuitsOf tz_Wi_circuitsOf lk_AR_55 oz_Wi rfl (by decide) rfl rfl (Nat.le_of_ble_eq_true rfl) rfl ?_
    obtain ⟨v6_, ev6_, h⟩ := jz_b h
    refine jr_callVN 53 [.int a3, .int v5_] C d_AR_answerForOwn_53 (c_Ba_end (xz_l X) C.2.2.2.2.2.2.1 (kr_AR_baseOf ev1_) ev6_) sz_Ba_end tz_Ba_end lk_AR_238 (oz_Ba (kr_AR_baseOf ev1_)) rfl (by decide) rfl rfl (Nat.le_of_ble_eq_true rfl) rfl ?_
    refine jr_aload 56 C d_AR_answerForOwn_56 rfl ?_
    refine jr_iload_n 58 C d_AR_answerForOwn_58 rfl ?_
    obtain ⟨v7_, ev7_, h⟩ := jz_b h
    refine jr_callVN 59 [.int a3] C d_AR_answerForOwn_59 (c_Ba_askNowhere (xz_l X) C.2.2.2.2.2.2.1 (kr_AR_baseOf ev1_) ev7_) sz_Ba_askNowhere tz_Ba_askNowhere lk_AR_260 (oz_Ba (kr_AR_baseOf ev1_)) rfl (by decide) rfl rfl (Nat.le_of_ble_eq_true rfl) rfl ?_
    obtain rfl := Option.some.inj h
    exact jr_vret 62 C d_AR_answerForOwn_62 rfl
  · have h := jz_f c4_ h
    refine jr_aload 21 C d_AR_answerForOwn_21 rfl ?_
    refine jr_iload_n 23 C d_AR_answerForOwn_23 rfl ?_
    refine jr_aload_n 24 C d_AR_answerForOwn_24 rfl ?_
    refine gf_AR_40 25 C d_AR_answerForOwn_25 ?_
    refine jr_aload_n 28 C d_AR_answerForOwn_28 rfl ?_
    refine gf_AR_19 29 C d_AR_answerForOwn_29 ?_
    refine jr_iload_n 32 C d_AR_answerForOwn_32 rfl ?_
    obtain ⟨v8_, ev8_, h⟩ := jz_b h
    refine jr_callVN 33 [.int a1] C d_AR_answerForOwn_33 (c_Wi_circuitsOf (xz_l X) C.2.2.2.2.2.2.1  ev8_) sz_Wi_circuitsOf tz_Wi_circuitsOf lk_AR_55 oz_Wi rfl (by decide) rfl rfl (Nat.le_of_ble_eq_true rfl) rfl ?_
    obtain ⟨v9_, ev9_, h⟩ := jz_b h
    refine jr_callVN 36 [.int a3, .ref (gz_ad (cz_G Z) 146), .int v8_] C d_AR_answerForOwn_36 (c_Ba_renew (xz_l X) C.2.2.2.2.2.2.1 (kr_AR_baseOf ev1_) ev9_) sz_Ba_renew tz_Ba_renew lk_AR_231 (oz_Ba (kr_AR_baseOf ev1_)) rfl (by decide) rfl rfl (Nat.le_of_ble_eq_true rfl) rfl ?_
    refine jr_goto 39 62 C d_AR_answerForOwn_39 (by decide) ?_
    obtain rfl := Option.some.inj h
    exact jr_vret 62 C d_AR_answerForOwn_62 rfl
abbrev rm_Ba_setDueOn : Room := { frames := 0, cells := 0, slots := 0, locals := 0 }
abbrev cd_Ba_setDueOn : Cond := .code y_Ba_setDueOn b_Ba_setDueOn 3 none
def f_Ba_setDueOn (o0 : Nat) (a1 : Int32) (a2 : Int32) (m : jz_M) : Option (jz_M) :=
  (jz_ix 42 a1).bind fun j1_ =>
  jz_n (jz_up m (o0 + 9) j1_ a2) fun m2_ =>
  some m2_
set_option maxHeartbeats 4000000 in
set_option maxRecDepth 100000 in
theorem c_Ba_setDueOn {Z : cz_Z} (l : Launch) (hI : jz_I (cz_G Z)) {o0 : Nat} {a1 : Int32} {a2 : Int32} {m : jz_M} {r : jz_M} (ko0 : kz_Ba o0) (h : f_Ba_setDueOn o0 a1 a2 m = some r) : jz_m l y_Ba_setDueOn cd_Ba_setDueOn rm_Ba_setDueOn (cz_G Z) [.ref (gz_ad (cz_G Z) o0), .int a1, .int a2] m none r := by
  refine jz_met (own := R_Ba) (by decide) rfl hI (Nat.le_of_ble_eq_true rfl) (fun X hX C => ?_)
  subst hX
  show jz_J X 3 (cz_G Z) _ m [(0, .ref (gz_ad (cz_G Z) o0)), (1, .int a1), (2, .int a2)] 0 []
  unfold f_Ba_setDueOn at h
  refine jr_aload_n 0 C d_Ba_setDueOn_0 rfl ?_
  refine gf_Ba_37 1 C d_Ba_setDueOn_1 ko0 ?_
  refine jr_iload_n 4 C d_Ba_setDueOn_4 rfl ?_
  refine jr_iload_n 5 C d_Ba_setDueOn_5 rfl ?_
  obtain ⟨j1_, ej1_, h⟩ := jz_b h
  obtain ⟨m2_, em2_, h⟩ := jz_ne h
  refine jr_iast 6 C d_Ba_setDueOn_6 (zk_Ba_due ko0) ej1_ ?_
  refine jr_mem em2_ ?_
  obtain rfl := Option.some.inj h
  exact jr_vret 7 C d_Ba_setDueOn_7 rfl
