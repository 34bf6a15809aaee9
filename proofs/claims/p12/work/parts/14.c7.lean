abbrev rm_AR_tick : Room := { frames := 2, cells := 0, slots := 0, locals := 45 }
abbrev cd_AR_tick : Cond := .code y_AR_tick b_AR_tick 3 none
def f_AR_tick_31 (k24 : Int32 → jz_M → Option (jz_M)) : Nat → Int32 → Int32 → jz_M → Option (jz_M)
  | 0, _, _, _ => none
  | fu + 1, x1, x2, m =>
    if 6 ≤ x2 then
      jz_n (x1 + 1) fun x2_ =>
      k24 x2_ m
    else
      (f_AR_baseOf x2 x1 m).bind fun v3_ =>
      (f_Wi_circuitsOf x2 m).bind fun v4_ =>
      (f_Ba_age v3_ v4_ m).bind fun v5_ =>
      jz_n (x2 + 1) fun x6_ =>
      f_AR_tick_31 k24 fu x1 x6_ v5_
set_option maxHeartbeats 4000000 in
set_option maxRecDepth 100000 in
theorem t_AR_tick_31 {Z : cz_Z} {X : jz_X} {r : jz_M} (C : jz_C X 3 b_AR_tick R_AR none rm_AR_tick (cz_G Z)) (k24 : Int32 → jz_M → Option (jz_M)) (hk24 : ∀ (x1 : Int32) (m : jz_M), k24 x1 m = some r → jz_J X 3 (cz_G Z) (jz_q X (cz_G Z) none r) m [(0, .ref (gz_ad (cz_G Z) 0)), (1, .int x1)] 24 []) : ∀ (fu : Nat) (x1 : Int32) (x2 : Int32) (m : jz_M) , f_AR_tick_31 k24 fu x1 x2 m = some r → jz_J X 3 (cz_G Z) (jz_q X (cz_G Z) none r) m [(0, .ref (gz_ad (cz_G Z) 0)), (1, .int x1), (2, .int x2)] 31 [] := by
  intro fu
  induction fu with
  | zero => intro x1 x2 m h; cases h
  | succ fu ih =>
    intro x1 x2 m h
    rw [f_AR_tick_31] at h
    refine jr_iload_n 31 C d_AR_tick_31 rfl ?_
    refine jr_bipush 32 6 C d_AR_tick_32 (by decide) ?_
    refine jr_icmp_ge 34 60 C d_AR_tick_34 (by decide) (fun c1_ => ?_) (fun c1_ => ?_)
    · have h := jz_t c1_ h
      obtain ⟨x2_, ex2_, h⟩ := jz_ne h
      refine jr_iinc 60 [(0, .ref (gz_ad (cz_G Z) 0)), (1, .int x2_), (2, .int x2)] C d_AR_tick_60 rfl (by decide) rfl (by rw [ex2_]; rfl) rfl ?_
      refine jr_goto 63 24 C d_AR_tick_63 (by decide) ?_
      refine jr_sub [0, 1] rfl ?_
      exact hk24 x2_ m  h
    · have h := jz_f c1_ h
      refine jr_aload_n 37 C d_AR_tick_37 rfl ?_
      refine jr_iload_n 38 C d_AR_tick_38 rfl ?_
      refine jr_iload_n 39 C d_AR_tick_39 rfl ?_
      obtain ⟨v3_, ev3_, h⟩ := jz_b h
      refine jr_callV 40 [.int x2, .int x1] C d_AR_tick_40 (c_AR_baseOf (xz_l X) C.2.2.2.2.2.2.1  ev3_) sz_AR_baseOf tz_AR_baseOf lk_AR_87 oz_AR rfl (by decide) rfl rfl (Nat.le_of_ble_eq_true rfl) rfl ?_
      refine jr_aload_n 43 C d_AR_tick_43 rfl ?_
      refine gf_AR_19 44 C d_AR_tick_44 ?_
      refine jr_iload_n 47 C d_AR_tick_47 rfl ?_
      obtain ⟨v4_, ev4_, h⟩ := jz_b h
      refine jr_callVN 48 [.int x2] C d_AR_tick_48 (c_Wi_circuitsOf (xz_l X) C.2.2.2.2.2.2.1  ev4_) sz_Wi_circuitsOf tz_Wi_circuitsOf lk_AR_55 oz_Wi rfl (by decide) rfl rfl (Nat.le_of_ble_eq_true rfl) rfl ?_
      obtain ⟨v5_, ev5_, h⟩ := jz_b h
      refine jr_callVN 51 [.int v4_] C d_AR_tick_51 (c_Ba_age (xz_l X) C.2.2.2.2.2.2.1 (kr_AR_baseOf ev3_) ev5_) sz_Ba_age tz_Ba_age lk_AR_144 (oz_Ba (kr_AR_baseOf ev3_)) rfl (by decide) rfl rfl (Nat.le_of_ble_eq_true rfl) rfl ?_
      obtain ⟨x6_, ex6_, h⟩ := jz_ne h
      refine jr_iinc 54 [(0, .ref (gz_ad (cz_G Z) 0)), (1, .int x1), (2, .int x6_)] C d_AR_tick_54 rfl (by decide) rfl (by rw [ex6_]; rfl) rfl ?_
      refine jr_goto 57 31 C d_AR_tick_57 (by decide) ?_
      refine jr_sub [0, 1, 2] rfl ?_
      exact ih x1 x6_ v5_  h
def f_AR_tick_24 : Nat → Int32 → jz_M → Option (jz_M)
  | 0, _, _ => none
  | fu + 1, x1, m =>
    if 2 < x1 then
      some m
    else
      f_AR_tick_31 (f_AR_tick_24 fu) 1000 x1 0 m
set_option maxHeartbeats 4000000 in
set_option maxRecDepth 100000 in
theorem t_AR_tick_24 {Z : cz_Z} {X : jz_X} {r : jz_M} (C : jz_C X 3 b_AR_tick R_AR none rm_AR_tick (cz_G Z)) : ∀ (fu : Nat) (x1 : Int32) (m : jz_M) , f_AR_tick_24 fu x1 m = some r → jz_J X 3 (cz_G Z) (jz_q X (cz_G Z) none r) m [(0, .ref (gz_ad (cz_G Z) 0)), (1, .int x1)] 24 [] := by
  intro fu
  induction fu with
  | zero => intro x1 m h; cases h
  | succ fu ih =>
    intro x1 m h
    rw [f_AR_tick_24] at h
    refine jr_iload_n 24 C d_AR_tick_24 rfl ?_
    refine jr_iconst 25 2 C d_AR_tick_25 (by decide) ?_
    refine jr_icmp_gt 26 66 C d_AR_tick_26 (by decide) (fun c1_ => ?_) (fun c1_ => ?_)
    · have h := jz_t c1_ h
      obtain rfl := Option.some.inj h
      exact jr_vret 66 C d_AR_tick_66 rfl
    · have h := jz_f c1_ h
      refine jr_iconst 29 0 C d_AR_tick_29 (by decide) ?_
      refine jr_istore_n 30 [(0, .ref (gz_ad (cz_G Z) 0)), (1, .int x1), (2, .int 0)] C d_AR_tick_30 rfl (by decide) rfl ?_
      refine jr_sub [0, 1, 2] rfl ?_
      exact t_AR_tick_31 C (f_AR_tick_24 fu) ih 1000 x1 0 m h
def f_AR_tick_2 : Nat → Int32 → jz_M → Option (jz_M)
  | 0, _, _ => none
  | fu + 1, x1, m =>
    if 2 ≤ x1 then
      f_AR_tick_24 1000 1 m
    else
      (jz_ix 2 x1).bind fun j2_ =>
      (f_He_age (7 + 3 * j2_) m).bind fun v3_ =>
      jz_n (x1 + 1) fun x4_ =>
      f_AR_tick_2 fu x4_ v3_
set_option maxHeartbeats 4000000 in
set_option maxRecDepth 100000 in
theorem t_AR_tick_2 {Z : cz_Z} {X : jz_X} {r : jz_M} (C : jz_C X 3 b_AR_tick R_AR none rm_AR_tick (cz_G Z)) : ∀ (fu : Nat) (x1 : Int32) (m : jz_M) , f_AR_tick_2 fu x1 m = some r → jz_J X 3 (cz_G Z) (jz_q X (cz_G Z) none r) m [(0, .ref (gz_ad (cz_G Z) 0)), (1, .int x1)] 2 [] := by
  intro fu
  induction fu with
  | zero => intro x1 m h; cases h
  | succ fu ih =>
    intro x1 m h
    rw [f_AR_tick_2] at h
    refine jr_iload_n 2 C d_AR_tick_2 rfl ?_
    refine jr_iconst 3 2 C d_AR_tick_3 (by decide) ?_
    refine jr_icmp_ge 4 22 C d_AR_tick_4 (by decide) (fun c1_ => ?_) (fun c1_ => ?_)
    · have h := jz_t c1_ h
      refine jr_iconst 22 1 C d_AR_tick_22 (by decide) ?_
      refine jr_istore_n 23 [(0, .ref (gz_ad (cz_G Z) 0)), (1, .int 1)] C d_AR_tick_23 rfl (by decide) rfl ?_
      refine jr_sub [0, 1] rfl ?_
      exact t_AR_tick_24 C  1000 1 m h
    · have h := jz_f c1_ h
      refine jr_aload_n 7 C d_AR_tick_7 rfl ?_
      refine gf_AR_25 8 C d_AR_tick_8 ?_
      refine jr_iload_n 11 C d_AR_tick_11 rfl ?_
      obtain ⟨j2_, ej2_, h⟩ := jz_b h
      refine jr_aald 12 C d_AR_tick_12 zk_AR_hearings ej2_ ?_
      obtain ⟨v3_, ev3_, h⟩ := jz_b h
      refine jr_callVN 13 [] C d_AR_tick_13 (c_He_age (xz_l X) C.2.2.2.2.2.2.1 (ke_He ej2_) ev3_) sz_He_age tz_He_age lk_AR_141 (oz_He (ke_He ej2_)) rfl (by decide) rfl rfl (Nat.le_of_ble_eq_true rfl) rfl ?_
      obtain ⟨x4_, ex4_, h⟩ := jz_ne h
      refine jr_iinc 16 [(0, .ref (gz_ad (cz_G Z) 0)), (1, .int x4_)] C d_AR_tick_16 rfl (by decide) rfl (by rw [ex4_]; rfl) rfl ?_
      refine jr_goto 19 2 C d_AR_tick_19 (by decide) ?_
      refine jr_sub [0, 1] rfl ?_
      exact ih x4_ v3_  h
def f_AR_tick (m : jz_M) : Option (jz_M) :=
  f_AR_tick_2 1000 0 m
set_option maxHeartbeats 4000000 in
set_option maxRecDepth 100000 in
theorem c_AR_tick {Z : cz_Z} (l : Launch) (hI : jz_I (cz_G Z)) {m : jz_M} {r : jz_M} (h : f_AR_tick m = some r) : jz_m l y_AR_tick cd_AR_tick rm_AR_tick (cz_G Z) [.ref (gz_ad (cz_G Z) 0)] m none r := by
  refine jz_met (own := R_AR) (by decide) rfl hI (Nat.le_of_ble_eq_true rfl) (fun X hX C => ?_)
  subst hX
  show jz_J X 3 (cz_G Z) _ m [(0, .ref (gz_ad (cz_G Z) 0))] 0 []
  unfold f_AR_tick at h
  refine jr_iconst 0 0 C d_AR_tick_0 (by decide) ?_
  refine jr_istore_n 1 [(0, .ref (gz_ad (cz_G Z) 0)), (1, .int 0)] C d_AR_tick_1 rfl (by decide) rfl ?_
  refine jr_sub [0, 1] rfl ?_
  exact t_AR_tick_2 C 1000 0 m h
abbrev rm_AR_neighbour : Room := { frames := 1, cells := 0, slots := 0, locals := 24 }
abbrev cd_AR_neighbour : Cond := .code y_AR_neighbour b_AR_neighbour 5 (some .boolean)
def f_AR_neighbour (a1 : Int32) (a2 : Int32) (a3 : Int32) (a4 : Int32) (m : jz_M) : Option (Int32) :=
  (f_AR_isRouter a1 m).bind fun v1_ =>
  if v1_ = 0 then
    some 0
  else
    (f_AR_isCircuit a2 m).bind fun v3_ =>
    if v3_ = 0 then
      some 0
    else
      (f_AR_isLevel a3 m).bind fun v5_ =>
      if v5_ = 0 then
        some 0
      else
        (f_AR_isRouter a4 m).bind fun v7_ =>
        if v7_ = 0 then
          some 0
        else
          (f_AR_hearingAt a3 m).bind fun v9_ =>
          (f_He_isMutual v9_ a1 a2 a4 m).bind fun v10_ =>
          if v10_ = 0 then
            some 0
          else
            some 1
set_option maxHeartbeats 4000000 in
set_option maxRecDepth 100000 in
theorem c_AR_neighbour {Z : cz_Z} (l : Launch) (hI : jz_I (cz_G Z)) {a1 : Int32} {a2 : Int32} {a3 : Int32} {a4 : Int32} {m : jz_M} {r : Int32} (h : f_AR_neighbour a1 a2 a3 a4 m = some r) : jz_m l y_AR_neighbour cd_AR_neighbour rm_AR_neighbour (cz_G Z) [.ref (gz_ad (cz_G Z) 0), .int a1, .int a2, .int a3, .int a4] m (some (.int r)) m := by
  refine jz_met (own := R_AR) (by decide) rfl hI (Nat.le_of_ble_eq_true rfl) (fun X hX C => ?_)
  subst hX
  show jz_J X 5 (cz_G Z) _ m [(0, .ref (gz_ad (cz_G Z) 0)), (1, .int a1), (2, .int a2), (3, .int a3), (4, .int a4)] 0 []
  unfold f_AR_neighbour at h
  refine jr_iload_n 0 C d_AR_neighbour_0 rfl ?_
  obtain ⟨v1_, ev1_, h⟩ := jz_b h
  refine jr_callS 1 [.int a1] C d_AR_neighbour_1 (c_AR_isRouter (xz_l X) C.2.2.2.2.2.2.1 ev1_) sz_AR_isRouter tz_AR_isRouter lk_AR_51 (by decide) rfl rfl (Nat.le_of_ble_eq_true rfl) rfl ?_
  refine jr_if_eq 4 48 C d_AR_neighbour_4 (by decide) (fun c2_ => ?_) (fun c2_ => ?_)
  · have h := jz_t c2_ h
    refine jr_iconst 48 0 C d_AR_neighbour_48 (by decide) ?_
    obtain rfl := Option.some.inj h
    exact jr_zret 49 (v := 0) C d_AR_neighbour_49 rfl nb_0
  · have h := jz_f c2_ h
    refine jr_iload_n 7 C d_AR_neighbour_7 rfl ?_
    obtain ⟨v3_, ev3_, h⟩ := jz_b h
    refine jr_callS 8 [.int a2] C d_AR_neighbour_8 (c_AR_isCircuit (xz_l X) C.2.2.2.2.2.2.1  ev3_) sz_AR_isCircuit tz_AR_isCircuit lk_AR_59 (by decide) rfl rfl (Nat.le_of_ble_eq_true rfl) rfl ?_
    refine jr_if_eq 11 48 C d_AR_neighbour_11 (by decide) (fun c4_ => ?_) (fun c4_ => ?_)
    · have h := jz_t c4_ h
      refine jr_iconst 48 0 C d_AR_neighbour_48 (by decide) ?_
      obtain rfl := Option.some.inj h
      exact jr_zret 49 (v := 0) C d_AR_neighbour_49 rfl nb_0
    · have h := jz_f c4_ h
      refine jr_iload_n 14 C d_AR_neighbour_14 rfl ?_
      obtain ⟨v5_, ev5_, h⟩ := jz_b h
      refine jr_callS 15 [.int a3] C d_AR_neighbour_15 (c_AR_isLevel (xz_l X) C.2.2.2.2.2.2.1  ev5_) sz_AR_isLevel tz_AR_isLevel lk_AR_147 (by decide) rfl rfl (Nat.le_of_ble_eq_true rfl) rfl ?_
      refine jr_if_eq 18 48 C d_AR_neighbour_18 (by decide) (fun c6_ => ?_) (fun c6_ => ?_)
      · have h := jz_t c6_ h
        refine jr_iconst 48 0 C d_AR_neighbour_48 (by decide) ?_
        obtain rfl := Option.some.inj h
        exact jr_zret 49 (v := 0) C d_AR_neighbour_49 rfl nb_0
      · have h := jz_f c6_ h
        refine jr_iload 21 C d_AR_neighbour_21 rfl ?_
        obtain ⟨v7_, ev7_, h⟩ := jz_b h
        refine jr_callS 23 [.int a4] C d_AR_neighbour_23 (c_AR_isRouter (xz_l X) C.2.2.2.2.2.2.1  ev7_) sz_AR_isRouter tz_AR_isRouter lk_AR_51 (by decide) rfl rfl (Nat.le_of_ble_eq_true rfl) rfl ?_
        refine jr_if_eq 26 48 C d_AR_neighbour_26 (by decide) (fun c8_ => ?_) (fun c8_ => ?_)
        · have h := jz_t c8_ h
          refine jr_iconst 48 0 C d_AR_neighbour_48 (by decide) ?_
          obtain rfl := Option.some.inj h
          exact jr_zret 49 (v := 0) C d_AR_neighbour_49 rfl nb_0
        · have h := jz_f c8_ h
          refine jr_aload_n 29 C d_AR_neighbour_29 rfl ?_
          refine jr_iload_n 30 C d_AR_neighbour_30 rfl ?_
          obtain ⟨v9_, ev9_, h⟩ := jz_b h
          refine jr_callV 31 [.int a3] C d_AR_neighbour_31 (c_AR_hearingAt (xz_l X) C.2.2.2.2.2.2.1  ev9_) sz_AR_hearingAt tz_AR_hearingAt lk_AR_150 oz_AR rfl (by decide) rfl rfl (Nat.le_of_ble_eq_true rfl) rfl ?_
          refine jr_iload_n 34 C d_AR_neighbour_34 rfl ?_
          refine jr_iload_n 35 C d_AR_neighbour_35 rfl ?_
          refine jr_iload 36 C d_AR_neighbour_36 rfl ?_
          obtain ⟨v10_, ev10_, h⟩ := jz_b h
          refine jr_callVN 38 [.int a1, .int a2, .int a4] C d_AR_neighbour_38 (c_He_isMutual (xz_l X) C.2.2.2.2.2.2.1 (kr_AR_hearingAt ev9_) ev10_) sz_He_isMutual tz_He_isMutual lk_AR_154 (oz_He (kr_AR_hearingAt ev9_)) rfl (by decide) rfl rfl (Nat.le_of_ble_eq_true rfl) rfl ?_
          refine jr_if_eq 41 48 C d_AR_neighbour_41 (by decide) (fun c11_ => ?_) (fun c11_ => ?_)
          · have h := jz_t c11_ h
            refine jr_iconst 48 0 C d_AR_neighbour_48 (by decide) ?_
            obtain rfl := Option.some.inj h
            exact jr_zret 49 (v := 0) C d_AR_neighbour_49 rfl nb_0
          · have h := jz_f c11_ h
            refine jr_iconst 44 1 C d_AR_neighbour_44 (by decide) ?_
            refine jr_goto 45 49 C d_AR_neighbour_45 (by decide) ?_
            obtain rfl := Option.some.inj h
            exact jr_zret 49 (v := 1) C d_AR_neighbour_49 rfl nb_1
abbrev rm_AR_speaker : Room := { frames := 2, cells := 0, slots := 0, locals := 50 }
abbrev cd_AR_speaker : Cond := .code y_AR_speaker b_AR_speaker 4 (some .int)
def f_AR_speaker (a1 : Int32) (a2 : Int32) (a3 : Int32) (m : jz_M) : Option (Int32) :=
  (f_AR_isRouter a1 m).bind fun v1_ =>
  if v1_ = 0 then
    some (-1)
  else
    (f_AR_isCircuit a2 m).bind fun v3_ =>
    if v3_ = 0 then
      some (-1)
    else
      (f_AR_hasLevel a1 a3 m).bind fun v5_ =>
      if v5_ = 0 then
        some (-1)
      else
        (f_Wi_isAttached a1 a2 m).bind fun v7_ =>
        if ¬ v7_ = 0 then
          (f_AR_speakerSeenBy a1 a2 a3 m).bind fun v9_ =>
          some v9_
        else
          some (-1)
set_option maxHeartbeats 4000000 in
set_option maxRecDepth 100000 in
theorem c_AR_speaker {Z : cz_Z} (l : Launch) (hI : jz_I (cz_G Z)) {a1 : Int32} {a2 : Int32} {a3 : Int32} {m : jz_M} {r : Int32} (h : f_AR_speaker a1 a2 a3 m = some r) : jz_m l y_AR_speaker cd_AR_speaker rm_AR_speaker (cz_G Z) [.ref (gz_ad (cz_G Z) 0), .int a1, .int a2, .int a3] m (some (.int r)) m := by
  refine jz_met (own := R_AR) (by decide) rfl hI (Nat.le_of_ble_eq_true rfl) (fun X hX C => ?_)
  subst hX
  show jz_J X 4 (cz_G Z) _ m [(0, .ref (gz_ad (cz_G Z) 0)), (1, .int a1), (2, .int a2), (3, .int a3)] 0 []
  unfold f_AR_speaker at h
  refine jr_iload_n 0 C d_AR_speaker_0 rfl ?_
  obtain ⟨v1_, ev1_, h⟩ := jz_b h
  refine jr_callS 1 [.int a1] C d_AR_speaker_1 (c_AR_isRouter (xz_l X) C.2.2.2.2.2.2.1 ev1_) sz_AR_isRouter tz_AR_isRouter lk_AR_51 (by decide) rfl rfl (Nat.le_of_ble_eq_true rfl) rfl ?_
  refine jr_if_eq 4 35 C d_AR_speaker_4 (by decide) (fun c2_ => ?_) (fun c2_ => ?_)
  · have h := jz_t c2_ h
    refine jr_iconst 35 (-1) C d_AR_speaker_35 (by decide) ?_
    obtain rfl := Option.some.inj h
    exact jr_iret 36 (v := (-1)) C d_AR_speaker_36 rfl
  · have h := jz_f c2_ h
    refine jr_iload_n 7 C d_AR_speaker_7 rfl ?_
    obtain ⟨v3_, ev3_, h⟩ := jz_b h
    refine jr_callS 8 [.int a2] C d_AR_speaker_8 (c_AR_isCircuit (xz_l X) C.2.2.2.2.2.2.1  ev3_) sz_AR_isCircuit tz_AR_isCircuit lk_AR_59 (by decide) rfl rfl (Nat.le_of_ble_eq_true rfl) rfl ?_
    refine jr_if_eq 11 35 C d_AR_speaker_11 (by decide) (fun c4_ => ?_) (fun c4_ => ?_)
    · have h := jz_t c4_ h
      refine jr_iconst 35 (-1) C d_AR_speaker_35 (by decide) ?_
      obtain rfl := Option.some.inj h
      exact jr_iret 36 (v := (-1)) C d_AR_speaker_36 rfl
    · have h := jz_f c4_ h
      refine jr_aload_n 14 C d_AR_speaker_14 rfl ?_
      refine jr_iload_n 15 C d_AR_speaker_15 rfl ?_
      refine jr_iload_n 16 C d_AR_speaker_16 rfl ?_
      obtain ⟨v5_, ev5_, h⟩ := jz_b h
      refine jr_callV 17 [.int a1, .int a3] C d_AR_speaker_17 (c_AR_hasLevel (xz_l X) C.2.2.2.2.2.2.1  ev5_) sz_AR_hasLevel tz_AR_hasLevel lk_AR_134 oz_AR rfl (by decide) rfl rfl (Nat.le_of_ble_eq_true rfl) rfl ?_
      refine jr_if_eq 20 35 C d_AR_speaker_20 (by decide) (fun c6_ => ?_) (fun c6_ => ?_)
      · have h := jz_t c6_ h
        refine jr_iconst 35 (-1) C d_AR_speaker_35 (by decide) ?_
        obtain rfl := Option.some.inj h
        exact jr_iret 36 (v := (-1)) C d_AR_speaker_36 rfl
      · have h := jz_f c6_ h
        refine jr_aload_n 23 C d_AR_speaker_23 rfl ?_
        refine gf_AR_19 24 C d_AR_speaker_24 ?_
        refine jr_iload_n 27 C d_AR_speaker_27 rfl ?_
        refine jr_iload_n 28 C d_AR_speaker_28 rfl ?_
        obtain ⟨v7_, ev7_, h⟩ := jz_b h
        refine jr_callVN 29 [.int a1, .int a2] C d_AR_speaker_29 (c_Wi_isAttached (xz_l X) C.2.2.2.2.2.2.1  ev7_) sz_Wi_isAttached tz_Wi_isAttached lk_AR_62 oz_Wi rfl (by decide) rfl rfl (Nat.le_of_ble_eq_true rfl) rfl ?_
        refine jr_if_ne 32 37 C d_AR_speaker_32 (by decide) (fun c8_ => ?_) (fun c8_ => ?_)
        · have h := jz_t c8_ h
          refine jr_aload_n 37 C d_AR_speaker_37 rfl ?_
          refine jr_iload_n 38 C d_AR_speaker_38 rfl ?_
          refine jr_iload_n 39 C d_AR_speaker_39 rfl ?_
          refine jr_iload_n 40 C d_AR_speaker_40 rfl ?_
          obtain ⟨v9_, ev9_, h⟩ := jz_b h
          refine jr_callV 41 [.int a1, .int a2, .int a3] C d_AR_speaker_41 (c_AR_speakerSeenBy (xz_l X) C.2.2.2.2.2.2.1  ev9_) sz_AR_speakerSeenBy tz_AR_speakerSeenBy lk_AR_157 oz_AR rfl (by decide) rfl rfl (Nat.le_of_ble_eq_true rfl) rfl ?_
          obtain rfl := Option.some.inj h
          exact jr_iret 44 (v := v9_) C d_AR_speaker_44 rfl
        · have h := jz_f c8_ h
          refine jr_iconst 35 (-1) C d_AR_speaker_35 (by decide) ?_
          obtain rfl := Option.some.inj h
          exact jr_iret 36 (v := (-1)) C d_AR_speaker_36 rfl
abbrev rm_AR_isName : Room := { frames := 0, cells := 0, slots := 0, locals := 0 }
abbrev cd_AR_isName : Cond := .code y_AR_isName b_AR_isName 1 (some .boolean)
def f_AR_isName (a0 : Int32) (m : jz_M) : Option (Int32) :=
  if a0 < 0 then
    some 0
  else
    if 42 ≤ a0 then
      some 0
    else
      some 1
set_option maxHeartbeats 4000000 in
set_option maxRecDepth 100000 in
theorem c_AR_isName {Z : cz_Z} (l : Launch) (hI : jz_I (cz_G Z)) {a0 : Int32} {m : jz_M} {r : Int32} (h : f_AR_isName a0 m = some r) : jz_m l y_AR_isName cd_AR_isName rm_AR_isName (cz_G Z) [.int a0] m (some (.int r)) m := by
  refine jz_met (own := R_AR) (by decide) rfl hI (Nat.le_of_ble_eq_true rfl) (fun X hX C => ?_)
  subst hX
  show jz_J X 1 (cz_G Z) _ m [(0, .int a0)] 0 []
  unfold f_AR_isName at h
  refine jr_iload_n 0 C d_AR_isName_0 rfl ?_
  refine jr_if_lt 1 14 C d_AR_isName_1 (by decide) (fun c1_ => ?_) (fun c1_ => ?_)
  · have h := jz_t c1_ h
    refine jr_iconst 14 0 C d_AR_isName_14 (by decide) ?_
    obtain rfl := Option.some.inj h
    exact jr_zret 15 (v := 0) C d_AR_isName_15 rfl nb_0
  · have h := jz_f c1_ h
    refine jr_iload_n 4 C d_AR_isName_4 rfl ?_
    refine jr_bipush 5 42 C d_AR_isName_5 (by decide) ?_
    refine jr_icmp_ge 7 14 C d_AR_isName_7 (by decide) (fun c2_ => ?_) (fun c2_ => ?_)
    · have h := jz_t c2_ h
      refine jr_iconst 14 0 C d_AR_isName_14 (by decide) ?_
      obtain rfl := Option.some.inj h
      exact jr_zret 15 (v := 0) C d_AR_isName_15 rfl nb_0
    · have h := jz_f c2_ h
      refine jr_iconst 10 1 C d_AR_isName_10 (by decide) ?_
      refine jr_goto 11 15 C d_AR_isName_11 (by decide) ?_
      obtain rfl := Option.some.inj h
      exact jr_zret 15 (v := 1) C d_AR_isName_15 rfl nb_1
abbrev rm_Ba_tell : Room := { frames := 1, cells := 0, slots := 0, locals := 22 }
abbrev cd_Ba_tell : Cond := .code y_Ba_tell b_Ba_tell 3 (some .int)
def f_Ba_tell (o0 : Nat) (a1 : Int32) (a2 : Int32) (m : jz_M) : Option (Int32) :=
  (f_Ba_has o0 a1 m).bind fun v1_ =>
  if ¬ v1_ = 0 then
    if a2 = 0 then
      (jz_ix 42 a1).bind fun j4_ =>
      some (m (o0 + 1) j4_)
    else
      if a2 = 1 then
        (jz_ix 42 a1).bind fun j6_ =>
        some (m (o0 + 3) j6_)
      else
        if a2 = 2 then
          (jz_ix 42 a1).bind fun j8_ =>
          if (m (o0 + 5) j8_) = 0 then
            some 0
          else
            some 1
        else
          if a2 = 3 then
            (jz_ix 42 a1).bind fun j11_ =>
            some (m (o0 + 6) j11_)
          else
            if a2 = 4 then
              (jz_ix 42 a1).bind fun j13_ =>
              some (m (o0 + 7) j13_)
            else
              if a2 ≤ 4 then
                some (-1)
              else
                (jz_ix 42 a1).bind fun j15_ =>
                if (m (o0 + 7) j15_) ≤ (a2 - 5) then
                  some (-1)
                else
                  (f_Ba_linkOf o0 a1 (a2 - 5) m).bind fun v17_ =>
                  some v17_
  else
    some (-1)
set_option maxHeartbeats 4000000 in
set_option maxRecDepth 100000 in
theorem c_Ba_tell {Z : cz_Z} (l : Launch) (hI : jz_I (cz_G Z)) {o0 : Nat} {a1 : Int32} {a2 : Int32} {m : jz_M} {r : Int32} (ko0 : kz_Ba o0) (h : f_Ba_tell o0 a1 a2 m = some r) : jz_m l y_Ba_tell cd_Ba_tell rm_Ba_tell (cz_G Z) [.ref (gz_ad (cz_G Z) o0), .int a1, .int a2] m (some (.int r)) m := by
  refine jz_met (own := R_Ba) (by decide) rfl hI (Nat.le_of_ble_eq_true rfl) (fun X hX C => ?_)
  subst hX
  show jz_J X 3 (cz_G Z) _ m [(0, .ref (gz_ad (cz_G Z) o0)), (1, .int a1), (2, .int a2)] 0 []
  unfold f_Ba_tell at h
  refine jr_aload_n 0 C d_Ba_tell_0 rfl ?_
  refine jr_iload_n 1 C d_Ba_tell_1 rfl ?_
  obtain ⟨v1_, ev1_, h⟩ := jz_b h
  refine jr_callV 2 [.int a1] C d_Ba_tell_2 (c_Ba_has (xz_l X) C.2.2.2.2.2.2.1 ko0 ev1_) sz_Ba_has tz_Ba_has lk_Ba_43 (oz_Ba ko0) rfl (by decide) rfl rfl (Nat.le_of_ble_eq_true rfl) rfl ?_
  refine jr_if_ne 5 10 C d_Ba_tell_5 (by decide) (fun c2_ => ?_) (fun c2_ => ?_)
  · have h := jz_t c2_ h
    refine jr_iload_n 10 C d_Ba_tell_10 rfl ?_
    by_cases c3_ : a2 = 0
    · have h := jz_t c3_ h
      refine jr_tsIn 11 44 0 C d_Ba_tell_11 c3_ (by decide) (by decide) rfl (by decide) ?_
      refine jr_aload_n 44 C d_Ba_tell_44 rfl ?_
      refine gf_Ba_9 45 C d_Ba_tell_45 ko0 ?_
      refine jr_iload_n 48 C d_Ba_tell_48 rfl ?_
      obtain ⟨j4_, ej4_, h⟩ := jz_b h
      refine jr_iald 49 C d_Ba_tell_49 (zk_Ba_sequences ko0) ej4_ ?_
      obtain rfl := Option.some.inj h
      exact jr_iret 50 (v := (m (o0 + 1) j4_)) C d_Ba_tell_50 rfl
    · have h := jz_f c3_ h
      by_cases c5_ : a2 = 1
      · have h := jz_t c5_ h
        refine jr_tsIn 11 51 1 C d_Ba_tell_11 c5_ (by decide) (by decide) rfl (by decide) ?_
        refine jr_aload_n 51 C d_Ba_tell_51 rfl ?_
        refine gf_Ba_18 52 C d_Ba_tell_52 ko0 ?_
        refine jr_iload_n 55 C d_Ba_tell_55 rfl ?_
        obtain ⟨j6_, ej6_, h⟩ := jz_b h
        refine jr_iald 56 C d_Ba_tell_56 (zk_Ba_lives ko0) ej6_ ?_
        obtain rfl := Option.some.inj h
        exact jr_iret 57 (v := (m (o0 + 3) j6_)) C d_Ba_tell_57 rfl
      · have h := jz_f c5_ h
        by_cases c7_ : a2 = 2
        · have h := jz_t c7_ h
          refine jr_tsIn 11 58 2 C d_Ba_tell_11 c7_ (by decide) (by decide) rfl (by decide) ?_
          refine jr_aload_n 58 C d_Ba_tell_58 rfl ?_
          refine gf_Ba_24 59 C d_Ba_tell_59 ko0 ?_
          refine jr_iload_n 62 C d_Ba_tell_62 rfl ?_
          obtain ⟨j8_, ej8_, h⟩ := jz_b h
          refine jr_zald 63 C d_Ba_tell_63 (zk_Ba_exits ko0) ej8_ ?_
          refine jr_if_eq 64 71 C d_Ba_tell_64 (by decide) (fun c9_ => ?_) (fun c9_ => ?_)
          · have h := jz_t c9_ h
            refine jr_iconst 71 0 C d_Ba_tell_71 (by decide) ?_
            obtain rfl := Option.some.inj h
            exact jr_iret 72 (v := 0) C d_Ba_tell_72 rfl
          · have h := jz_f c9_ h
            refine jr_iconst 67 1 C d_Ba_tell_67 (by decide) ?_
            refine jr_goto 68 72 C d_Ba_tell_68 (by decide) ?_
            obtain rfl := Option.some.inj h
            exact jr_iret 72 (v := 1) C d_Ba_tell_72 rfl
        · have h := jz_f c7_ h
          by_cases c10_ : a2 = 3
          · have h := jz_t c10_ h
            refine jr_tsIn 11 73 3 C d_Ba_tell_11 c10_ (by decide) (by decide) rfl (by decide) ?_
            refine jr_aload_n 73 C d_Ba_tell_73 rfl ?_
            refine gf_Ba_28 74 C d_Ba_tell_74 ko0 ?_
            refine jr_iload_n 77 C d_Ba_tell_77 rfl ?_
            obtain ⟨j11_, ej11_, h⟩ := jz_b h
            refine jr_iald 78 C d_Ba_tell_78 (zk_Ba_areas ko0) ej11_ ?_
            obtain rfl := Option.some.inj h
            exact jr_iret 79 (v := (m (o0 + 6) j11_)) C d_Ba_tell_79 rfl
          · have h := jz_f c10_ h
            by_cases c12_ : a2 = 4
            · have h := jz_t c12_ h
              refine jr_tsIn 11 80 4 C d_Ba_tell_11 c12_ (by decide) (by decide) rfl (by decide) ?_
              refine jr_aload_n 80 C d_Ba_tell_80 rfl ?_
              refine gf_Ba_31 81 C d_Ba_tell_81 ko0 ?_
              refine jr_iload_n 84 C d_Ba_tell_84 rfl ?_
              obtain ⟨j13_, ej13_, h⟩ := jz_b h
              refine jr_iald 85 C d_Ba_tell_85 (zk_Ba_linkCounts ko0) ej13_ ?_
              obtain rfl := Option.some.inj h
              exact jr_iret 86 (v := (m (o0 + 7) j13_)) C d_Ba_tell_86 rfl
            · have h := jz_f c12_ h
              refine jr_tsOut 11 87 C d_Ba_tell_11 (tz_out_0_4 c3_ c5_ c7_ c10_ c12_) (by decide) ?_
              refine jr_iload_n 87 C d_Ba_tell_87 rfl ?_
              refine jr_iconst 88 4 C d_Ba_tell_88 (by decide) ?_
              refine jr_icmp_le 89 115 C d_Ba_tell_89 (by decide) (fun c14_ => ?_) (fun c14_ => ?_)
              · have h := jz_t c14_ h
                refine jr_iconst 115 (-1) C d_Ba_tell_115 (by decide) ?_
                obtain rfl := Option.some.inj h
                exact jr_iret 116 (v := (-1)) C d_Ba_tell_116 rfl
              · have h := jz_f c14_ h
                refine jr_iload_n 92 C d_Ba_tell_92 rfl ?_
                refine jr_iconst 93 5 C d_Ba_tell_93 (by decide) ?_
                refine jr_isub 94 C d_Ba_tell_94 ?_
                refine jr_aload_n 95 C d_Ba_tell_95 rfl ?_
                refine gf_Ba_31 96 C d_Ba_tell_96 ko0 ?_
                refine jr_iload_n 99 C d_Ba_tell_99 rfl ?_
                obtain ⟨j15_, ej15_, h⟩ := jz_b h
                refine jr_iald 100 C d_Ba_tell_100 (zk_Ba_linkCounts ko0) ej15_ ?_
                refine jr_icmp_ge 101 115 C d_Ba_tell_101 (by decide) (fun c16_ => ?_) (fun c16_ => ?_)
                · have h := jz_t c16_ h
                  refine jr_iconst 115 (-1) C d_Ba_tell_115 (by decide) ?_
                  obtain rfl := Option.some.inj h
                  exact jr_iret 116 (v := (-1)) C d_Ba_tell_116 rfl
                · have h := jz_f c16_ h
                  refine jr_aload_n 104 C d_Ba_tell_104 rfl ?_
                  refine jr_iload_n 105 C d_Ba_tell_105 rfl ?_
                  refine jr_iload_n 106 C d_Ba_tell_106 rfl ?_
                  refine jr_iconst 107 5 C d_Ba_tell_107 (by decide) ?_
                  refine jr_isub 108 C d_Ba_tell_108 ?_
                  obtain ⟨v17_, ev17_, h⟩ := jz_b h
                  refine jr_callV 109 [.int a1, .int (a2 - 5)] C d_Ba_tell_109 (c_Ba_linkOf (xz_l X) C.2.2.2.2.2.2.1 ko0 ev17_) sz_Ba_linkOf tz_Ba_linkOf lk_Ba_47 (oz_Ba ko0) rfl (by decide) rfl rfl (Nat.le_of_ble_eq_true rfl) rfl ?_
                  refine jr_goto 112 116 C d_Ba_tell_112 (by decide) ?_
                  obtain rfl := Option.some.inj h
                  exact jr_iret 116 (v := v17_) C d_Ba_tell_116 rfl
  · have h := jz_f c2_ h
    refine jr_iconst 8 (-1) C d_Ba_tell_8 (by decide) ?_
    obtain rfl := Option.some.inj h
    exact jr_iret 9 (v := (-1)) C d_Ba_tell_9 rfl
abbrev rm_AR_description : Room := { frames := 2, cells := 0, slots := 0, locals := 44 }
abbrev cd_AR_description : Cond := .code y_AR_description b_AR_description 5 (some .int)
def f_AR_description (a1 : Int32) (a2 : Int32) (a3 : Int32) (a4 : Int32) (m : jz_M) : Option (Int32) :=
  (f_AR_isRouter a1 m).bind fun v1_ =>
  if v1_ = 0 then
    some (-1)
  else
    (f_AR_isLevel a2 m).bind fun v3_ =>
    if v3_ = 0 then
      some (-1)
    else
      (f_AR_isName a3 m).bind fun v5_ =>
      if ¬ v5_ = 0 then
        (f_AR_baseOf a1 a2 m).bind fun v7_ =>
        (f_Ba_tell v7_ a3 a4 m).bind fun v8_ =>
        some v8_
      else
        some (-1)
set_option maxHeartbeats 4000000 in
set_option maxRecDepth 100000 in
theorem c_AR_description {Z : cz_Z} (l : Launch) (hI : jz_I (cz_G Z)) {a1 : Int32} {a2 : Int32} {a3 : Int32} {a4 : Int32} {m : jz_M} {r : Int32} (h : f_AR_description a1 a2 a3 a4 m = some r) : jz_m l y_AR_description cd_AR_description rm_AR_description (cz_G Z) [.ref (gz_ad (cz_G Z) 0), .int a1, .int a2, .int a3, .int a4] m (some (.int r)) m := by
  refine jz_met (own := R_AR) (by decide) rfl hI (Nat.le_of_ble_eq_true rfl) (fun X hX C => ?_)
  subst hX
  show jz_J X 5 (cz_G Z) _ m [(0, .ref (gz_ad (cz_G Z) 0)), (1, .int a1), (2, .int a2), (3, .int a3), (4, .int a4)] 0 []
  unfold f_AR_description at h
  refine jr_iload_n 0 C d_AR_description_0 rfl ?_
  obtain ⟨v1_, ev1_, h⟩ := jz_b h
  refine jr_callS 1 [.int a1] C d_AR_description_1 (c_AR_isRouter (xz_l X) C.2.2.2.2.2.2.1 ev1_) sz_AR_isRouter tz_AR_isRouter lk_AR_51 (by decide) rfl rfl (Nat.le_of_ble_eq_true rfl) rfl ?_
  refine jr_if_eq 4 21 C d_AR_description_4 (by decide) (fun c2_ => ?_) (fun c2_ => ?_)
  · have h := jz_t c2_ h
    refine jr_iconst 21 (-1) C d_AR_description_21 (by decide) ?_
    obtain rfl := Option.some.inj h
    exact jr_iret 22 (v := (-1)) C d_AR_description_22 rfl
  · have h := jz_f c2_ h
    refine jr_iload_n 7 C d_AR_description_7 rfl ?_
    obtain ⟨v3_, ev3_, h⟩ := jz_b h
    refine jr_callS 8 [.int a2] C d_AR_description_8 (c_AR_isLevel (xz_l X) C.2.2.2.2.2.2.1  ev3_) sz_AR_isLevel tz_AR_isLevel lk_AR_147 (by decide) rfl rfl (Nat.le_of_ble_eq_true rfl) rfl ?_
    refine jr_if_eq 11 21 C d_AR_description_11 (by decide) (fun c4_ => ?_) (fun c4_ => ?_)
    · have h := jz_t c4_ h
      refine jr_iconst 21 (-1) C d_AR_description_21 (by decide) ?_
      obtain rfl := Option.some.inj h
      exact jr_iret 22 (v := (-1)) C d_AR_description_22 rfl
    · have h := jz_f c4_ h
      refine jr_iload_n 14 C d_AR_description_14 rfl ?_
      obtain ⟨v5_, ev5_, h⟩ := jz_b h
      refine jr_callS 15 [.int a3] C d_AR_description_15 (c_AR_isName (xz_l X) C.2.2.2.2.2.2.1  ev5_) sz_AR_isName tz_AR_isName lk_AR_161 (by decide) rfl rfl (Nat.le_of_ble_eq_true rfl) rfl ?_
      refine jr_if_ne 18 23 C d_AR_description_18 (by decide) (fun c6_ => ?_) (fun c6_ => ?_)
      · have h := jz_t c6_ h
        refine jr_aload_n 23 C d_AR_description_23 rfl ?_
        refine jr_iload_n 24 C d_AR_description_24 rfl ?_
        refine jr_iload_n 25 C d_AR_description_25 rfl ?_
        obtain ⟨v7_, ev7_, h⟩ := jz_b h
        refine jr_callV 26 [.int a1, .int a2] C d_AR_description_26 (c_AR_baseOf (xz_l X) C.2.2.2.2.2.2.1  ev7_) sz_AR_baseOf tz_AR_baseOf lk_AR_87 oz_AR rfl (by decide) rfl rfl (Nat.le_of_ble_eq_true rfl) rfl ?_
        refine jr_iload_n 29 C d_AR_description_29 rfl ?_
        refine jr_iload 30 C d_AR_description_30 rfl ?_
        obtain ⟨v8_, ev8_, h⟩ := jz_b h
        refine jr_callVN 32 [.int a3, .int a4] C d_AR_description_32 (c_Ba_tell (xz_l X) C.2.2.2.2.2.2.1 (kr_AR_baseOf ev7_) ev8_) sz_Ba_tell tz_Ba_tell lk_AR_164 (oz_Ba (kr_AR_baseOf ev7_)) rfl (by decide) rfl rfl (Nat.le_of_ble_eq_true rfl) rfl ?_
        obtain rfl := Option.some.inj h
        exact jr_iret 35 (v := v8_) C d_AR_description_35 rfl
      · have h := jz_f c6_ h
        refine jr_iconst 21 (-1) C d_AR_description_21 (by decide) ?_
        obtain rfl := Option.some.inj h
        exact jr_iret 22 (v := (-1)) C d_AR_description_22 rfl
abbrev rm_Ba_marksOf : Room := { frames := 0, cells := 0, slots := 0, locals := 0 }
abbrev cd_Ba_marksOf : Cond := .code y_Ba_marksOf b_Ba_marksOf 2 (some .int)
def f_Ba_marksOf (o0 : Nat) (a1 : Int32) (m : jz_M) : Option (Int32) :=
  (jz_ix 42 a1).bind fun j1_ =>
  (jz_ix 42 a1).bind fun j2_ =>
  some ((m (o0 + 9) j1_) + ((64 : Int32) * (m (o0 + 10) j2_)))
set_option maxHeartbeats 4000000 in
set_option maxRecDepth 100000 in
theorem c_Ba_marksOf {Z : cz_Z} (l : Launch) (hI : jz_I (cz_G Z)) {o0 : Nat} {a1 : Int32} {m : jz_M} {r : Int32} (ko0 : kz_Ba o0) (h : f_Ba_marksOf o0 a1 m = some r) : jz_m l y_Ba_marksOf cd_Ba_marksOf rm_Ba_marksOf (cz_G Z) [.ref (gz_ad (cz_G Z) o0), .int a1] m (some (.int r)) m := by
  refine jz_met (own := R_Ba) (by decide) rfl hI (Nat.le_of_ble_eq_true rfl) (fun X hX C => ?_)
  subst hX
  show jz_J X 2 (cz_G Z) _ m [(0, .ref (gz_ad (cz_G Z) o0)), (1, .int a1)] 0 []
  unfold f_Ba_marksOf at h
  refine jr_aload_n 0 C d_Ba_marksOf_0 rfl ?_
  refine gf_Ba_37 1 C d_Ba_marksOf_1 ko0 ?_
  refine jr_iload_n 4 C d_Ba_marksOf_4 rfl ?_
  obtain ⟨j1_, ej1_, h⟩ := jz_b h
  refine jr_iald 5 C d_Ba_marksOf_5 (zk_Ba_due ko0) ej1_ ?_
  refine jr_bipush 6 64 C d_Ba_marksOf_6 (by decide) ?_
  refine jr_aload_n 8 C d_Ba_marksOf_8 rfl ?_
  refine gf_Ba_40 9 C d_Ba_marksOf_9 ko0 ?_
  refine jr_iload_n 12 C d_Ba_marksOf_12 rfl ?_
  obtain ⟨j2_, ej2_, h⟩ := jz_b h
  refine jr_iald 13 C d_Ba_marksOf_13 (zk_Ba_asked ko0) ej2_ ?_
  refine jr_imul 14 C d_Ba_marksOf_14 ?_
  refine jr_iadd 15 C d_Ba_marksOf_15 ?_
  obtain rfl := Option.some.inj h
  exact jr_iret 16 (v := ((m (o0 + 9) j1_) + ((64 : Int32) * (m (o0 + 10) j2_)))) C d_Ba_marksOf_16 rfl
abbrev rm_AR_marks : Room := { frames := 2, cells := 0, slots := 0, locals := 42 }
abbrev cd_AR_marks : Cond := .code y_AR_marks b_AR_marks 4 (some .int)
def f_AR_marks (a1 : Int32) (a2 : Int32) (a3 : Int32) (m : jz_M) : Option (Int32) :=
  (f_AR_isRouter a1 m).bind fun v1_ =>
  if v1_ = 0 then
    some (-1)
  else
    (f_AR_hasLevel a1 a2 m).bind fun v3_ =>
    if v3_ = 0 then
      some (-1)
    else
      (f_AR_isName a3 m).bind fun v5_ =>
      if ¬ v5_ = 0 then
        (f_AR_baseOf a1 a2 m).bind fun v7_ =>
        (f_Ba_marksOf v7_ a3 m).bind fun v8_ =>
        some v8_
      else
        some (-1)
set_option maxHeartbeats 4000000 in
set_option maxRecDepth 100000 in
theorem c_AR_marks {Z : cz_Z} (l : Launch) (hI : jz_I (cz_G Z)) {a1 : Int32} {a2 : Int32} {a3 : Int32} {m : jz_M} {r : Int32} (h : f_AR_marks a1 a2 a3 m = some r) : jz_m l y_AR_marks cd_AR_marks rm_AR_marks (cz_G Z) [.ref (gz_ad (cz_G Z) 0), .int a1, .int a2, .int a3] m (some (.int r)) m := by
  refine jz_met (own := R_AR) (by decide) rfl hI (Nat.le_of_ble_eq_true rfl) (fun X hX C => ?_)
  subst hX
  show jz_J X 4 (cz_G Z) _ m [(0, .ref (gz_ad (cz_G Z) 0)), (1, .int a1), (2, .int a2), (3, .int a3)] 0 []
  unfold f_AR_marks at h
  refine jr_iload_n 0 C d_AR_marks_0 rfl ?_
  obtain ⟨v1_, ev1_, h⟩ := jz_b h
  refine jr_callS 1 [.int a1] C d_AR_marks_1 (c_AR_isRouter (xz_l X) C.2.2.2.2.2.2.1 ev1_) sz_AR_isRouter tz_AR_isRouter lk_AR_51 (by decide) rfl rfl (Nat.le_of_ble_eq_true rfl) rfl ?_
  refine jr_if_eq 4 23 C d_AR_marks_4 (by decide) (fun c2_ => ?_) (fun c2_ => ?_)
  · have h := jz_t c2_ h
    refine jr_iconst 23 (-1) C d_AR_marks_23 (by decide) ?_
    obtain rfl := Option.some.inj h
    exact jr_iret 24 (v := (-1)) C d_AR_marks_24 rfl
  · have h := jz_f c2_ h
    refine jr_aload_n 7 C d_AR_marks_7 rfl ?_
    refine jr_iload_n 8 C d_AR_marks_8 rfl ?_
    refine jr_iload_n 9 C d_AR_marks_9 rfl ?_
    obtain ⟨v3_, ev3_, h⟩ := jz_b h
    refine jr_callV 10 [.int a1, .int a2] C d_AR_marks_10 (c_AR_hasLevel (xz_l X) C.2.2.2.2.2.2.1  ev3_) sz_AR_hasLevel tz_AR_hasLevel lk_AR_134 oz_AR rfl (by decide) rfl rfl (Nat.le_of_ble_eq_true rfl) rfl ?_
    refine jr_if_eq 13 23 C d_AR_marks_13 (by decide) (fun c4_ => ?_) (fun c4_ => ?_)
    · have h := jz_t c4_ h
      refine jr_iconst 23 (-1) C d_AR_marks_23 (by decide) ?_
      obtain rfl := Option.some.inj h
      exact jr_iret 24 (v := (-1)) C d_AR_marks_24 rfl
    · have h := jz_f c4_ h
      refine jr_iload_n 16 C d_AR_marks_16 rfl ?_
      obtain ⟨v5_, ev5_, h⟩ := jz_b h
      refine jr_callS 17 [.int a3] C d_AR_marks_17 (c_AR_isName (xz_l X) C.2.2.2.2.2.2.1  ev5_) sz_AR_isName tz_AR_isName lk_AR_161 (by decide) rfl rfl (Nat.le_of_ble_eq_true rfl) rfl ?_
      refine jr_if_ne 20 25 C d_AR_marks_20 (by decide) (fun c6_ => ?_) (fun c6_ => ?_)
      · have h := jz_t c6_ h
        refine jr_aload_n 25 C d_AR_marks_25 rfl ?_
        refine jr_iload_n 26 C d_AR_marks_26 rfl ?_
        refine jr_iload_n 27 C d_AR_marks_27 rfl ?_
        obtain ⟨v7_, ev7_, h⟩ := jz_b h
        refine jr_callV 28 [.int a1, .int a2] C d_AR_marks_28 (c_AR_baseOf (xz_l X) C.2.2.2.2.2.2.1  ev7_) sz_AR_baseOf tz_AR_baseOf lk_AR_87 oz_AR rfl (by decide) rfl rfl (Nat.le_of_ble_eq_true rfl) rfl ?_
        refine jr_iload_n 31 C d_AR_marks_31 rfl ?_
        obtain ⟨v8_, ev8_, h⟩ := jz_b h
        refine jr_callVN 32 [.int a3] C d_AR_marks_32 (c_Ba_marksOf (xz_l X) C.2.2.2.2.2.2.1 (kr_AR_baseOf ev7_) ev8_) sz_Ba_marksOf tz_Ba_marksOf lk_AR_168 (oz_Ba (kr_AR_baseOf ev7_)) rfl (by decide) rfl rfl (Nat.le_of_ble_eq_true rfl) rfl ?_
        obtain rfl := Option.some.inj h
        exact jr_iret 35 (v := v8_) C d_AR_marks_35 rfl
      · have h := jz_f c6_ h
        refine jr_iconst 23 (-1) C d_AR_marks_23 (by decide) ?_
        obtain rfl := Option.some.inj h
        exact jr_iret 24 (v := (-1)) C d_AR_marks_24 rfl
abbrev rm_Wa_nextToSettle : Room := { frames := 1, cells := 0, slots := 0, locals := 20 }
abbrev cd_Wa_nextToSettle : Cond := .code y_Wa_nextToSettle b_Wa_nextToSettle 3 (some .int)
def f_Wa_nextToSettle_49 (m : jz_M) (k4 : Int32 → Int32 → Option (Int32)) (x2 : Int32) : Option (Int32) :=
  jz_n (x2 + 1) fun x1_ =>
  k4 x2 x1_
set_option maxHeartbeats 4000000 in
set_option maxRecDepth 100000 in
theorem t_Wa_nextToSettle_49 {Z : cz_Z} {X : jz_X} {m : jz_M} {r : Int32} (C : jz_C X 3 b_Wa_nextToSettle R_Wa (some .int) rm_Wa_nextToSettle (cz_G Z)) (k4 : Int32 → Int32 → Option (Int32)) (hk4 : ∀ (x1 : Int32) (x2 : Int32), k4 x1 x2 = some r → jz_J X 3 (cz_G Z) (jz_q X (cz_G Z) (some (.int r)) m) m [(0, .ref (gz_ad (cz_G Z) 148)), (1, .int x1), (2, .int x2)] 4 []) : ∀ (x2 : Int32) , f_Wa_nextToSettle_49 m k4 x2 = some r → jz_J X 3 (cz_G Z) (jz_q X (cz_G Z) (some (.int r)) m) m [(0, .ref (gz_ad (cz_G Z) 148)), (2, .int x2)] 49 [] := by
  intro x2 h
  unfold f_Wa_nextToSettle_49 at h
  refine jr_iload_n 49 C d_Wa_nextToSettle_49 rfl ?_
  refine jr_istore_n 50 [(0, .ref (gz_ad (cz_G Z) 148)), (2, .int x2), (1, .int x2)] C d_Wa_nextToSettle_50 rfl (by decide) rfl ?_
  refine jr_goto 51 85 C d_Wa_nextToSettle_51 (by decide) ?_
  obtain ⟨x1_, ex1_, h⟩ := jz_ne h
  refine jr_iinc 85 [(0, .ref (gz_ad (cz_G Z) 148)), (2, .int x1_), (1, .int x2)] C d_Wa_nextToSettle_85 rfl (by decide) rfl (by rw [ex1_]; rfl) rfl ?_
  refine jr_goto 88 4 C d_Wa_nextToSettle_88 (by decide) ?_
  refine jr_sub [0, 2, 1] rfl ?_
  exact hk4 x2 x1_ h
def f_Wa_nextToSettle_4 (m : jz_M) : Nat → Int32 → Int32 → Option (Int32)
  | 0, _, _ => none
  | fu + 1, x1, x2 =>
    if 42 ≤ x2 then
      some x1
    else
      (jz_ix 42 x2).bind fun j2_ =>
      if ¬ (m 151 j2_) = 0 then
        jz_n (x2 + 1) fun x4_ =>
        f_Wa_nextToSettle_4 m fu x1 x4_
      else
        (jz_ix 42 x2).bind fun j5_ =>
        if 1000000 ≤ (m 149 j5_) then
          jz_n (x2 + 1) fun x7_ =>
          f_Wa_nextToSettle_4 m fu x1 x7_
        else
          if x1 < 0 then
            f_Wa_nextToSettle_49 m (f_Wa_nextToSettle_4 m fu) x2
          else
            (jz_ix 42 x2).bind fun j9_ =>
            (jz_ix 42 x1).bind fun j10_ =>
            if (m 149 j10_) ≤ (m 149 j9_) then
              (jz_ix 42 x2).bind fun j12_ =>
              (jz_ix 42 x1).bind fun j13_ =>
              if ¬ (m 149 j12_) = (m 149 j13_) then
                jz_n (x2 + 1) fun x15_ =>
                f_Wa_nextToSettle_4 m fu x1 x15_
              else
                (f_AR_partOf x1 m).bind fun v16_ =>
                if ¬ v16_ = 0 then
                  jz_n (x2 + 1) fun x18_ =>
                  f_Wa_nextToSettle_4 m fu x1 x18_
                else
                  (f_AR_partOf x2 m).bind fun v19_ =>
                  if v19_ ≤ 0 then
                    jz_n (x2 + 1) fun x21_ =>
                    f_Wa_nextToSettle_4 m fu x1 x21_
                  else
                    jz_n (x2 + 1) fun x22_ =>
                    f_Wa_nextToSettle_4 m fu x2 x22_
            else
              f_Wa_nextToSettle_49 m (f_Wa_nextToSettle_4 m fu) x2
set_option maxHeartbeats 4000000 in
set_option maxRecDepth 100000 in
theorem t_Wa_nextToSettle_4 {Z : cz_Z} {X : jz_X} {m : jz_M} {r : Int32} (C : jz_C X 3 b_Wa_nextToSettle R_Wa (some .int) rm_Wa_nextToSettle (cz_G Z)) : ∀ (fu : Nat) (x1 : Int32) (x2 : Int32) , f_Wa_nextToSettle_4 m fu x1 x2 = some r → jz_J X 3 (cz_G Z) (jz_q X (cz_G Z) (some (.int r)) m) m [(0, .ref (gz_ad (cz_G Z) 148)), (1, .int x1), (2, .int x2)] 4 [] := by
  intro fu
  induction fu with
  | zero => intro x1 x2 h; cases h
  | succ fu ih =>
    intro x1 x2 h
    rw [f_Wa_nextToSettle_4] at h
    refine jr_iload_n 4 C d_Wa_nextToSettle_4 rfl ?_
    refine jr_bipush 5 42 C d_Wa_nextToSettle_5 (by decide) ?_
    refine jr_icmp_ge 7 91 C d_Wa_nextToSettle_7 (by decide) (fun c1_ => ?_) (fun c1_ => ?_)
    · have h := jz_t c1_ h
      refine jr_iload_n 91 C d_Wa_nextToSettle_91 rfl ?_
      obtain rfl := Option.some.inj h
      exact jr_iret 92 (v := x1) C d_Wa_nextToSettle_92 rfl
    · have h := jz_f c1_ h
      refine jr_aload_n 10 C d_Wa_nextToSettle_10 rfl ?_
      refine gf_Wa_18 11 C d_Wa_nextToSettle_11 ?_
      refine jr_iload_n 14 C d_Wa_nextToSettle_14 rfl ?_
      obtain ⟨j2_, ej2_, h⟩ := jz_b h
      refine jr_zald 15 C d_Wa_nextToSettle_15 zk_Wa_settled ej2_ ?_
      refine jr_if_ne 16 85 C d_Wa_nextToSettle_16 (by decide) (fun c3_ => ?_) (fun c3_ => ?_)
      · have h := jz_t c3_ h
        obtain ⟨x4_, ex4_, h⟩ := jz_ne h
        refine jr_iinc 85 [(0, .ref (gz_ad (cz_G Z) 148)), (1, .int x1), (2, .int x4_)] C d_Wa_nextToSettle_85 rfl (by decide) rfl (by rw [ex4_]; rfl) rfl ?_
        refine jr_goto 88 4 C d_Wa_nextToSettle_88 (by decide) ?_
        refine jr_sub [0, 1, 2] rfl ?_
        exact ih x1 x4_  h
      · have h := jz_f c3_ h
        refine jr_aload_n 19 C d_Wa_nextToSettle_19 rfl ?_
        refine gf_Wa_9 20 C d_Wa_nextToSettle_20 ?_
        refine jr_iload_n 23 C d_Wa_nextToSettle_23 rfl ?_
        obtain ⟨j5_, ej5_, h⟩ := jz_b h
        refine jr_iald 24 C d_Wa_nextToSettle_24 zk_Wa_costs ej5_ ?_
        refine jr_ldc 25 1000000 C d_Wa_nextToSettle_25 lk_Wa_22 ?_
        refine jr_icmp_ge 27 85 C d_Wa_nextToSettle_27 (by decide) (fun c6_ => ?_) (fun c6_ => ?_)
        · have h := jz_t c6_ h
          obtain ⟨x7_, ex7_, h⟩ := jz_ne h
          refine jr_iinc 85 [(0, .ref (gz_ad (cz_G Z) 148)), (1, .int x1), (2, .int x7_)] C d_Wa_nextToSettle_85 rfl (by decide) rfl (by rw [ex7_]; rfl) rfl ?_
          refine jr_goto 88 4 C d_Wa_nextToSettle_88 (by decide) ?_
          refine jr_sub [0, 1, 2] rfl ?_
          exact ih x1 x7_  h
        · have h := jz_f c6_ h
          refine jr_iload_n 30 C d_Wa_nextToSettle_30 rfl ?_
          refine jr_if_lt 31 49 C d_Wa_nextToSettle_31 (by decide) (fun c8_ => ?_) (fun c8_ => ?_)
          · have h := jz_t c8_ h
            refine jr_sub [0, 2] rfl ?_
            exact t_Wa_nextToSettle_49 C (f_Wa_nextToSettle_4 m fu) ih x2 h
          · have h := jz_f c8_ h
            refine jr_aload_n 34 C d_Wa_nextToSettle_34 rfl ?_
            refine gf_Wa_9 35 C d_Wa_nextToSettle_35 ?_
            refine jr_iload_n 38 C d_Wa_nextToSettle_38 rfl ?_
            obtain ⟨j9_, ej9_, h⟩ := jz_b h
            refine jr_iald 39 C d_Wa_nextToSettle_39 zk_Wa_costs ej9_ ?_
            refine jr_aload_n 40 C d_Wa_nextToSettle_40 rfl ?_
            refine gf_Wa_9 41 C d_Wa_nextToSettle_41 ?_
            refine jr_iload_n 44 C d_Wa_nextToSettle_44 rfl ?_
            obtain ⟨j10_, ej10_, h⟩ := jz_b h
            refine jr_iald 45 C d_Wa_nextToSettle_45 zk_Wa_costs ej10_ ?_
            refine jr_icmp_ge 46 54 C d_Wa_nextToSettle_46 (by decide) (fun c11_ => ?_) (fun c11_ => ?_)
            · have h := jz_t c11_ h
              refine jr_aload_n 54 C d_Wa_nextToSettle_54 rfl ?_
              refine gf_Wa_9 55 C d_Wa_nextToSettle_55 ?_
              refine jr_iload_n 58 C d_Wa_nextToSettle_58 rfl ?_
              obtain ⟨j12_, ej12_, h⟩ := jz_b h
              refine jr_iald 59 C d_Wa_nextToSettle_59 zk_Wa_costs ej12_ ?_
              refine jr_aload_n 60 C d_Wa_nextToSettle_60 rfl ?_
              refine gf_Wa_9 61 C d_Wa_nextToSettle_61 ?_
              refine jr_iload_n 64 C d_Wa_nextToSettle_64 rfl ?_
              obtain ⟨j13_, ej13_, h⟩ := jz_b h
              refine jr_iald 65 C d_Wa_nextToSettle_65 zk_Wa_costs ej13_ ?_
              refine jr_icmp_ne 66 85 C d_Wa_nextToSettle_66 (by decide) (fun c14_ => ?_) (fun c14_ => ?_)
              · have h := jz_t c14_ h
                obtain ⟨x15_, ex15_, h⟩ := jz_ne h
                refine jr_iinc 85 [(0, .ref (gz_ad (cz_G Z) 148)), (1, .int x1), (2, .int x15_)] C d_Wa_nextToSettle_85 rfl (by decide) rfl (by rw [ex15_]; rfl) rfl ?_
                refine jr_goto 88 4 C d_Wa_nextToSettle_88 (by decide) ?_
                refine jr_sub [0, 1, 2] rfl ?_
                exact ih x1 x15_  h
              · have h := jz_f c14_ h
                refine jr_iload_n 69 C d_Wa_nextToSettle_69 rfl ?_
                obtain ⟨v16_, ev16_, h⟩ := jz_b h
                refine jr_callSN 70 [.int x1] C d_Wa_nextToSettle_70 (c_AR_partOf (xz_l X) C.2.2.2.2.2.2.1  ev16_) sz_AR_partOf tz_AR_partOf lk_Wa_31 (by decide) rfl rfl (Nat.le_of_ble_eq_true rfl) rfl ?_
                refine jr_if_ne 73 85 C d_Wa_nextToSettle_73 (by decide) (fun c17_ => ?_) (fun c17_ => ?_)
                · have h := jz_t c17_ h
                  obtain ⟨x18_, ex18_, h⟩ := jz_ne h
                  refine jr_iinc 85 [(0, .ref (gz_ad (cz_G Z) 148)), (1, .int x1), (2, .int x18_)] C d_Wa_nextToSettle_85 rfl (by decide) rfl (by rw [ex18_]; rfl) rfl ?_
                  refine jr_goto 88 4 C d_Wa_nextToSettle_88 (by decide) ?_
                  refine jr_sub [0, 1, 2] rfl ?_
                  exact ih x1 x18_  h
                · have h := jz_f c17_ h
                  refine jr_iload_n 76 C d_Wa_nextToSettle_76 rfl ?_
                  obtain ⟨v19_, ev19_, h⟩ := jz_b h
                  refine jr_callSN 77 [.int x2] C d_Wa_nextToSettle_77 (c_AR_partOf (xz_l X) C.2.2.2.2.2.2.1  ev19_) sz_AR_partOf tz_AR_partOf lk_Wa_31 (by decide) rfl rfl (Nat.le_of_ble_eq_true rfl) rfl ?_
                  refine jr_if_le 80 85 C d_Wa_nextToSettle_80 (by decide) (fun c20_ => ?_) (fun c20_ => ?_)
                  · have h := jz_t c20_ h
                    obtain ⟨x21_, ex21_, h⟩ := jz_ne h
                    refine jr_iinc 85 [(0, .ref (gz_ad (cz_G Z) 148)), (1, .int x1), (2, .int x21_)] C d_Wa_nextToSettle_85 rfl (by decide) rfl (by rw [ex21_]; rfl) rfl ?_
                    refine jr_goto 88 4 C d_Wa_nextToSettle_88 (by decide) ?_
                    refine jr_sub [0, 1, 2] rfl ?_
                    exact ih x1 x21_  h
                  · have h := jz_f c20_ h
                    refine jr_iload_n 83 C d_Wa_nextToSettle_83 rfl ?_
                    refine jr_istore_n 84 [(0, .ref (gz_ad (cz_G Z) 148)), (1, .int x2), (2, .int x2)] C d_Wa_nextToSettle_84 rfl (by decide) rfl ?_
                    obtain ⟨x22_, ex22_, h⟩ := jz_ne h
                    refine jr_iinc 85 [(0, .ref (gz_ad (cz_G Z) 148)), (1, .int x2), (2, .int x22_)] C d_Wa_nextToSettle_85 rfl (by decide) rfl (by rw [ex22_]; rfl) rfl ?_
                    refine jr_goto 88 4 C d_Wa_nextToSettle_88 (by decide) ?_
                    refine jr_sub [0, 1, 2] rfl ?_
                    exact ih x2 x22_  h
            · have h := jz_f c11_ h
              refine jr_sub [0, 2] rfl ?_
              exact t_Wa_nextToSettle_49 C (f_Wa_nextToSettle_4 m fu) ih x2 h
def f_Wa_nextToSettle (m : jz_M) : Option (Int32) :=
  f_Wa_nextToSettle_4 m 1000 (-1) 0
set_option maxHeartbeats 4000000 in
set_option maxRecDepth 100000 in
theorem c_Wa_nextToSettle {Z : cz_Z} (l : Launch) (hI : jz_I (cz_G Z)) {m : jz_M} {r : Int32} (h : f_Wa_nextToSettle m = some r) : jz_m l y_Wa_nextToSettle cd_Wa_nextToSettle rm_Wa_nextToSettle (cz_G Z) [.ref (gz_ad (cz_G Z) 148)] m (some (.int r)) m := by
  refine jz_met (own := R_Wa) (by decide) rfl hI (Nat.le_of_ble_eq_true rfl) (fun X hX C => ?_)
  subst hX
  show jz_J X 3 (cz_G Z) _ m [(0, .ref (gz_ad (cz_G Z) 148))] 0 []
  unfold f_Wa_nextToSettle at h
  refine jr_iconst 0 (-1) C d_Wa_nextToSettle_0 (by decide) ?_
  refine jr_istore_n 1 [(0, .ref (gz_ad (cz_G Z) 148)), (1, .int (-1))] C d_Wa_nextToSettle_1 rfl (by decide) rfl ?_
  refine jr_iconst 2 0 C d_Wa_nextToSettle_2 (by decide) ?_
  refine jr_istore_n 3 [(0, .ref (gz_ad (cz_G Z) 148)), (1, .int (-1)), (2, .int 0)] C d_Wa_nextToSettle_3 rfl (by decide) rfl ?_
  refine jr_sub [0, 1, 2] rfl ?_
  exact t_Wa_nextToSettle_4 C 1000 (-1) 0 h
