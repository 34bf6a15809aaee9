abbrev rm_Mo_neighbour : Room := { frames := 2, cells := 0, slots := 0, locals := 48 }
abbrev cd_Mo_neighbour : Cond := .code y_Mo_neighbour b_Mo_neighbour 5 (some .boolean)
def f_Mo_neighbour_37 (x1 : Int32) (x2 : Int32) (x3 : Int32) (x4 : Int32) (m : jz_M) : Option (Int32 × jz_M) :=
  (f_Mo_near x1 x2 x3 x4 m).bind fun v1_ =>
  if v1_ = 0 then
    some (0, m)
  else
    some (1, m)
set_option maxHeartbeats 4000000 in
set_option maxRecDepth 100000 in
theorem t_Mo_neighbour_37 {Z : cz_Z} {X : jz_X} {r : Int32 × jz_M} (C : jz_C X 5 b_Mo_neighbour R_Mo (some .boolean) rm_Mo_neighbour (mz_G Z)) : ∀ (x1 : Int32) (x2 : Int32) (x3 : Int32) (x4 : Int32) (m : jz_M) , f_Mo_neighbour_37 x1 x2 x3 x4 m = some r → jz_J X 5 (mz_G Z) (jz_q X (mz_G Z) (some (.int r.1)) r.2) m [(0, .ref (gz_ad (mz_G Z) 0)), (1, .int x1), (2, .int x2), (3, .int x3), (4, .int x4)] 37 [] := by
  intro x1 x2 x3 x4 m h
  unfold f_Mo_neighbour_37 at h
  refine jr_aload_n 37 C d_Mo_neighbour_37 rfl ?_
  refine jr_iload_n 38 C d_Mo_neighbour_38 rfl ?_
  refine jr_iload_n 39 C d_Mo_neighbour_39 rfl ?_
  refine jr_iload_n 40 C d_Mo_neighbour_40 rfl ?_
  refine jr_iload 41 C d_Mo_neighbour_41 rfl ?_
  obtain ⟨v1_, ev1_, h⟩ := jz_b h
  refine jr_callV 43 [.int x1, .int x2, .int x3, .int x4] C d_Mo_neighbour_43 (c_Mo_near (xz_l X) C.2.2.2.2.2.2.1 ev1_) sz_Mo_near tz_Mo_near lk_Mo_87 oz_Mo rfl (by decide) rfl rfl (Nat.le_of_ble_eq_true rfl) rfl ?_
  refine jr_if_eq 46 53 C d_Mo_neighbour_46 (by decide) (fun c2_ => ?_) (fun c2_ => ?_)
  · have h := jz_t c2_ h
    refine jr_iconst 53 0 C d_Mo_neighbour_53 (by decide) ?_
    obtain rfl := Option.some.inj h
    exact jr_zret 54 (v := 0) C d_Mo_neighbour_54 rfl nb_0
  · have h := jz_f c2_ h
    refine jr_iconst 49 1 C d_Mo_neighbour_49 (by decide) ?_
    refine jr_goto 50 54 C d_Mo_neighbour_50 (by decide) ?_
    obtain rfl := Option.some.inj h
    exact jr_zret 54 (v := 1) C d_Mo_neighbour_54 rfl nb_1
def f_Mo_neighbour (a1 : Int32) (a2 : Int32) (a3 : Int32) (a4 : Int32) (m : jz_M) : Option (Int32 × jz_M) :=
  jz_n (jz_up m 0 0 0) fun m1_ =>
  (f_Mo_isOne a1 m1_).bind fun v2_ =>
  if v2_ = 0 then
    some (0, m1_)
  else
    (f_Mo_isOne a2 m1_).bind fun v4_ =>
    if v4_ = 0 then
      some (0, m1_)
    else
      (f_Mo_isOne a4 m1_).bind fun v6_ =>
      if v6_ = 0 then
        some (0, m1_)
      else
        if a3 = 1 then
          f_Mo_neighbour_37 a1 a2 a3 a4 m1_
        else
          if ¬ a3 = 2 then
            some (0, m1_)
          else
            f_Mo_neighbour_37 a1 a2 a3 a4 m1_
set_option maxHeartbeats 4000000 in
set_option maxRecDepth 100000 in
theorem c_Mo_neighbour {Z : cz_Z} (l : Launch) (hI : jz_I (mz_G Z)) {a1 : Int32} {a2 : Int32} {a3 : Int32} {a4 : Int32} {m : jz_M} {r : Int32 × jz_M} (h : f_Mo_neighbour a1 a2 a3 a4 m = some r) : jz_m l y_Mo_neighbour cd_Mo_neighbour rm_Mo_neighbour (mz_G Z) [.ref (gz_ad (mz_G Z) 0), .int a1, .int a2, .int a3, .int a4] m (some (.int r.1)) r.2 := by
  refine jz_met (own := R_Mo) (by decide) rfl hI (Nat.le_of_ble_eq_true rfl) (fun X hX C => ?_)
  subst hX
  show jz_J X 5 (mz_G Z) _ m [(0, .ref (gz_ad (mz_G Z) 0)), (1, .int a1), (2, .int a2), (3, .int a3), (4, .int a4)] 0 []
  unfold f_Mo_neighbour at h
  refine jr_aload_n 0 C d_Mo_neighbour_0 rfl ?_
  refine jr_iconst 1 0 C d_Mo_neighbour_1 (by decide) ?_
  obtain ⟨m1_, em1_, h⟩ := jz_ne h
  refine pf_Mo_71 2 C d_Mo_neighbour_2 ?_
  refine jr_mem em1_ ?_
  refine jr_iload_n 5 C d_Mo_neighbour_5 rfl ?_
  obtain ⟨v2_, ev2_, h⟩ := jz_b h
  refine jr_callS 6 [.int a1] C d_Mo_neighbour_6 (c_Mo_isOne (xz_l X) C.2.2.2.2.2.2.1 ev2_) sz_Mo_isOne tz_Mo_isOne lk_Mo_91 (by decide) rfl rfl (Nat.le_of_ble_eq_true rfl) rfl ?_
  refine jr_if_eq 9 53 C d_Mo_neighbour_9 (by decide) (fun c3_ => ?_) (fun c3_ => ?_)
  · have h := jz_t c3_ h
    refine jr_iconst 53 0 C d_Mo_neighbour_53 (by decide) ?_
    obtain rfl := Option.some.inj h
    exact jr_zret 54 (v := 0) C d_Mo_neighbour_54 rfl nb_0
  · have h := jz_f c3_ h
    refine jr_iload_n 12 C d_Mo_neighbour_12 rfl ?_
    obtain ⟨v4_, ev4_, h⟩ := jz_b h
    refine jr_callS 13 [.int a2] C d_Mo_neighbour_13 (c_Mo_isOne (xz_l X) C.2.2.2.2.2.2.1  ev4_) sz_Mo_isOne tz_Mo_isOne lk_Mo_91 (by decide) rfl rfl (Nat.le_of_ble_eq_true rfl) rfl ?_
    refine jr_if_eq 16 53 C d_Mo_neighbour_16 (by decide) (fun c5_ => ?_) (fun c5_ => ?_)
    · have h := jz_t c5_ h
      refine jr_iconst 53 0 C d_Mo_neighbour_53 (by decide) ?_
      obtain rfl := Option.some.inj h
      exact jr_zret 54 (v := 0) C d_Mo_neighbour_54 rfl nb_0
    · have h := jz_f c5_ h
      refine jr_iload 19 C d_Mo_neighbour_19 rfl ?_
      obtain ⟨v6_, ev6_, h⟩ := jz_b h
      refine jr_callS 21 [.int a4] C d_Mo_neighbour_21 (c_Mo_isOne (xz_l X) C.2.2.2.2.2.2.1  ev6_) sz_Mo_isOne tz_Mo_isOne lk_Mo_91 (by decide) rfl rfl (Nat.le_of_ble_eq_true rfl) rfl ?_
      refine jr_if_eq 24 53 C d_Mo_neighbour_24 (by decide) (fun c7_ => ?_) (fun c7_ => ?_)
      · have h := jz_t c7_ h
        refine jr_iconst 53 0 C d_Mo_neighbour_53 (by decide) ?_
        obtain rfl := Option.some.inj h
        exact jr_zret 54 (v := 0) C d_Mo_neighbour_54 rfl nb_0
      · have h := jz_f c7_ h
        refine jr_iload_n 27 C d_Mo_neighbour_27 rfl ?_
        refine jr_iconst 28 1 C d_Mo_neighbour_28 (by decide) ?_
        refine jr_icmp_eq 29 37 C d_Mo_neighbour_29 (by decide) (fun c8_ => ?_) (fun c8_ => ?_)
        · have h := jz_t c8_ h
          refine jr_sub [0, 1, 2, 3, 4] rfl ?_
          exact t_Mo_neighbour_37 C  a1 a2 a3 a4 m1_ h
        · have h := jz_f c8_ h
          refine jr_iload_n 32 C d_Mo_neighbour_32 rfl ?_
          refine jr_iconst 33 2 C d_Mo_neighbour_33 (by decide) ?_
          refine jr_icmp_ne 34 53 C d_Mo_neighbour_34 (by decide) (fun c9_ => ?_) (fun c9_ => ?_)
          · have h := jz_t c9_ h
            refine jr_iconst 53 0 C d_Mo_neighbour_53 (by decide) ?_
            obtain rfl := Option.some.inj h
            exact jr_zret 54 (v := 0) C d_Mo_neighbour_54 rfl nb_0
          · have h := jz_f c9_ h
            refine jr_sub [0, 1, 2, 3, 4] rfl ?_
            exact t_Mo_neighbour_37 C  a1 a2 a3 a4 m1_ h
abbrev rm_Mo_speaker : Room := { frames := 3, cells := 0, slots := 0, locals := 75 }
abbrev cd_Mo_speaker : Cond := .code y_Mo_speaker b_Mo_speaker 4 (some .int)
def f_Mo_speaker (a1 : Int32) (a2 : Int32) (a3 : Int32) (m : jz_M) : Option (Int32 × jz_M) :=
  jz_n (jz_up m 0 0 0) fun m1_ =>
  (f_Mo_isOne a1 m1_).bind fun v2_ =>
  if v2_ = 0 then
    some ((-1), m1_)
  else
    (f_Mo_isOne a2 m1_).bind fun v4_ =>
    if v4_ = 0 then
      some ((-1), m1_)
    else
      (f_Mo_has a1 a3 m1_).bind fun v6_ =>
      if v6_ = 0 then
        some ((-1), m1_)
      else
        (f_Mo_isOn a1 a2 m1_).bind fun v8_ =>
        if v8_ = 0 then
          some ((-1), m1_)
        else
          (f_Mo_speakerOf a1 a2 a3 m1_).bind fun v10_ =>
          some (v10_, m1_)
set_option maxHeartbeats 4000000 in
set_option maxRecDepth 100000 in
theorem c_Mo_speaker {Z : cz_Z} (l : Launch) (hI : jz_I (mz_G Z)) {a1 : Int32} {a2 : Int32} {a3 : Int32} {m : jz_M} {r : Int32 × jz_M} (h : f_Mo_speaker a1 a2 a3 m = some r) : jz_m l y_Mo_speaker cd_Mo_speaker rm_Mo_speaker (mz_G Z) [.ref (gz_ad (mz_G Z) 0), .int a1, .int a2, .int a3] m (some (.int r.1)) r.2 := by
  refine jz_met (own := R_Mo) (by decide) rfl hI (Nat.le_of_ble_eq_true rfl) (fun X hX C => ?_)
  subst hX
  show jz_J X 4 (mz_G Z) _ m [(0, .ref (gz_ad (mz_G Z) 0)), (1, .int a1), (2, .int a2), (3, .int a3)] 0 []
  unfold f_Mo_speaker at h
  refine jr_aload_n 0 C d_Mo_speaker_0 rfl ?_
  refine jr_iconst 1 0 C d_Mo_speaker_1 (by decide) ?_
  obtain ⟨m1_, em1_, h⟩ := jz_ne h
  refine pf_Mo_71 2 C d_Mo_speaker_2 ?_
  refine jr_mem em1_ ?_
  refine jr_iload_n 5 C d_Mo_speaker_5 rfl ?_
  obtain ⟨v2_, ev2_, h⟩ := jz_b h
  refine jr_callS 6 [.int a1] C d_Mo_speaker_6 (c_Mo_isOne (xz_l X) C.2.2.2.2.2.2.1 ev2_) sz_Mo_isOne tz_Mo_isOne lk_Mo_91 (by decide) rfl rfl (Nat.le_of_ble_eq_true rfl) rfl ?_
  refine jr_if_eq 9 47 C d_Mo_speaker_9 (by decide) (fun c3_ => ?_) (fun c3_ => ?_)
  · have h := jz_t c3_ h
    refine jr_iconst 47 (-1) C d_Mo_speaker_47 (by decide) ?_
    obtain rfl := Option.some.inj h
    exact jr_iret 48 (v := (-1)) C d_Mo_speaker_48 rfl
  · have h := jz_f c3_ h
    refine jr_iload_n 12 C d_Mo_speaker_12 rfl ?_
    obtain ⟨v4_, ev4_, h⟩ := jz_b h
    refine jr_callS 13 [.int a2] C d_Mo_speaker_13 (c_Mo_isOne (xz_l X) C.2.2.2.2.2.2.1  ev4_) sz_Mo_isOne tz_Mo_isOne lk_Mo_91 (by decide) rfl rfl (Nat.le_of_ble_eq_true rfl) rfl ?_
    refine jr_if_eq 16 47 C d_Mo_speaker_16 (by decide) (fun c5_ => ?_) (fun c5_ => ?_)
    · have h := jz_t c5_ h
      refine jr_iconst 47 (-1) C d_Mo_speaker_47 (by decide) ?_
      obtain rfl := Option.some.inj h
      exact jr_iret 48 (v := (-1)) C d_Mo_speaker_48 rfl
    · have h := jz_f c5_ h
      refine jr_aload_n 19 C d_Mo_speaker_19 rfl ?_
      refine jr_iload_n 20 C d_Mo_speaker_20 rfl ?_
      refine jr_iload_n 21 C d_Mo_speaker_21 rfl ?_
      obtain ⟨v6_, ev6_, h⟩ := jz_b h
      refine jr_callV 22 [.int a1, .int a3] C d_Mo_speaker_22 (c_Mo_has (xz_l X) C.2.2.2.2.2.2.1  ev6_) sz_Mo_has tz_Mo_has lk_Mo_99 oz_Mo rfl (by decide) rfl rfl (Nat.le_of_ble_eq_true rfl) rfl ?_
      refine jr_if_eq 25 47 C d_Mo_speaker_25 (by decide) (fun c7_ => ?_) (fun c7_ => ?_)
      · have h := jz_t c7_ h
        refine jr_iconst 47 (-1) C d_Mo_speaker_47 (by decide) ?_
        obtain rfl := Option.some.inj h
        exact jr_iret 48 (v := (-1)) C d_Mo_speaker_48 rfl
      · have h := jz_f c7_ h
        refine jr_aload_n 28 C d_Mo_speaker_28 rfl ?_
        refine jr_iload_n 29 C d_Mo_speaker_29 rfl ?_
        refine jr_iload_n 30 C d_Mo_speaker_30 rfl ?_
        obtain ⟨v8_, ev8_, h⟩ := jz_b h
        refine jr_callV 31 [.int a1, .int a2] C d_Mo_speaker_31 (c_Mo_isOn (xz_l X) C.2.2.2.2.2.2.1  ev8_) sz_Mo_isOn tz_Mo_isOn lk_Mo_75 oz_Mo rfl (by decide) rfl rfl (Nat.le_of_ble_eq_true rfl) rfl ?_
        refine jr_if_eq 34 47 C d_Mo_speaker_34 (by decide) (fun c9_ => ?_) (fun c9_ => ?_)
        · have h := jz_t c9_ h
          refine jr_iconst 47 (-1) C d_Mo_speaker_47 (by decide) ?_
          obtain rfl := Option.some.inj h
          exact jr_iret 48 (v := (-1)) C d_Mo_speaker_48 rfl
        · have h := jz_f c9_ h
          refine jr_aload_n 37 C d_Mo_speaker_37 rfl ?_
          refine jr_iload_n 38 C d_Mo_speaker_38 rfl ?_
          refine jr_iload_n 39 C d_Mo_speaker_39 rfl ?_
          refine jr_iload_n 40 C d_Mo_speaker_40 rfl ?_
          obtain ⟨v10_, ev10_, h⟩ := jz_b h
          refine jr_callV 41 [.int a1, .int a2, .int a3] C d_Mo_speaker_41 (c_Mo_speakerOf (xz_l X) C.2.2.2.2.2.2.1  ev10_) sz_Mo_speakerOf tz_Mo_speakerOf lk_Mo_118 oz_Mo rfl (by decide) rfl rfl (Nat.le_of_ble_eq_true rfl) rfl ?_
          refine jr_goto 44 48 C d_Mo_speaker_44 (by decide) ?_
          obtain rfl := Option.some.inj h
          exact jr_iret 48 (v := v10_) C d_Mo_speaker_48 rfl
abbrev rm_Mo_isName : Room := { frames := 0, cells := 0, slots := 0, locals := 0 }
abbrev cd_Mo_isName : Cond := .code y_Mo_isName b_Mo_isName 1 (some .boolean)
def f_Mo_isName (a0 : Int32) (m : jz_M) : Option (Int32) :=
  if a0 < 0 then
    some 0
  else
    if 42 ≤ a0 then
      some 0
    else
      some 1
set_option maxHeartbeats 4000000 in
set_option maxRecDepth 100000 in
theorem c_Mo_isName {Z : cz_Z} (l : Launch) (hI : jz_I (mz_G Z)) {a0 : Int32} {m : jz_M} {r : Int32} (h : f_Mo_isName a0 m = some r) : jz_m l y_Mo_isName cd_Mo_isName rm_Mo_isName (mz_G Z) [.int a0] m (some (.int r)) m := by
  refine jz_met (own := R_Mo) (by decide) rfl hI (Nat.le_of_ble_eq_true rfl) (fun X hX C => ?_)
  subst hX
  show jz_J X 1 (mz_G Z) _ m [(0, .int a0)] 0 []
  unfold f_Mo_isName at h
  refine jr_iload_n 0 C d_Mo_isName_0 rfl ?_
  refine jr_if_lt 1 14 C d_Mo_isName_1 (by decide) (fun c1_ => ?_) (fun c1_ => ?_)
  · have h := jz_t c1_ h
    refine jr_iconst 14 0 C d_Mo_isName_14 (by decide) ?_
    obtain rfl := Option.some.inj h
    exact jr_zret 15 (v := 0) C d_Mo_isName_15 rfl nb_0
  · have h := jz_f c1_ h
    refine jr_iload_n 4 C d_Mo_isName_4 rfl ?_
    refine jr_bipush 5 42 C d_Mo_isName_5 (by decide) ?_
    refine jr_icmp_ge 7 14 C d_Mo_isName_7 (by decide) (fun c2_ => ?_) (fun c2_ => ?_)
    · have h := jz_t c2_ h
      refine jr_iconst 14 0 C d_Mo_isName_14 (by decide) ?_
      obtain rfl := Option.some.inj h
      exact jr_zret 15 (v := 0) C d_Mo_isName_15 rfl nb_0
    · have h := jz_f c2_ h
      refine jr_iconst 10 1 C d_Mo_isName_10 (by decide) ?_
      refine jr_goto 11 15 C d_Mo_isName_11 (by decide) ?_
      obtain rfl := Option.some.inj h
      exact jr_zret 15 (v := 1) C d_Mo_isName_15 rfl nb_1
abbrev rm_Mo_description : Room := { frames := 1, cells := 0, slots := 0, locals := 22 }
abbrev cd_Mo_description : Cond := .code y_Mo_description b_Mo_description 6 (some .int)
def f_Mo_description (a1 : Int32) (a2 : Int32) (a3 : Int32) (a4 : Int32) (m : jz_M) : Option (Int32 × jz_M) :=
  jz_n (jz_up m 0 0 0) fun m1_ =>
  (f_Mo_isOne a1 m1_).bind fun v2_ =>
  if v2_ = 0 then
    some ((-1), m1_)
  else
    (f_Mo_has a1 a2 m1_).bind fun v4_ =>
    if v4_ = 0 then
      some ((-1), m1_)
    else
      (f_Mo_isName a3 m1_).bind fun v6_ =>
      if v6_ = 0 then
        some ((-1), m1_)
      else
        (f_Mo_at a1 a2 a3 m1_).bind fun v8_ =>
        (jz_ix 504 v8_).bind fun j9_ =>
        if (m1_ 8 j9_) = 0 then
          some ((-1), m1_)
        else
          if 0 ≤ a4 then
            (f_Mo_at a1 a2 a3 m1_).bind fun v12_ =>
            if a4 = 0 then
              (jz_ix 504 v12_).bind fun j14_ =>
              some ((m1_ 8 j14_), m1_)
            else
              if a4 = 1 then
                (jz_ix 504 v12_).bind fun j16_ =>
                some ((m1_ 10 j16_), m1_)
              else
                if a4 = 2 then
                  (jz_ix 504 v12_).bind fun j18_ =>
                  if (m1_ 12 j18_) = 0 then
                    some (0, m1_)
                  else
                    some (1, m1_)
                else
                  if a4 = 3 then
                    (jz_ix 504 v12_).bind fun j21_ =>
                    some ((m1_ 13 j21_), m1_)
                  else
                    if a4 = 4 then
                      (jz_ix 504 v12_).bind fun j23_ =>
                      some ((m1_ 14 j23_), m1_)
                    else
                      (jz_ix 504 v12_).bind fun j24_ =>
                      if (m1_ 14 j24_) ≤ (a4 - 5) then
                        some ((-1), m1_)
                      else
                        (jz_ix 5040 ((((10 : Int32) * v12_) + a4) - 5)).bind fun j26_ =>
                        some ((m1_ 15 j26_), m1_)
          else
            some ((-1), m1_)
set_option maxHeartbeats 4000000 in
set_option maxRecDepth 100000 in
theorem c_Mo_description {Z : cz_Z} (l : Launch) (hI : jz_I (mz_G Z)) {a1 : Int32} {a2 : Int32} {a3 : Int32} {a4 : Int32} {m : jz_M} {r : Int32 × jz_M} (h : f_Mo_description a1 a2 a3 a4 m = some r) : jz_m l y_Mo_description cd_Mo_description rm_Mo_description (mz_G Z) [.ref (gz_ad (mz_G Z) 0), .int a1, .int a2, .int a3, .int a4] m (some (.int r.1)) r.2 := by
  refine jz_met (own := R_Mo) (by decide) rfl hI (Nat.le_of_ble_eq_true rfl) (fun X hX C => ?_)
  subst hX
  show jz_J X 6 (mz_G Z) _ m [(0, .ref (gz_ad (mz_G Z) 0)), (1, .int a1), (2, .int a2), (3, .int a3), (4, .int a4)] 0 []
  unfold f_Mo_description at h
  refine jr_aload_n 0 C d_Mo_description_0 rfl ?_
  refine jr_iconst 1 0 C d_Mo_description_1 (by decide) ?_
  obtain ⟨m1_, em1_, h⟩ := jz_ne h
  refine pf_Mo_71 2 C d_Mo_description_2 ?_
  refine jr_mem em1_ ?_
  refine jr_iload_n 5 C d_Mo_description_5 rfl ?_
  obtain ⟨v2_, ev2_, h⟩ := jz_b h
  refine jr_callS 6 [.int a1] C d_Mo_description_6 (c_Mo_isOne (xz_l X) C.2.2.2.2.2.2.1 ev2_) sz_Mo_isOne tz_Mo_isOne lk_Mo_91 (by decide) rfl rfl (Nat.le_of_ble_eq_true rfl) rfl ?_
  refine jr_if_eq 9 47 C d_Mo_description_9 (by decide) (fun c3_ => ?_) (fun c3_ => ?_)
  · have h := jz_t c3_ h
    refine jr_iconst 47 (-1) C d_Mo_description_47 (by decide) ?_
    obtain rfl := Option.some.inj h
    exact jr_iret 48 (v := (-1)) C d_Mo_description_48 rfl
  · have h := jz_f c3_ h
    refine jr_aload_n 12 C d_Mo_description_12 rfl ?_
    refine jr_iload_n 13 C d_Mo_description_13 rfl ?_
    refine jr_iload_n 14 C d_Mo_description_14 rfl ?_
    obtain ⟨v4_, ev4_, h⟩ := jz_b h
    refine jr_callV 15 [.int a1, .int a2] C d_Mo_description_15 (c_Mo_has (xz_l X) C.2.2.2.2.2.2.1  ev4_) sz_Mo_has tz_Mo_has lk_Mo_99 oz_Mo rfl (by decide) rfl rfl (Nat.le_of_ble_eq_true rfl) rfl ?_
    refine jr_if_eq 18 47 C d_Mo_description_18 (by decide) (fun c5_ => ?_) (fun c5_ => ?_)
    · have h := jz_t c5_ h
      refine jr_iconst 47 (-1) C d_Mo_description_47 (by decide) ?_
      obtain rfl := Option.some.inj h
      exact jr_iret 48 (v := (-1)) C d_Mo_description_48 rfl
    · have h := jz_f c5_ h
      refine jr_iload_n 21 C d_Mo_description_21 rfl ?_
      obtain ⟨v6_, ev6_, h⟩ := jz_b h
      refine jr_callS 22 [.int a3] C d_Mo_description_22 (c_Mo_isName (xz_l X) C.2.2.2.2.2.2.1  ev6_) sz_Mo_isName tz_Mo_isName lk_Mo_207 (by decide) rfl rfl (Nat.le_of_ble_eq_true rfl) rfl ?_
      refine jr_if_eq 25 47 C d_Mo_description_25 (by decide) (fun c7_ => ?_) (fun c7_ => ?_)
      · have h := jz_t c7_ h
        refine jr_iconst 47 (-1) C d_Mo_description_47 (by decide) ?_
        obtain rfl := Option.some.inj h
        exact jr_iret 48 (v := (-1)) C d_Mo_description_48 rfl
      · have h := jz_f c7_ h
        refine jr_aload_n 28 C d_Mo_description_28 rfl ?_
        refine gf_Mo_32 29 C d_Mo_description_29 ?_
        refine jr_iload_n 32 C d_Mo_description_32 rfl ?_
        refine jr_iload_n 33 C d_Mo_description_33 rfl ?_
        refine jr_iload_n 34 C d_Mo_description_34 rfl ?_
        obtain ⟨v8_, ev8_, h⟩ := jz_b h
        refine jr_callS 35 [.int a1, .int a2, .int a3] C d_Mo_description_35 (c_Mo_at (xz_l X) C.2.2.2.2.2.2.1  ev8_) sz_Mo_at tz_Mo_at lk_Mo_133 (by decide) rfl rfl (Nat.le_of_ble_eq_true rfl) rfl ?_
        obtain ⟨j9_, ej9_, h⟩ := jz_b h
        refine jr_iald 38 C d_Mo_description_38 zk_Mo_sequence ej9_ ?_
        refine jr_if_eq 39 47 C d_Mo_description_39 (by decide) (fun c10_ => ?_) (fun c10_ => ?_)
        · have h := jz_t c10_ h
          refine jr_iconst 47 (-1) C d_Mo_description_47 (by decide) ?_
          obtain rfl := Option.some.inj h
          exact jr_iret 48 (v := (-1)) C d_Mo_description_48 rfl
        · have h := jz_f c10_ h
          refine jr_iload 42 C d_Mo_description_42 rfl ?_
          refine jr_if_ge 44 49 C d_Mo_description_44 (by decide) (fun c11_ => ?_) (fun c11_ => ?_)
          · have h := jz_t c11_ h
            refine jr_iload_n 49 C d_Mo_description_49 rfl ?_
            refine jr_iload_n 50 C d_Mo_description_50 rfl ?_
            refine jr_iload_n 51 C d_Mo_description_51 rfl ?_
            obtain ⟨v12_, ev12_, h⟩ := jz_b h
            refine jr_callS 52 [.int a1, .int a2, .int a3] C d_Mo_description_52 (c_Mo_at (xz_l X) C.2.2.2.2.2.2.1  ev12_) sz_Mo_at tz_Mo_at lk_Mo_133 (by decide) rfl rfl (Nat.le_of_ble_eq_true rfl) rfl ?_
            refine jr_istore 55 [(0, .ref (gz_ad (mz_G Z) 0)), (1, .int a1), (2, .int a2), (3, .int a3), (4, .int a4), (5, .int v12_)] C d_Mo_description_55 rfl (by decide) rfl ?_
            refine jr_iload 57 C d_Mo_description_57 rfl ?_
            by_cases c13_ : a4 = 0
            · have h := jz_t c13_ h
              refine jr_tsIn 59 92 0 C d_Mo_description_59 c13_ (by decide) (by decide) rfl (by decide) ?_
              refine jr_aload_n 92 C d_Mo_description_92 rfl ?_
              refine gf_Mo_32 93 C d_Mo_description_93 ?_
              refine jr_iload 96 C d_Mo_description_96 rfl ?_
              obtain ⟨j14_, ej14_, h⟩ := jz_b h
              refine jr_iald 98 C d_Mo_description_98 zk_Mo_sequence ej14_ ?_
              obtain rfl := Option.some.inj h
              exact jr_iret 99 (v := (m1_ 8 j14_)) C d_Mo_description_99 rfl
            · have h := jz_f c13_ h
              by_cases c15_ : a4 = 1
              · have h := jz_t c15_ h
                refine jr_tsIn 59 100 1 C d_Mo_description_59 c15_ (by decide) (by decide) rfl (by decide) ?_
                refine jr_aload_n 100 C d_Mo_description_100 rfl ?_
                refine gf_Mo_38 101 C d_Mo_description_101 ?_
                refine jr_iload 104 C d_Mo_description_104 rfl ?_
                obtain ⟨j16_, ej16_, h⟩ := jz_b h
                refine jr_iald 106 C d_Mo_description_106 zk_Mo_life ej16_ ?_
                obtain rfl := Option.some.inj h
                exact jr_iret 107 (v := (m1_ 10 j16_)) C d_Mo_description_107 rfl
              · have h := jz_f c15_ h
                by_cases c17_ : a4 = 2
                · have h := jz_t c17_ h
                  refine jr_tsIn 59 108 2 C d_Mo_description_59 c17_ (by decide) (by decide) rfl (by decide) ?_
                  refine jr_aload_n 108 C d_Mo_description_108 rfl ?_
                  refine gf_Mo_44 109 C d_Mo_description_109 ?_
                  refine jr_iload 112 C d_Mo_description_112 rfl ?_
                  obtain ⟨j18_, ej18_, h⟩ := jz_b h
                  refine jr_zald 114 C d_Mo_description_114 zk_Mo_exit ej18_ ?_
                  refine jr_if_eq 115 122 C d_Mo_description_115 (by decide) (fun c19_ => ?_) (fun c19_ => ?_)
                  · have h := jz_t c19_ h
                    refine jr_iconst 122 0 C d_Mo_description_122 (by decide) ?_
                    obtain rfl := Option.some.inj h
                    exact jr_iret 123 (v := 0) C d_Mo_description_123 rfl
                  · have h := jz_f c19_ h
                    refine jr_iconst 118 1 C d_Mo_description_118 (by decide) ?_
                    refine jr_goto 119 123 C d_Mo_description_119 (by decide) ?_
                    obtain rfl := Option.some.inj h
                    exact jr_iret 123 (v := 1) C d_Mo_description_123 rfl
                · have h := jz_f c17_ h
                  by_cases c20_ : a4 = 3
                  · have h := jz_t c20_ h
                    refine jr_tsIn 59 124 3 C d_Mo_description_59 c20_ (by decide) (by decide) rfl (by decide) ?_
                    refine jr_aload_n 124 C d_Mo_description_124 rfl ?_
                    refine gf_Mo_47 125 C d_Mo_description_125 ?_
                    refine jr_iload 128 C d_Mo_description_128 rfl ?_
                    obtain ⟨j21_, ej21_, h⟩ := jz_b h
                    refine jr_iald 130 C d_Mo_description_130 zk_Mo_where ej21_ ?_
                    obtain rfl := Option.some.inj h
                    exact jr_iret 131 (v := (m1_ 13 j21_)) C d_Mo_description_131 rfl
                  · have h := jz_f c20_ h
                    by_cases c22_ : a4 = 4
                    · have h := jz_t c22_ h
                      refine jr_tsIn 59 132 4 C d_Mo_description_59 c22_ (by decide) (by decide) rfl (by decide) ?_
                      refine jr_aload_n 132 C d_Mo_description_132 rfl ?_
                      refine gf_Mo_50 133 C d_Mo_description_133 ?_
                      refine jr_iload 136 C d_Mo_description_136 rfl ?_
                      obtain ⟨j23_, ej23_, h⟩ := jz_b h
                      refine jr_iald 138 C d_Mo_description_138 zk_Mo_many ej23_ ?_
                      obtain rfl := Option.some.inj h
                      exact jr_iret 139 (v := (m1_ 14 j23_)) C d_Mo_description_139 rfl
                    · have h := jz_f c22_ h
                      refine jr_tsOut 59 140 C d_Mo_description_59 (tz_out_0_4 c13_ c15_ c17_ c20_ c22_) (by decide) ?_
                      refine jr_iload 140 C d_Mo_description_140 rfl ?_
                      refine jr_iconst 142 5 C d_Mo_description_142 (by decide) ?_
                      refine jr_isub 143 C d_Mo_description_143 ?_
                      refine jr_aload_n 144 C d_Mo_description_144 rfl ?_
                      refine gf_Mo_50 145 C d_Mo_description_145 ?_
                      refine jr_iload 148 C d_Mo_description_148 rfl ?_
                      obtain ⟨j24_, ej24_, h⟩ := jz_b h
                      refine jr_iald 150 C d_Mo_description_150 zk_Mo_many ej24_ ?_
                      refine jr_icmp_ge 151 172 C d_Mo_description_151 (by decide) (fun c25_ => ?_) (fun c25_ => ?_)
                      · have h := jz_t c25_ h
                        refine jr_iconst 172 (-1) C d_Mo_description_172 (by decide) ?_
                        obtain rfl := Option.some.inj h
                        exact jr_iret 173 (v := (-1)) C d_Mo_description_173 rfl
                      · have h := jz_f c25_ h
                        refine jr_aload_n 154 C d_Mo_description_154 rfl ?_
                        refine gf_Mo_53 155 C d_Mo_description_155 ?_
                        refine jr_bipush 158 10 C d_Mo_description_158 (by decide) ?_
                        refine jr_iload 160 C d_Mo_description_160 rfl ?_
                        refine jr_imul 162 C d_Mo_description_162 ?_
                        refine jr_iload 163 C d_Mo_description_163 rfl ?_
                        refine jr_iadd 165 C d_Mo_description_165 ?_
                        refine jr_iconst 166 5 C d_Mo_description_166 (by decide) ?_
                        refine jr_isub 167 C d_Mo_description_167 ?_
                        obtain ⟨j26_, ej26_, h⟩ := jz_b h
                        refine jr_iald 168 C d_Mo_description_168 zk_Mo_link ej26_ ?_
                        refine jr_goto 169 173 C d_Mo_description_169 (by decide) ?_
                        obtain rfl := Option.some.inj h
                        exact jr_iret 173 (v := (m1_ 15 j26_)) C d_Mo_description_173 rfl
          · have h := jz_f c11_ h
            refine jr_iconst 47 (-1) C d_Mo_description_47 (by decide) ?_
            obtain rfl := Option.some.inj h
            exact jr_iret 48 (v := (-1)) C d_Mo_description_48 rfl
abbrev rm_Mo_marks : Room := { frames := 1, cells := 0, slots := 0, locals := 22 }
abbrev cd_Mo_marks : Cond := .code y_Mo_marks b_Mo_marks 4 (some .int)
def f_Mo_marks (a1 : Int32) (a2 : Int32) (a3 : Int32) (m : jz_M) : Option (Int32 × jz_M) :=
  jz_n (jz_up m 0 0 0) fun m1_ =>
  (f_Mo_isOne a1 m1_).bind fun v2_ =>
  if v2_ = 0 then
    some ((-1), m1_)
  else
    (f_Mo_has a1 a2 m1_).bind fun v4_ =>
    if v4_ = 0 then
      some ((-1), m1_)
    else
      (f_Mo_isName a3 m1_).bind fun v6_ =>
      if v6_ = 0 then
        some ((-1), m1_)
      else
        (f_Mo_at a1 a2 a3 m1_).bind fun v8_ =>
        (jz_ix 504 v8_).bind fun j9_ =>
        (f_Mo_at a1 a2 a3 m1_).bind fun v10_ =>
        (jz_ix 504 v10_).bind fun j11_ =>
        some (((m1_ 16 j9_) + ((64 : Int32) * (m1_ 17 j11_))), m1_)
set_option maxHeartbeats 4000000 in
set_option maxRecDepth 100000 in
theorem c_Mo_marks {Z : cz_Z} (l : Launch) (hI : jz_I (mz_G Z)) {a1 : Int32} {a2 : Int32} {a3 : Int32} {m : jz_M} {r : Int32 × jz_M} (h : f_Mo_marks a1 a2 a3 m = some r) : jz_m l y_Mo_marks cd_Mo_marks rm_Mo_marks (mz_G Z) [.ref (gz_ad (mz_G Z) 0), .int a1, .int a2, .int a3] m (some (.int r.1)) r.2 := by
  refine jz_met (own := R_Mo) (by decide) rfl hI (Nat.le_of_ble_eq_true rfl) (fun X hX C => ?_)
  subst hX
  show jz_J X 4 (mz_G Z) _ m [(0, .ref (gz_ad (mz_G Z) 0)), (1, .int a1), (2, .int a2), (3, .int a3)] 0 []
  unfold f_Mo_marks at h
  refine jr_aload_n 0 C d_Mo_marks_0 rfl ?_
  refine jr_iconst 1 0 C d_Mo_marks_1 (by decide) ?_
  obtain ⟨m1_, em1_, h⟩ := jz_ne h
  refine pf_Mo_71 2 C d_Mo_marks_2 ?_
  refine jr_mem em1_ ?_
  refine jr_iload_n 5 C d_Mo_marks_5 rfl ?_
  obtain ⟨v2_, ev2_, h⟩ := jz_b h
  refine jr_callS 6 [.int a1] C d_Mo_marks_6 (c_Mo_isOne (xz_l X) C.2.2.2.2.2.2.1 ev2_) sz_Mo_isOne tz_Mo_isOne lk_Mo_91 (by decide) rfl rfl (Nat.le_of_ble_eq_true rfl) rfl ?_
  refine jr_if_eq 9 57 C d_Mo_marks_9 (by decide) (fun c3_ => ?_) (fun c3_ => ?_)
  · have h := jz_t c3_ h
    refine jr_iconst 57 (-1) C d_Mo_marks_57 (by decide) ?_
    obtain rfl := Option.some.inj h
    exact jr_iret 58 (v := (-1)) C d_Mo_marks_58 rfl
  · have h := jz_f c3_ h
    refine jr_aload_n 12 C d_Mo_marks_12 rfl ?_
    refine jr_iload_n 13 C d_Mo_marks_13 rfl ?_
    refine jr_iload_n 14 C d_Mo_marks_14 rfl ?_
    obtain ⟨v4_, ev4_, h⟩ := jz_b h
    refine jr_callV 15 [.int a1, .int a2] C d_Mo_marks_15 (c_Mo_has (xz_l X) C.2.2.2.2.2.2.1  ev4_) sz_Mo_has tz_Mo_has lk_Mo_99 oz_Mo rfl (by decide) rfl rfl (Nat.le_of_ble_eq_true rfl) rfl ?_
    refine jr_if_eq 18 57 C d_Mo_marks_18 (by decide) (fun c5_ => ?_) (fun c5_ => ?_)
    · have h := jz_t c5_ h
      refine jr_iconst 57 (-1) C d_Mo_marks_57 (by decide) ?_
      obtain rfl := Option.some.inj h
      exact jr_iret 58 (v := (-1)) C d_Mo_marks_58 rfl
    · have h := jz_f c5_ h
      refine jr_iload_n 21 C d_Mo_marks_21 rfl ?_
      obtain ⟨v6_, ev6_, h⟩ := jz_b h
      refine jr_callS 22 [.int a3] C d_Mo_marks_22 (c_Mo_isName (xz_l X) C.2.2.2.2.2.2.1  ev6_) sz_Mo_isName tz_Mo_isName lk_Mo_207 (by decide) rfl rfl (Nat.le_of_ble_eq_true rfl) rfl ?_
      refine jr_if_eq 25 57 C d_Mo_marks_25 (by decide) (fun c7_ => ?_) (fun c7_ => ?_)
      · have h := jz_t c7_ h
        refine jr_iconst 57 (-1) C d_Mo_marks_57 (by decide) ?_
        obtain rfl := Option.some.inj h
        exact jr_iret 58 (v := (-1)) C d_Mo_marks_58 rfl
      · have h := jz_f c7_ h
        refine jr_aload_n 28 C d_Mo_marks_28 rfl ?_
        refine gf_Mo_56 29 C d_Mo_marks_29 ?_
        refine jr_iload_n 32 C d_Mo_marks_32 rfl ?_
        refine jr_iload_n 33 C d_Mo_marks_33 rfl ?_
        refine jr_iload_n 34 C d_Mo_marks_34 rfl ?_
        obtain ⟨v8_, ev8_, h⟩ := jz_b h
        refine jr_callS 35 [.int a1, .int a2, .int a3] C d_Mo_marks_35 (c_Mo_at (xz_l X) C.2.2.2.2.2.2.1  ev8_) sz_Mo_at tz_Mo_at lk_Mo_133 (by decide) rfl rfl (Nat.le_of_ble_eq_true rfl) rfl ?_
        obtain ⟨j9_, ej9_, h⟩ := jz_b h
        refine jr_iald 38 C d_Mo_marks_38 zk_Mo_due ej9_ ?_
        refine jr_bipush 39 64 C d_Mo_marks_39 (by decide) ?_
        refine jr_aload_n 41 C d_Mo_marks_41 rfl ?_
        refine gf_Mo_59 42 C d_Mo_marks_42 ?_
        refine jr_iload_n 45 C d_Mo_marks_45 rfl ?_
        refine jr_iload_n 46 C d_Mo_marks_46 rfl ?_
        refine jr_iload_n 47 C d_Mo_marks_47 rfl ?_
        obtain ⟨v10_, ev10_, h⟩ := jz_b h
        refine jr_callS 48 [.int a1, .int a2, .int a3] C d_Mo_marks_48 (c_Mo_at (xz_l X) C.2.2.2.2.2.2.1  ev10_) sz_Mo_at tz_Mo_at lk_Mo_133 (by decide) rfl rfl (Nat.le_of_ble_eq_true rfl) rfl ?_
        obtain ⟨j11_, ej11_, h⟩ := jz_b h
        refine jr_iald 51 C d_Mo_marks_51 zk_Mo_asked ej11_ ?_
        refine jr_imul 52 C d_Mo_marks_52 ?_
        refine jr_iadd 53 C d_Mo_marks_53 ?_
        refine jr_goto 54 58 C d_Mo_marks_54 (by decide) ?_
        obtain rfl := Option.some.inj h
        exact jr_iret 58 (v := ((m1_ 16 j9_) + ((64 : Int32) * (m1_ 17 j11_)))) C d_Mo_marks_58 rfl
