abbrev rm_AR_isRouter : Room := { frames := 0, cells := 0, slots := 0, locals := 0 }
abbrev cd_AR_isRouter : Cond := .code y_AR_isRouter b_AR_isRouter 1 (some .boolean)
def f_AR_isRouter (a0 : Int32) (m : jz_M) : Option (Int32) :=
  if a0 < 0 then
    some 0
  else
    if 6 ≤ a0 then
      some 0
    else
      some 1
set_option maxHeartbeats 4000000 in
set_option maxRecDepth 100000 in
theorem c_AR_isRouter {Z : cz_Z} (l : Launch) (hI : jz_I (cz_G Z)) {a0 : Int32} {m : jz_M} {r : Int32} (h : f_AR_isRouter a0 m = some r) : jz_m l y_AR_isRouter cd_AR_isRouter rm_AR_isRouter (cz_G Z) [.int a0] m (some (.int r)) m := by
  refine jz_met (own := R_AR) (by decide) rfl hI (Nat.le_of_ble_eq_true rfl) (fun X hX C => ?_)
  subst hX
  show jz_J X 1 (cz_G Z) _ m [(0, .int a0)] 0 []
  unfold f_AR_isRouter at h
  refine jr_iload_n 0 C d_AR_isRouter_0 rfl ?_
  refine jr_if_lt 1 14 C d_AR_isRouter_1 (by decide) (fun c1_ => ?_) (fun c1_ => ?_)
  · have h := jz_t c1_ h
    refine jr_iconst 14 0 C d_AR_isRouter_14 (by decide) ?_
    obtain rfl := Option.some.inj h
    exact jr_zret 15 (v := 0) C d_AR_isRouter_15 rfl nb_0
  · have h := jz_f c1_ h
    refine jr_iload_n 4 C d_AR_isRouter_4 rfl ?_
    refine jr_bipush 5 6 C d_AR_isRouter_5 (by decide) ?_
    refine jr_icmp_ge 7 14 C d_AR_isRouter_7 (by decide) (fun c2_ => ?_) (fun c2_ => ?_)
    · have h := jz_t c2_ h
      refine jr_iconst 14 0 C d_AR_isRouter_14 (by decide) ?_
      obtain rfl := Option.some.inj h
      exact jr_zret 15 (v := 0) C d_AR_isRouter_15 rfl nb_0
    · have h := jz_f c2_ h
      refine jr_iconst 10 1 C d_AR_isRouter_10 (by decide) ?_
      refine jr_goto 11 15 C d_AR_isRouter_11 (by decide) ?_
      obtain rfl := Option.some.inj h
      exact jr_zret 15 (v := 1) C d_AR_isRouter_15 rfl nb_1
abbrev rm_Wi_isAttached : Room := { frames := 0, cells := 0, slots := 0, locals := 0 }
abbrev cd_Wi_isAttached : Cond := .code y_Wi_isAttached b_Wi_isAttached 3 (some .boolean)
def f_Wi_isAttached (a1 : Int32) (a2 : Int32) (m : jz_M) : Option (Int32) :=
  (jz_ix 36 ((a1 * 6) + a2)).bind fun j1_ =>
  if (m 4 j1_) ≤ 0 then
    some 0
  else
    some 1
set_option maxHeartbeats 4000000 in
set_option maxRecDepth 100000 in
theorem c_Wi_isAttached {Z : cz_Z} (l : Launch) (hI : jz_I (cz_G Z)) {a1 : Int32} {a2 : Int32} {m : jz_M} {r : Int32} (h : f_Wi_isAttached a1 a2 m = some r) : jz_m l y_Wi_isAttached cd_Wi_isAttached rm_Wi_isAttached (cz_G Z) [.ref (gz_ad (cz_G Z) 3), .int a1, .int a2] m (some (.int r)) m := by
  refine jz_met (own := R_Wi) (by decide) rfl hI (Nat.le_of_ble_eq_true rfl) (fun X hX C => ?_)
  subst hX
  show jz_J X 3 (cz_G Z) _ m [(0, .ref (gz_ad (cz_G Z) 3)), (1, .int a1), (2, .int a2)] 0 []
  unfold f_Wi_isAttached at h
  refine jr_aload_n 0 C d_Wi_isAttached_0 rfl ?_
  refine gf_Wi_9 1 C d_Wi_isAttached_1 ?_
  refine jr_iload_n 4 C d_Wi_isAttached_4 rfl ?_
  refine jr_bipush 5 6 C d_Wi_isAttached_5 (by decide) ?_
  refine jr_imul 7 C d_Wi_isAttached_7 ?_
  refine jr_iload_n 8 C d_Wi_isAttached_8 rfl ?_
  refine jr_iadd 9 C d_Wi_isAttached_9 ?_
  obtain ⟨j1_, ej1_, h⟩ := jz_b h
  refine jr_iald 10 C d_Wi_isAttached_10 zk_Wi_metrics ej1_ ?_
  refine jr_if_le 11 18 C d_Wi_isAttached_11 (by decide) (fun c2_ => ?_) (fun c2_ => ?_)
  · have h := jz_t c2_ h
    refine jr_iconst 18 0 C d_Wi_isAttached_18 (by decide) ?_
    obtain rfl := Option.some.inj h
    exact jr_zret 19 (v := 0) C d_Wi_isAttached_19 rfl nb_0
  · have h := jz_f c2_ h
    refine jr_iconst 14 1 C d_Wi_isAttached_14 (by decide) ?_
    refine jr_goto 15 19 C d_Wi_isAttached_15 (by decide) ?_
    obtain rfl := Option.some.inj h
    exact jr_zret 19 (v := 1) C d_Wi_isAttached_19 rfl nb_1
abbrev rm_Wi_circuitsOf : Room := { frames := 1, cells := 0, slots := 0, locals := 22 }
abbrev cd_Wi_circuitsOf : Cond := .code y_Wi_circuitsOf b_Wi_circuitsOf 4 (some .int)
def f_Wi_circuitsOf_4 (m : jz_M) : Nat → Int32 → Int32 → Int32 → Option (Int32)
  | 0, _, _, _ => none
  | fu + 1, x1, x2, x3 =>
    if 6 ≤ x3 then
      some x2
    else
      (f_Wi_isAttached x1 x3 m).bind fun v2_ =>
      if v2_ = 0 then
        jz_n (x3 + 1) fun x4_ =>
        f_Wi_circuitsOf_4 m fu x1 x2 x4_
      else
        jz_n (x2 ||| ((1 : Int32) <<< (x3 &&& 31))) fun x5_ =>
        jz_n (x3 + 1) fun x6_ =>
        f_Wi_circuitsOf_4 m fu x1 x5_ x6_
set_option maxHeartbeats 4000000 in
set_option maxRecDepth 100000 in
theorem t_Wi_circuitsOf_4 {Z : cz_Z} {X : jz_X} {m : jz_M} {r : Int32} (C : jz_C X 4 b_Wi_circuitsOf R_Wi (some .int) rm_Wi_circuitsOf (cz_G Z)) : ∀ (fu : Nat) (x1 : Int32) (x2 : Int32) (x3 : Int32) , f_Wi_circuitsOf_4 m fu x1 x2 x3 = some r → jz_J X 4 (cz_G Z) (jz_q X (cz_G Z) (some (.int r)) m) m [(0, .ref (gz_ad (cz_G Z) 3)), (1, .int x1), (2, .int x2), (3, .int x3)] 4 [] := by
  intro fu
  induction fu with
  | zero => intro x1 x2 x3 h; cases h
  | succ fu ih =>
    intro x1 x2 x3 h
    rw [f_Wi_circuitsOf_4] at h
    refine jr_iload_n 4 C d_Wi_circuitsOf_4 rfl ?_
    refine jr_bipush 5 6 C d_Wi_circuitsOf_5 (by decide) ?_
    refine jr_icmp_ge 7 31 C d_Wi_circuitsOf_7 (by decide) (fun c1_ => ?_) (fun c1_ => ?_)
    · have h := jz_t c1_ h
      refine jr_iload_n 31 C d_Wi_circuitsOf_31 rfl ?_
      obtain rfl := Option.some.inj h
      exact jr_iret 32 (v := x2) C d_Wi_circuitsOf_32 rfl
    · have h := jz_f c1_ h
      refine jr_aload_n 10 C d_Wi_circuitsOf_10 rfl ?_
      refine jr_iload_n 11 C d_Wi_circuitsOf_11 rfl ?_
      refine jr_iload_n 12 C d_Wi_circuitsOf_12 rfl ?_
      obtain ⟨v2_, ev2_, h⟩ := jz_b h
      refine jr_callV 13 [.int x1, .int x3] C d_Wi_circuitsOf_13 (c_Wi_isAttached (xz_l X) C.2.2.2.2.2.2.1  ev2_) sz_Wi_isAttached tz_Wi_isAttached lk_Wi_18 oz_Wi rfl (by decide) rfl rfl (Nat.le_of_ble_eq_true rfl) rfl ?_
      refine jr_if_eq 16 25 C d_Wi_circuitsOf_16 (by decide) (fun c3_ => ?_) (fun c3_ => ?_)
      · have h := jz_t c3_ h
        obtain ⟨x4_, ex4_, h⟩ := jz_ne h
        refine jr_iinc 25 [(0, .ref (gz_ad (cz_G Z) 3)), (1, .int x1), (2, .int x2), (3, .int x4_)] C d_Wi_circuitsOf_25 rfl (by decide) rfl (by rw [ex4_]; rfl) rfl ?_
        refine jr_goto 28 4 C d_Wi_circuitsOf_28 (by decide) ?_
        refine jr_sub [0, 1, 2, 3] rfl ?_
        exact ih x1 x2 x4_  h
      · have h := jz_f c3_ h
        refine jr_iload_n 19 C d_Wi_circuitsOf_19 rfl ?_
        refine jr_iconst 20 1 C d_Wi_circuitsOf_20 (by decide) ?_
        refine jr_iload_n 21 C d_Wi_circuitsOf_21 rfl ?_
        refine jr_ishl 22 C d_Wi_circuitsOf_22 ?_
        refine jr_ior 23 C d_Wi_circuitsOf_23 ?_
        obtain ⟨x5_, ex5_, h⟩ := jz_ne h
        refine jr_top ex5_ ?_
        refine jr_istore_n 24 [(0, .ref (gz_ad (cz_G Z) 3)), (1, .int x1), (2, .int x5_), (3, .int x3)] C d_Wi_circuitsOf_24 rfl (by decide) rfl ?_
        obtain ⟨x6_, ex6_, h⟩ := jz_ne h
        refine jr_iinc 25 [(0, .ref (gz_ad (cz_G Z) 3)), (1, .int x1), (2, .int x5_), (3, .int x6_)] C d_Wi_circuitsOf_25 rfl (by decide) rfl (by rw [ex6_]; rfl) rfl ?_
        refine jr_goto 28 4 C d_Wi_circuitsOf_28 (by decide) ?_
        refine jr_sub [0, 1, 2, 3] rfl ?_
        exact ih x1 x5_ x6_  h
def f_Wi_circuitsOf (a1 : Int32) (m : jz_M) : Option (Int32) :=
  f_Wi_circuitsOf_4 m 1000 a1 0 0
set_option maxHeartbeats 4000000 in
set_option maxRecDepth 100000 in
theorem c_Wi_circuitsOf {Z : cz_Z} (l : Launch) (hI : jz_I (cz_G Z)) {a1 : Int32} {m : jz_M} {r : Int32} (h : f_Wi_circuitsOf a1 m = some r) : jz_m l y_Wi_circuitsOf cd_Wi_circuitsOf rm_Wi_circuitsOf (cz_G Z) [.ref (gz_ad (cz_G Z) 3), .int a1] m (some (.int r)) m := by
  refine jz_met (own := R_Wi) (by decide) rfl hI (Nat.le_of_ble_eq_true rfl) (fun X hX C => ?_)
  subst hX
  show jz_J X 4 (cz_G Z) _ m [(0, .ref (gz_ad (cz_G Z) 3)), (1, .int a1)] 0 []
  unfold f_Wi_circuitsOf at h
  refine jr_iconst 0 0 C d_Wi_circuitsOf_0 (by decide) ?_
  refine jr_istore_n 1 [(0, .ref (gz_ad (cz_G Z) 3)), (1, .int a1), (2, .int 0)] C d_Wi_circuitsOf_1 rfl (by decide) rfl ?_
  refine jr_iconst 2 0 C d_Wi_circuitsOf_2 (by decide) ?_
  refine jr_istore_n 3 [(0, .ref (gz_ad (cz_G Z) 3)), (1, .int a1), (2, .int 0), (3, .int 0)] C d_Wi_circuitsOf_3 rfl (by decide) rfl ?_
  refine jr_sub [0, 1, 2, 3] rfl ?_
  exact t_Wi_circuitsOf_4 C 1000 a1 0 0 h
abbrev rm_AR_place : Room := { frames := 2, cells := 0, slots := 0, locals := 45 }
abbrev cd_AR_place : Cond := .code y_AR_place b_AR_place 4 (some .boolean)
def f_AR_place (a1 : Int32) (a2 : Int32) (a3 : Int32) (m : jz_M) : Option (Int32 × jz_M) :=
  (f_AR_isRouter a1 m).bind fun v1_ =>
  if v1_ = 0 then
    some (0, m)
  else
    if a2 < 0 then
      some (0, m)
    else
      if 3 ≤ a2 then
        some (0, m)
      else
        if a3 < 1 then
          some (0, m)
        else
          if a3 ≤ 3 then
            (f_Wi_circuitsOf a1 m).bind fun v7_ =>
            if v7_ = 0 then
              (jz_ix 6 a1).bind fun j9_ =>
              jz_n (jz_up m 1 j9_ a2) fun m10_ =>
              (jz_ix 6 a1).bind fun j11_ =>
              jz_n (jz_up m10_ 2 j11_ a3) fun m12_ =>
              some (1, m12_)
            else
              some (0, m)
          else
            some (0, m)
set_option maxHeartbeats 4000000 in
set_option maxRecDepth 100000 in
theorem c_AR_place {Z : cz_Z} (l : Launch) (hI : jz_I (cz_G Z)) {a1 : Int32} {a2 : Int32} {a3 : Int32} {m : jz_M} {r : Int32 × jz_M} (h : f_AR_place a1 a2 a3 m = some r) : jz_m l y_AR_place cd_AR_place rm_AR_place (cz_G Z) [.ref (gz_ad (cz_G Z) 0), .int a1, .int a2, .int a3] m (some (.int r.1)) r.2 := by
  refine jz_met (own := R_AR) (by decide) rfl hI (Nat.le_of_ble_eq_true rfl) (fun X hX C => ?_)
  subst hX
  show jz_J X 4 (cz_G Z) _ m [(0, .ref (gz_ad (cz_G Z) 0)), (1, .int a1), (2, .int a2), (3, .int a3)] 0 []
  unfold f_AR_place at h
  refine jr_iload_n 0 C d_AR_place_0 rfl ?_
  obtain ⟨v1_, ev1_, h⟩ := jz_b h
  refine jr_callS 1 [.int a1] C d_AR_place_1 (c_AR_isRouter (xz_l X) C.2.2.2.2.2.2.1 ev1_) sz_AR_isRouter tz_AR_isRouter lk_AR_51 (by decide) rfl rfl (Nat.le_of_ble_eq_true rfl) rfl ?_
  refine jr_if_eq 4 26 C d_AR_place_4 (by decide) (fun c2_ => ?_) (fun c2_ => ?_)
  · have h := jz_t c2_ h
    refine jr_iconst 26 0 C d_AR_place_26 (by decide) ?_
    obtain rfl := Option.some.inj h
    exact jr_zret 27 (v := 0) C d_AR_place_27 rfl nb_0
  · have h := jz_f c2_ h
    refine jr_iload_n 7 C d_AR_place_7 rfl ?_
    refine jr_if_lt 8 26 C d_AR_place_8 (by decide) (fun c3_ => ?_) (fun c3_ => ?_)
    · have h := jz_t c3_ h
      refine jr_iconst 26 0 C d_AR_place_26 (by decide) ?_
      obtain rfl := Option.some.inj h
      exact jr_zret 27 (v := 0) C d_AR_place_27 rfl nb_0
    · have h := jz_f c3_ h
      refine jr_iload_n 11 C d_AR_place_11 rfl ?_
      refine jr_iconst 12 3 C d_AR_place_12 (by decide) ?_
      refine jr_icmp_ge 13 26 C d_AR_place_13 (by decide) (fun c4_ => ?_) (fun c4_ => ?_)
      · have h := jz_t c4_ h
        refine jr_iconst 26 0 C d_AR_place_26 (by decide) ?_
        obtain rfl := Option.some.inj h
        exact jr_zret 27 (v := 0) C d_AR_place_27 rfl nb_0
      · have h := jz_f c4_ h
        refine jr_iload_n 16 C d_AR_place_16 rfl ?_
        refine jr_iconst 17 1 C d_AR_place_17 (by decide) ?_
        refine jr_icmp_lt 18 26 C d_AR_place_18 (by decide) (fun c5_ => ?_) (fun c5_ => ?_)
        · have h := jz_t c5_ h
          refine jr_iconst 26 0 C d_AR_place_26 (by decide) ?_
          obtain rfl := Option.some.inj h
          exact jr_zret 27 (v := 0) C d_AR_place_27 rfl nb_0
        · have h := jz_f c5_ h
          refine jr_iload_n 21 C d_AR_place_21 rfl ?_
          refine jr_iconst 22 3 C d_AR_place_22 (by decide) ?_
          refine jr_icmp_le 23 28 C d_AR_place_23 (by decide) (fun c6_ => ?_) (fun c6_ => ?_)
          · have h := jz_t c6_ h
            refine jr_aload_n 28 C d_AR_place_28 rfl ?_
            refine gf_AR_19 29 C d_AR_place_29 ?_
            refine jr_iload_n 32 C d_AR_place_32 rfl ?_
            obtain ⟨v7_, ev7_, h⟩ := jz_b h
            refine jr_callVN 33 [.int a1] C d_AR_place_33 (c_Wi_circuitsOf (xz_l X) C.2.2.2.2.2.2.1  ev7_) sz_Wi_circuitsOf tz_Wi_circuitsOf lk_AR_55 oz_Wi rfl (by decide) rfl rfl (Nat.le_of_ble_eq_true rfl) rfl ?_
            refine jr_if_eq 36 41 C d_AR_place_36 (by decide) (fun c8_ => ?_) (fun c8_ => ?_)
            · have h := jz_t c8_ h
              refine jr_aload_n 41 C d_AR_place_41 rfl ?_
              refine gf_AR_9 42 C d_AR_place_42 ?_
              refine jr_iload_n 45 C d_AR_place_45 rfl ?_
              refine jr_iload_n 46 C d_AR_place_46 rfl ?_
              obtain ⟨j9_, ej9_, h⟩ := jz_b h
              obtain ⟨m10_, em10_, h⟩ := jz_ne h
              refine jr_iast 47 C d_AR_place_47 zk_AR_areas ej9_ ?_
              refine jr_mem em10_ ?_
              refine jr_aload_n 48 C d_AR_place_48 rfl ?_
              refine gf_AR_13 49 C d_AR_place_49 ?_
              refine jr_iload_n 52 C d_AR_place_52 rfl ?_
              refine jr_iload_n 53 C d_AR_place_53 rfl ?_
              obtain ⟨j11_, ej11_, h⟩ := jz_b h
              obtain ⟨m12_, em12_, h⟩ := jz_ne h
              refine jr_iast 54 C d_AR_place_54 zk_AR_levelSets ej11_ ?_
              refine jr_mem em12_ ?_
              refine jr_iconst 55 1 C d_AR_place_55 (by decide) ?_
              obtain rfl := Option.some.inj h
              exact jr_zret 56 (v := 1) C d_AR_place_56 rfl nb_1
            · have h := jz_f c8_ h
              refine jr_iconst 39 0 C d_AR_place_39 (by decide) ?_
              obtain rfl := Option.some.inj h
              exact jr_zret 40 (v := 0) C d_AR_place_40 rfl nb_0
          · have h := jz_f c6_ h
            refine jr_iconst 26 0 C d_AR_place_26 (by decide) ?_
            obtain rfl := Option.some.inj h
            exact jr_zret 27 (v := 0) C d_AR_place_27 rfl nb_0
abbrev rm_AR_isCircuit : Room := { frames := 0, cells := 0, slots := 0, locals := 0 }
abbrev cd_AR_isCircuit : Cond := .code y_AR_isCircuit b_AR_isCircuit 1 (some .boolean)
def f_AR_isCircuit (a0 : Int32) (m : jz_M) : Option (Int32) :=
  if a0 < 0 then
    some 0
  else
    if 6 ≤ a0 then
      some 0
    else
      some 1
set_option maxHeartbeats 4000000 in
set_option maxRecDepth 100000 in
theorem c_AR_isCircuit {Z : cz_Z} (l : Launch) (hI : jz_I (cz_G Z)) {a0 : Int32} {m : jz_M} {r : Int32} (h : f_AR_isCircuit a0 m = some r) : jz_m l y_AR_isCircuit cd_AR_isCircuit rm_AR_isCircuit (cz_G Z) [.int a0] m (some (.int r)) m := by
  refine jz_met (own := R_AR) (by decide) rfl hI (Nat.le_of_ble_eq_true rfl) (fun X hX C => ?_)
  subst hX
  show jz_J X 1 (cz_G Z) _ m [(0, .int a0)] 0 []
  unfold f_AR_isCircuit at h
  refine jr_iload_n 0 C d_AR_isCircuit_0 rfl ?_
  refine jr_if_lt 1 14 C d_AR_isCircuit_1 (by decide) (fun c1_ => ?_) (fun c1_ => ?_)
  · have h := jz_t c1_ h
    refine jr_iconst 14 0 C d_AR_isCircuit_14 (by decide) ?_
    obtain rfl := Option.some.inj h
    exact jr_zret 15 (v := 0) C d_AR_isCircuit_15 rfl nb_0
  · have h := jz_f c1_ h
    refine jr_iload_n 4 C d_AR_isCircuit_4 rfl ?_
    refine jr_bipush 5 6 C d_AR_isCircuit_5 (by decide) ?_
    refine jr_icmp_ge 7 14 C d_AR_isCircuit_7 (by decide) (fun c2_ => ?_) (fun c2_ => ?_)
    · have h := jz_t c2_ h
      refine jr_iconst 14 0 C d_AR_isCircuit_14 (by decide) ?_
      obtain rfl := Option.some.inj h
      exact jr_zret 15 (v := 0) C d_AR_isCircuit_15 rfl nb_0
    · have h := jz_f c2_ h
      refine jr_iconst 10 1 C d_AR_isCircuit_10 (by decide) ?_
      refine jr_goto 11 15 C d_AR_isCircuit_11 (by decide) ?_
      obtain rfl := Option.some.inj h
      exact jr_zret 15 (v := 1) C d_AR_isCircuit_15 rfl nb_1
abbrev rm_Wi_countOn : Room := { frames := 1, cells := 0, slots := 0, locals := 22 }
abbrev cd_Wi_countOn : Cond := .code y_Wi_countOn b_Wi_countOn 4 (some .int)
def f_Wi_countOn_4 (m : jz_M) : Nat → Int32 → Int32 → Int32 → Option (Int32)
  | 0, _, _, _ => none
  | fu + 1, x1, x2, x3 =>
    if 6 ≤ x3 then
      some x2
    else
      (f_Wi_isAttached x3 x1 m).bind fun v2_ =>
      if v2_ = 0 then
        jz_n (x3 + 1) fun x4_ =>
        f_Wi_countOn_4 m fu x1 x2 x4_
      else
        jz_n (x2 + 1) fun x5_ =>
        jz_n (x3 + 1) fun x6_ =>
        f_Wi_countOn_4 m fu x1 x5_ x6_
set_option maxHeartbeats 4000000 in
set_option maxRecDepth 100000 in
theorem t_Wi_countOn_4 {Z : cz_Z} {X : jz_X} {m : jz_M} {r : Int32} (C : jz_C X 4 b_Wi_countOn R_Wi (some .int) rm_Wi_countOn (cz_G Z)) : ∀ (fu : Nat) (x1 : Int32) (x2 : Int32) (x3 : Int32) , f_Wi_countOn_4 m fu x1 x2 x3 = some r → jz_J X 4 (cz_G Z) (jz_q X (cz_G Z) (some (.int r)) m) m [(0, .ref (gz_ad (cz_G Z) 3)), (1, .int x1), (2, .int x2), (3, .int x3)] 4 [] := by
  intro fu
  induction fu with
  | zero => intro x1 x2 x3 h; cases h
  | succ fu ih =>
    intro x1 x2 x3 h
    rw [f_Wi_countOn_4] at h
    refine jr_iload_n 4 C d_Wi_countOn_4 rfl ?_
    refine jr_bipush 5 6 C d_Wi_countOn_5 (by decide) ?_
    refine jr_icmp_ge 7 28 C d_Wi_countOn_7 (by decide) (fun c1_ => ?_) (fun c1_ => ?_)
    · have h := jz_t c1_ h
      refine jr_iload_n 28 C d_Wi_countOn_28 rfl ?_
      obtain rfl := Option.some.inj h
      exact jr_iret 29 (v := x2) C d_Wi_countOn_29 rfl
    · have h := jz_f c1_ h
      refine jr_aload_n 10 C d_Wi_countOn_10 rfl ?_
      refine jr_iload_n 11 C d_Wi_countOn_11 rfl ?_
      refine jr_iload_n 12 C d_Wi_countOn_12 rfl ?_
      obtain ⟨v2_, ev2_, h⟩ := jz_b h
      refine jr_callV 13 [.int x3, .int x1] C d_Wi_countOn_13 (c_Wi_isAttached (xz_l X) C.2.2.2.2.2.2.1  ev2_) sz_Wi_isAttached tz_Wi_isAttached lk_Wi_18 oz_Wi rfl (by decide) rfl rfl (Nat.le_of_ble_eq_true rfl) rfl ?_
      refine jr_if_eq 16 22 C d_Wi_countOn_16 (by decide) (fun c3_ => ?_) (fun c3_ => ?_)
      · have h := jz_t c3_ h
        obtain ⟨x4_, ex4_, h⟩ := jz_ne h
        refine jr_iinc 22 [(0, .ref (gz_ad (cz_G Z) 3)), (1, .int x1), (2, .int x2), (3, .int x4_)] C d_Wi_countOn_22 rfl (by decide) rfl (by rw [ex4_]; rfl) rfl ?_
        refine jr_goto 25 4 C d_Wi_countOn_25 (by decide) ?_
        refine jr_sub [0, 1, 2, 3] rfl ?_
        exact ih x1 x2 x4_  h
      · have h := jz_f c3_ h
        obtain ⟨x5_, ex5_, h⟩ := jz_ne h
        refine jr_iinc 19 [(0, .ref (gz_ad (cz_G Z) 3)), (1, .int x1), (2, .int x5_), (3, .int x3)] C d_Wi_countOn_19 rfl (by decide) rfl (by rw [ex5_]; rfl) rfl ?_
        obtain ⟨x6_, ex6_, h⟩ := jz_ne h
        refine jr_iinc 22 [(0, .ref (gz_ad (cz_G Z) 3)), (1, .int x1), (2, .int x5_), (3, .int x6_)] C d_Wi_countOn_22 rfl (by decide) rfl (by rw [ex6_]; rfl) rfl ?_
        refine jr_goto 25 4 C d_Wi_countOn_25 (by decide) ?_
        refine jr_sub [0, 1, 2, 3] rfl ?_
        exact ih x1 x5_ x6_  h
def f_Wi_countOn (a1 : Int32) (m : jz_M) : Option (Int32) :=
  f_Wi_countOn_4 m 1000 a1 0 0
set_option maxHeartbeats 4000000 in
set_option maxRecDepth 100000 in
theorem c_Wi_countOn {Z : cz_Z} (l : Launch) (hI : jz_I (cz_G Z)) {a1 : Int32} {m : jz_M} {r : Int32} (h : f_Wi_countOn a1 m = some r) : jz_m l y_Wi_countOn cd_Wi_countOn rm_Wi_countOn (cz_G Z) [.ref (gz_ad (cz_G Z) 3), .int a1] m (some (.int r)) m := by
  refine jz_met (own := R_Wi) (by decide) rfl hI (Nat.le_of_ble_eq_true rfl) (fun X hX C => ?_)
  subst hX
  show jz_J X 4 (cz_G Z) _ m [(0, .ref (gz_ad (cz_G Z) 3)), (1, .int a1)] 0 []
  unfold f_Wi_countOn at h
  refine jr_iconst 0 0 C d_Wi_countOn_0 (by decide) ?_
  refine jr_istore_n 1 [(0, .ref (gz_ad (cz_G Z) 3)), (1, .int a1), (2, .int 0)] C d_Wi_countOn_1 rfl (by decide) rfl ?_
  refine jr_iconst 2 0 C d_Wi_countOn_2 (by decide) ?_
  refine jr_istore_n 3 [(0, .ref (gz_ad (cz_G Z) 3)), (1, .int a1), (2, .int 0), (3, .int 0)] C d_Wi_countOn_3 rfl (by decide) rfl ?_
  refine jr_sub [0, 1, 2, 3] rfl ?_
  exact t_Wi_countOn_4 C 1000 a1 0 0 h
abbrev rm_Wi_join : Room := { frames := 0, cells := 0, slots := 0, locals := 0 }
abbrev cd_Wi_join : Cond := .code y_Wi_join b_Wi_join 5 none
def f_Wi_join (a1 : Int32) (a2 : Int32) (a3 : Int32) (a4 : Int32) (m : jz_M) : Option (jz_M) :=
  (jz_ix 36 ((a1 * 6) + a2)).bind fun j1_ =>
  jz_n (jz_up m 4 j1_ a3) fun m2_ =>
  (jz_ix 36 ((a1 * 6) + a2)).bind fun j3_ =>
  jz_n (jz_up m2_ 5 j3_ a4) fun m4_ =>
  some m4_
set_option maxHeartbeats 4000000 in
set_option maxRecDepth 100000 in
theorem c_Wi_join {Z : cz_Z} (l : Launch) (hI : jz_I (cz_G Z)) {a1 : Int32} {a2 : Int32} {a3 : Int32} {a4 : Int32} {m : jz_M} {r : jz_M} (h : f_Wi_join a1 a2 a3 a4 m = some r) : jz_m l y_Wi_join cd_Wi_join rm_Wi_join (cz_G Z) [.ref (gz_ad (cz_G Z) 3), .int a1, .int a2, .int a3, .int a4] m none r := by
  refine jz_met (own := R_Wi) (by decide) rfl hI (Nat.le_of_ble_eq_true rfl) (fun X hX C => ?_)
  subst hX
  show jz_J X 5 (cz_G Z) _ m [(0, .ref (gz_ad (cz_G Z) 3)), (1, .int a1), (2, .int a2), (3, .int a3), (4, .int a4)] 0 []
  unfold f_Wi_join at h
  refine jr_aload_n 0 C d_Wi_join_0 rfl ?_
  refine gf_Wi_9 1 C d_Wi_join_1 ?_
  refine jr_iload_n 4 C d_Wi_join_4 rfl ?_
  refine jr_bipush 5 6 C d_Wi_join_5 (by decide) ?_
  refine jr_imul 7 C d_Wi_join_7 ?_
  refine jr_iload_n 8 C d_Wi_join_8 rfl ?_
  refine jr_iadd 9 C d_Wi_join_9 ?_
  refine jr_iload_n 10 C d_Wi_join_10 rfl ?_
  obtain ⟨j1_, ej1_, h⟩ := jz_b h
  obtain ⟨m2_, em2_, h⟩ := jz_ne h
  refine jr_iast 11 C d_Wi_join_11 zk_Wi_metrics ej1_ ?_
  refine jr_mem em2_ ?_
  refine jr_aload_n 12 C d_Wi_join_12 rfl ?_
  refine gf_Wi_15 13 C d_Wi_join_13 ?_
  refine jr_iload_n 16 C d_Wi_join_16 rfl ?_
  refine jr_bipush 17 6 C d_Wi_join_17 (by decide) ?_
  refine jr_imul 19 C d_Wi_join_19 ?_
  refine jr_iload_n 20 C d_Wi_join_20 rfl ?_
  refine jr_iadd 21 C d_Wi_join_21 ?_
  refine jr_iload 22 C d_Wi_join_22 rfl ?_
  obtain ⟨j3_, ej3_, h⟩ := jz_b h
  obtain ⟨m4_, em4_, h⟩ := jz_ne h
  refine jr_iast 24 C d_Wi_join_24 zk_Wi_priorities ej3_ ?_
  refine jr_mem em4_ ?_
  obtain rfl := Option.some.inj h
  exact jr_vret 25 C d_Wi_join_25 rfl
abbrev rm_AR_attach : Room := { frames := 2, cells := 0, slots := 0, locals := 45 }
abbrev cd_AR_attach : Cond := .code y_AR_attach b_AR_attach 5 (some .boolean)
def f_AR_attach_67 (x1 : Int32) (x2 : Int32) (x3 : Int32) (x4 : Int32) (m : jz_M) : Option (Int32 × jz_M) :=
  (f_Wi_join x1 x2 x3 x4 m).bind fun v1_ =>
  some (1, v1_)
set_option maxHeartbeats 4000000 in
set_option maxRecDepth 100000 in
theorem t_AR_attach_67 {Z : cz_Z} {X : jz_X} {r : Int32 × jz_M} (C : jz_C X 5 b_AR_attach R_AR (some .boolean) rm_AR_attach (cz_G Z)) : ∀ (x1 : Int32) (x2 : Int32) (x3 : Int32) (x4 : Int32) (m : jz_M) , f_AR_attach_67 x1 x2 x3 x4 m = some r → jz_J X 5 (cz_G Z) (jz_q X (cz_G Z) (some (.int r.1)) r.2) m [(0, .ref (gz_ad (cz_G Z) 0)), (1, .int x1), (2, .int x2), (3, .int x3), (4, .int x4)] 67 [] := by
  intro x1 x2 x3 x4 m h
  unfold f_AR_attach_67 at h
  refine jr_aload_n 67 C d_AR_attach_67 rfl ?_
  refine gf_AR_19 68 C d_AR_attach_68 ?_
  refine jr_iload_n 71 C d_AR_attach_71 rfl ?_
  refine jr_iload_n 72 C d_AR_attach_72 rfl ?_
  refine jr_iload_n 73 C d_AR_attach_73 rfl ?_
  refine jr_iload 74 C d_AR_attach_74 rfl ?_
  obtain ⟨v1_, ev1_, h⟩ := jz_b h
  refine jr_callVN 76 [.int x1, .int x2, .int x3, .int x4] C d_AR_attach_76 (c_Wi_join (xz_l X) C.2.2.2.2.2.2.1 ev1_) sz_Wi_join tz_Wi_join lk_AR_69 oz_Wi rfl (by decide) rfl rfl (Nat.le_of_ble_eq_true rfl) rfl ?_
  refine jr_iconst 79 1 C d_AR_attach_79 (by decide) ?_
  obtain rfl := Option.some.inj h
  exact jr_zret 80 (v := 1) C d_AR_attach_80 rfl nb_1
def f_AR_attach (a1 : Int32) (a2 : Int32) (a3 : Int32) (a4 : Int32) (m : jz_M) : Option (Int32 × jz_M) :=
  (f_AR_isRouter a1 m).bind fun v1_ =>
  if v1_ = 0 then
    some (0, m)
  else
    (f_AR_isCircuit a2 m).bind fun v3_ =>
    if ¬ v3_ = 0 then
      if a3 < 1 then
        some (0, m)
      else
        if 60 < a3 then
          some (0, m)
        else
          if a4 < 0 then
            some (0, m)
          else
            if a4 ≤ 100 then
              (f_Wi_isAttached a1 a2 m).bind fun v9_ =>
              if ¬ v9_ = 0 then
                f_AR_attach_67 a1 a2 a3 a4 m
              else
                (f_Wi_countOn a2 m).bind fun v11_ =>
                if v11_ < 4 then
                  f_AR_attach_67 a1 a2 a3 a4 m
                else
                  some (0, m)
            else
              some (0, m)
    else
      some (0, m)
set_option maxHeartbeats 4000000 in
set_option maxRecDepth 100000 in
theorem c_AR_attach {Z : cz_Z} (l : Launch) (hI : jz_I (cz_G Z)) {a1 : Int32} {a2 : Int32} {a3 : Int32} {a4 : Int32} {m : jz_M} {r : Int32 × jz_M} (h : f_AR_attach a1 a2 a3 a4 m = some r) : jz_m l y_AR_attach cd_AR_attach rm_AR_attach (cz_G Z) [.ref (gz_ad (cz_G Z) 0), .int a1, .int a2, .int a3, .int a4] m (some (.int r.1)) r.2 := by
  refine jz_met (own := R_AR) (by decide) rfl hI (Nat.le_of_ble_eq_true rfl) (fun X hX C => ?_)
  subst hX
  show jz_J X 5 (cz_G Z) _ m [(0, .ref (gz_ad (cz_G Z) 0)), (1, .int a1), (2, .int a2), (3, .int a3), (4, .int a4)] 0 []
  unfold f_AR_attach at h
  refine jr_iload_n 0 C d_AR_attach_0 rfl ?_
  obtain ⟨v1_, ev1_, h⟩ := jz_b h
  refine jr_callS 1 [.int a1] C d_AR_attach_1 (c_AR_isRouter (xz_l X) C.2.2.2.2.2.2.1 ev1_) sz_AR_isRouter tz_AR_isRouter lk_AR_51 (by decide) rfl rfl (Nat.le_of_ble_eq_true rfl) rfl ?_
  refine jr_if_eq 4 14 C d_AR_attach_4 (by decide) (fun c2_ => ?_) (fun c2_ => ?_)
  · have h := jz_t c2_ h
    refine jr_iconst 14 0 C d_AR_attach_14 (by decide) ?_
    obtain rfl := Option.some.inj h
    exact jr_zret 15 (v := 0) C d_AR_attach_15 rfl nb_0
  · have h := jz_f c2_ h
    refine jr_iload_n 7 C d_AR_attach_7 rfl ?_
    obtain ⟨v3_, ev3_, h⟩ := jz_b h
    refine jr_callS 8 [.int a2] C d_AR_attach_8 (c_AR_isCircuit (xz_l X) C.2.2.2.2.2.2.1  ev3_) sz_AR_isCircuit tz_AR_isCircuit lk_AR_59 (by decide) rfl rfl (Nat.le_of_ble_eq_true rfl) rfl ?_
    refine jr_if_ne 11 16 C d_AR_attach_11 (by decide) (fun c4_ => ?_) (fun c4_ => ?_)
    · have h := jz_t c4_ h
      refine jr_iload_n 16 C d_AR_attach_16 rfl ?_
      refine jr_iconst 17 1 C d_AR_attach_17 (by decide) ?_
      refine jr_icmp_lt 18 39 C d_AR_attach_18 (by decide) (fun c5_ => ?_) (fun c5_ => ?_)
      · have h := jz_t c5_ h
        refine jr_iconst 39 0 C d_AR_attach_39 (by decide) ?_
        obtain rfl := Option.some.inj h
        exact jr_zret 40 (v := 0) C d_AR_attach_40 rfl nb_0
      · have h := jz_f c5_ h
        refine jr_iload_n 21 C d_AR_attach_21 rfl ?_
        refine jr_bipush 22 60 C d_AR_attach_22 (by decide) ?_
        refine jr_icmp_gt 24 39 C d_AR_attach_24 (by decide) (fun c6_ => ?_) (fun c6_ => ?_)
        · have h := jz_t c6_ h
          refine jr_iconst 39 0 C d_AR_attach_39 (by decide) ?_
          obtain rfl := Option.some.inj h
          exact jr_zret 40 (v := 0) C d_AR_attach_40 rfl nb_0
        · have h := jz_f c6_ h
          refine jr_iload 27 C d_AR_attach_27 rfl ?_
          refine jr_if_lt 29 39 C d_AR_attach_29 (by decide) (fun c7_ => ?_) (fun c7_ => ?_)
          · have h := jz_t c7_ h
            refine jr_iconst 39 0 C d_AR_attach_39 (by decide) ?_
            obtain rfl := Option.some.inj h
            exact jr_zret 40 (v := 0) C d_AR_attach_40 rfl nb_0
          · have h := jz_f c7_ h
            refine jr_iload 32 C d_AR_attach_32 rfl ?_
            refine jr_bipush 34 100 C d_AR_attach_34 (by decide) ?_
            refine jr_icmp_le 36 41 C d_AR_attach_36 (by decide) (fun c8_ => ?_) (fun c8_ => ?_)
            · have h := jz_t c8_ h
              refine jr_aload_n 41 C d_AR_attach_41 rfl ?_
              refine gf_AR_19 42 C d_AR_attach_42 ?_
              refine jr_iload_n 45 C d_AR_attach_45 rfl ?_
              refine jr_iload_n 46 C d_AR_attach_46 rfl ?_
              obtain ⟨v9_, ev9_, h⟩ := jz_b h
              refine jr_callVN 47 [.int a1, .int a2] C d_AR_attach_47 (c_Wi_isAttached (xz_l X) C.2.2.2.2.2.2.1  ev9_) sz_Wi_isAttached tz_Wi_isAttached lk_AR_62 oz_Wi rfl (by decide) rfl rfl (Nat.le_of_ble_eq_true rfl) rfl ?_
              refine jr_if_ne 50 67 C d_AR_attach_50 (by decide) (fun c10_ => ?_) (fun c10_ => ?_)
              · have h := jz_t c10_ h
                refine jr_sub [0, 1, 2, 3, 4] rfl ?_
                exact t_AR_attach_67 C  a1 a2 a3 a4 m h
              · have h := jz_f c10_ h
                refine jr_aload_n 53 C d_AR_attach_53 rfl ?_
                refine gf_AR_19 54 C d_AR_attach_54 ?_
                refine jr_iload_n 57 C d_AR_attach_57 rfl ?_
                obtain ⟨v11_, ev11_, h⟩ := jz_b h
                refine jr_callVN 58 [.int a2] C d_AR_attach_58 (c_Wi_countOn (xz_l X) C.2.2.2.2.2.2.1  ev11_) sz_Wi_countOn tz_Wi_countOn lk_AR_66 oz_Wi rfl (by decide) rfl rfl (Nat.le_of_ble_eq_true rfl) rfl ?_
                refine jr_iconst 61 4 C d_AR_attach_61 (by decide) ?_
                refine jr_icmp_lt 62 67 C d_AR_attach_62 (by decide) (fun c12_ => ?_) (fun c12_ => ?_)
                · have h := jz_t c12_ h
                  refine jr_sub [0, 1, 2, 3, 4] rfl ?_
                  exact t_AR_attach_67 C  a1 a2 a3 a4 m h
                · have h := jz_f c12_ h
                  refine jr_iconst 65 0 C d_AR_attach_65 (by decide) ?_
                  obtain rfl := Option.some.inj h
                  exact jr_zret 66 (v := 0) C d_AR_attach_66 rfl nb_0
            · have h := jz_f c8_ h
              refine jr_iconst 39 0 C d_AR_attach_39 (by decide) ?_
              obtain rfl := Option.some.inj h
              exact jr_zret 40 (v := 0) C d_AR_attach_40 rfl nb_0
    · have h := jz_f c4_ h
      refine jr_iconst 14 0 C d_AR_attach_14 (by decide) ?_
      obtain rfl := Option.some.inj h
      exact jr_zret 15 (v := 0) C d_AR_attach_15 rfl nb_0
abbrev rm_AR_checkSender : Room := { frames := 1, cells := 0, slots := 0, locals := 22 }
abbrev cd_AR_checkSender : Cond := .code y_AR_checkSender b_AR_checkSender 3 none
def f_AR_checkSender (a1 : Int32) (a2 : Int32) (m : jz_M) : Option (Unit) :=
  (f_AR_isRouter a1 m).bind fun v1_ =>
  if v1_ = 0 then
    none
  else
    (f_AR_isCircuit a2 m).bind fun v3_ =>
    if ¬ v3_ = 0 then
      (f_Wi_isAttached a1 a2 m).bind fun v5_ =>
      if ¬ v5_ = 0 then
        some ()
      else
        none
    else
      none
set_option maxHeartbeats 4000000 in
set_option maxRecDepth 100000 in
theorem c_AR_checkSender {Z : cz_Z} (l : Launch) (hI : jz_I (cz_G Z)) {a1 : Int32} {a2 : Int32} {m : jz_M} {r : Unit} (h : f_AR_checkSender a1 a2 m = some r) : jz_m l y_AR_checkSender cd_AR_checkSender rm_AR_checkSender (cz_G Z) [.ref (gz_ad (cz_G Z) 0), .int a1, .int a2] m none m := by
  refine jz_met (own := R_AR) (by decide) rfl hI (Nat.le_of_ble_eq_true rfl) (fun X hX C => ?_)
  subst hX
  show jz_J X 3 (cz_G Z) _ m [(0, .ref (gz_ad (cz_G Z) 0)), (1, .int a1), (2, .int a2)] 0 []
  unfold f_AR_checkSender at h
  refine jr_iload_n 0 C d_AR_checkSender_0 rfl ?_
  obtain ⟨v1_, ev1_, h⟩ := jz_b h
  refine jr_callS 1 [.int a1] C d_AR_checkSender_1 (c_AR_isRouter (xz_l X) C.2.2.2.2.2.2.1 ev1_) sz_AR_isRouter tz_AR_isRouter lk_AR_51 (by decide) rfl rfl (Nat.le_of_ble_eq_true rfl) rfl ?_
  refine jr_if_eq 4 14 C d_AR_checkSender_4 (by decide) (fun c2_ => ?_) (fun c2_ => ?_)
  · have h := jz_t c2_ h
    cases h
  · have h := jz_f c2_ h
    refine jr_iload_n 7 C d_AR_checkSender_7 rfl ?_
    obtain ⟨v3_, ev3_, h⟩ := jz_b h
    refine jr_callS 8 [.int a2] C d_AR_checkSender_8 (c_AR_isCircuit (xz_l X) C.2.2.2.2.2.2.1  ev3_) sz_AR_isCircuit tz_AR_isCircuit lk_AR_59 (by decide) rfl rfl (Nat.le_of_ble_eq_true rfl) rfl ?_
    refine jr_if_ne 11 24 C d_AR_checkSender_11 (by decide) (fun c4_ => ?_) (fun c4_ => ?_)
    · have h := jz_t c4_ h
      refine jr_aload_n 24 C d_AR_checkSender_24 rfl ?_
      refine gf_AR_19 25 C d_AR_checkSender_25 ?_
      refine jr_iload_n 28 C d_AR_checkSender_28 rfl ?_
      refine jr_iload_n 29 C d_AR_checkSender_29 rfl ?_
      obtain ⟨v5_, ev5_, h⟩ := jz_b h
      refine jr_callVN 30 [.int a1, .int a2] C d_AR_checkSender_30 (c_Wi_isAttached (xz_l X) C.2.2.2.2.2.2.1  ev5_) sz_Wi_isAttached tz_Wi_isAttached lk_AR_62 oz_Wi rfl (by decide) rfl rfl (Nat.le_of_ble_eq_true rfl) rfl ?_
      refine jr_if_ne 33 46 C d_AR_checkSender_33 (by decide) (fun c6_ => ?_) (fun c6_ => ?_)
      · have h := jz_t c6_ h
        clear h
        exact jr_vret 46 C d_AR_checkSender_46 rfl
      · have h := jz_f c6_ h
        cases h
    · have h := jz_f c4_ h
      cases h
abbrev rm_AR_isMeant : Room := { frames := 0, cells := 0, slots := 0, locals := 0 }
abbrev cd_AR_isMeant : Cond := .code y_AR_isMeant b_AR_isMeant 2 (some .boolean)
def f_AR_isMeant (a0 : Int32) (a1 : Int32) (m : jz_M) : Option (Int32) :=
  if ((a1 >>> (a0 &&& 31)) &&& 1) = 0 then
    some 0
  else
    some 1
set_option maxHeartbeats 4000000 in
set_option maxRecDepth 100000 in
theorem c_AR_isMeant {Z : cz_Z} (l : Launch) (hI : jz_I (cz_G Z)) {a0 : Int32} {a1 : Int32} {m : jz_M} {r : Int32} (h : f_AR_isMeant a0 a1 m = some r) : jz_m l y_AR_isMeant cd_AR_isMeant rm_AR_isMeant (cz_G Z) [.int a0, .int a1] m (some (.int r)) m := by
  refine jz_met (own := R_AR) (by decide) rfl hI (Nat.le_of_ble_eq_true rfl) (fun X hX C => ?_)
  subst hX
  show jz_J X 2 (cz_G Z) _ m [(0, .int a0), (1, .int a1)] 0 []
  unfold f_AR_isMeant at h
  refine jr_iload_n 0 C d_AR_isMeant_0 rfl ?_
  refine jr_iload_n 1 C d_AR_isMeant_1 rfl ?_
  refine jr_ishr 2 C d_AR_isMeant_2 ?_
  refine jr_iconst 3 1 C d_AR_isMeant_3 (by decide) ?_
  refine jr_iand 4 C d_AR_isMeant_4 ?_
  refine jr_if_eq 5 12 C d_AR_isMeant_5 (by decide) (fun c1_ => ?_) (fun c1_ => ?_)
  · have h := jz_t c1_ h
    refine jr_iconst 12 0 C d_AR_isMeant_12 (by decide) ?_
    obtain rfl := Option.some.inj h
    exact jr_zret 13 (v := 0) C d_AR_isMeant_13 rfl nb_0
  · have h := jz_f c1_ h
    refine jr_iconst 8 1 C d_AR_isMeant_8 (by decide) ?_
    refine jr_goto 9 13 C d_AR_isMeant_9 (by decide) ?_
    obtain rfl := Option.some.inj h
    exact jr_zret 13 (v := 1) C d_AR_isMeant_13 rfl nb_1
abbrev rm_AR_isLevel : Room := { frames := 0, cells := 0, slots := 0, locals := 0 }
abbrev cd_AR_isLevel : Cond := .code y_AR_isLevel b_AR_isLevel 1 (some .boolean)
def f_AR_isLevel (a0 : Int32) (m : jz_M) : Option (Int32) :=
  if a0 < 1 then
    some 0
  else
    if 2 < a0 then
      some 0
    else
      some 1
set_option maxHeartbeats 4000000 in
set_option maxRecDepth 100000 in
theorem c_AR_isLevel {Z : cz_Z} (l : Launch) (hI : jz_I (cz_G Z)) {a0 : Int32} {m : jz_M} {r : Int32} (h : f_AR_isLevel a0 m = some r) : jz_m l y_AR_isLevel cd_AR_isLevel rm_AR_isLevel (cz_G Z) [.int a0] m (some (.int r)) m := by
  refine jz_met (own := R_AR) (by decide) rfl hI (Nat.le_of_ble_eq_true rfl) (fun X hX C => ?_)
  subst hX
  show jz_J X 1 (cz_G Z) _ m [(0, .int a0)] 0 []
  unfold f_AR_isLevel at h
  refine jr_iload_n 0 C d_AR_isLevel_0 rfl ?_
  refine jr_iconst 1 1 C d_AR_isLevel_1 (by decide) ?_
  refine jr_icmp_lt 2 14 C d_AR_isLevel_2 (by decide) (fun c1_ => ?_) (fun c1_ => ?_)
  · have h := jz_t c1_ h
    refine jr_iconst 14 0 C d_AR_isLevel_14 (by decide) ?_
    obtain rfl := Option.some.inj h
    exact jr_zret 15 (v := 0) C d_AR_isLevel_15 rfl nb_0
  · have h := jz_f c1_ h
    refine jr_iload_n 5 C d_AR_isLevel_5 rfl ?_
    refine jr_iconst 6 2 C d_AR_isLevel_6 (by decide) ?_
    refine jr_icmp_gt 7 14 C d_AR_isLevel_7 (by decide) (fun c2_ => ?_) (fun c2_ => ?_)
    · have h := jz_t c2_ h
      refine jr_iconst 14 0 C d_AR_isLevel_14 (by decide) ?_
      obtain rfl := Option.some.inj h
      exact jr_zret 15 (v := 0) C d_AR_isLevel_15 rfl nb_0
    · have h := jz_f c2_ h
      refine jr_iconst 10 1 C d_AR_isLevel_10 (by decide) ?_
      refine jr_goto 11 15 C d_AR_isLevel_11 (by decide) ?_
      obtain rfl := Option.some.inj h
      exact jr_zret 15 (v := 1) C d_AR_isLevel_15 rfl nb_1
abbrev rm_AR_hasLevel : Room := { frames := 1, cells := 0, slots := 0, locals := 20 }
abbrev cd_AR_hasLevel : Cond := .code y_AR_hasLevel b_AR_hasLevel 3 (some .boolean)
def f_AR_hasLevel (a1 : Int32) (a2 : Int32) (m : jz_M) : Option (Int32) :=
  (f_AR_isLevel a2 m).bind fun v1_ =>
  if v1_ = 0 then
    some 0
  else
    (jz_ix 6 a1).bind fun j3_ =>
    if ((m 2 j3_) &&& a2) = 0 then
      some 0
    else
      some 1
set_option maxHeartbeats 4000000 in
set_option maxRecDepth 100000 in
theorem c_AR_hasLevel {Z : cz_Z} (l : Launch) (hI : jz_I (cz_G Z)) {a1 : Int32} {a2 : Int32} {m : jz_M} {r : Int32} (h : f_AR_hasLevel a1 a2 m = some r) : jz_m l y_AR_hasLevel cd_AR_hasLevel rm_AR_hasLevel (cz_G Z) [.ref (gz_ad (cz_G Z) 0), .int a1, .int a2] m (some (.int r)) m := by
  refine jz_met (own := R_AR) (by decide) rfl hI (Nat.le_of_ble_eq_true rfl) (fun X hX C => ?_)
  subst hX
  show jz_J X 3 (cz_G Z) _ m [(0, .ref (gz_ad (cz_G Z) 0)), (1, .int a1), (2, .int a2)] 0 []
  unfold f_AR_hasLevel at h
  refine jr_iload_n 0 C d_AR_hasLevel_0 rfl ?_
  obtain ⟨v1_, ev1_, h⟩ := jz_b h
  refine jr_callS 1 [.int a2] C d_AR_hasLevel_1 (c_AR_isLevel (xz_l X) C.2.2.2.2.2.2.1 ev1_) sz_AR_isLevel tz_AR_isLevel lk_AR_147 (by decide) rfl rfl (Nat.le_of_ble_eq_true rfl) rfl ?_
  refine jr_if_eq 4 22 C d_AR_hasLevel_4 (by decide) (fun c2_ => ?_) (fun c2_ => ?_)
  · have h := jz_t c2_ h
    refine jr_iconst 22 0 C d_AR_hasLevel_22 (by decide) ?_
    obtain rfl := Option.some.inj h
    exact jr_zret 23 (v := 0) C d_AR_hasLevel_23 rfl nb_0
  · have h := jz_f c2_ h
    refine jr_aload_n 7 C d_AR_hasLevel_7 rfl ?_
    refine gf_AR_13 8 C d_AR_hasLevel_8 ?_
    refine jr_iload_n 11 C d_AR_hasLevel_11 rfl ?_
    obtain ⟨j3_, ej3_, h⟩ := jz_b h
    refine jr_iald 12 C d_AR_hasLevel_12 zk_AR_levelSets ej3_ ?_
    refine jr_iload_n 13 C d_AR_hasLevel_13 rfl ?_
    refine jr_iand 14 C d_AR_hasLevel_14 ?_
    refine jr_if_eq 15 22 C d_AR_hasLevel_15 (by decide) (fun c4_ => ?_) (fun c4_ => ?_)
    · have h := jz_t c4_ h
      refine jr_iconst 22 0 C d_AR_hasLevel_22 (by decide) ?_
      obtain rfl := Option.some.inj h
      exact jr_zret 23 (v := 0) C d_AR_hasLevel_23 rfl nb_0
    · have h := jz_f c4_ h
      refine jr_iconst 18 1 C d_AR_hasLevel_18 (by decide) ?_
      refine jr_goto 19 23 C d_AR_hasLevel_19 (by decide) ?_
      obtain rfl := Option.some.inj h
      exact jr_zret 23 (v := 1) C d_AR_hasLevel_23 rfl nb_1
abbrev rm_AR_hearingAt : Room := { frames := 0, cells := 0, slots := 0, locals := 0 }
abbrev cd_AR_hearingAt : Cond := .code y_AR_hearingAt b_AR_hearingAt 2 (some (.object "AreaRouters$Hearing"))
def f_AR_hearingAt (a1 : Int32) (m : jz_M) : Option (Nat) :=
  (jz_ix 2 (a1 - 1)).bind fun j1_ =>
  some (7 + 3 * j1_)
set_option maxHeartbeats 4000000 in
set_option maxRecDepth 100000 in
theorem c_AR_hearingAt {Z : cz_Z} (l : Launch) (hI : jz_I (cz_G Z)) {a1 : Int32} {m : jz_M} {r : Nat} (h : f_AR_hearingAt a1 m = some r) : jz_m l y_AR_hearingAt cd_AR_hearingAt rm_AR_hearingAt (cz_G Z) [.ref (gz_ad (cz_G Z) 0), .int a1] m (some (.ref (gz_ad (cz_G Z) r))) m := by
  refine jz_met (own := R_AR) (by decide) rfl hI (Nat.le_of_ble_eq_true rfl) (fun X hX C => ?_)
  subst hX
  show jz_J X 2 (cz_G Z) _ m [(0, .ref (gz_ad (cz_G Z) 0)), (1, .int a1)] 0 []
  unfold f_AR_hearingAt at h
  refine jr_aload_n 0 C d_AR_hearingAt_0 rfl ?_
  refine gf_AR_25 1 C d_AR_hearingAt_1 ?_
  refine jr_iload_n 4 C d_AR_hearingAt_4 rfl ?_
  refine jr_iconst 5 1 C d_AR_hearingAt_5 (by decide) ?_
  refine jr_isub 6 C d_AR_hearingAt_6 ?_
  obtain ⟨j1_, ej1_, h⟩ := jz_b h
  refine jr_aald 7 C d_AR_hearingAt_7 zk_AR_hearings ej1_ ?_
  obtain rfl := Option.some.inj h
  exact jr_aret 8 C d_AR_hearingAt_8 rfl (by first | exact Or.inl ⟨_, rfl⟩ | exact Or.inr ⟨_, rfl⟩)
theorem kr_AR_hearingAt {a1 : Int32} {m : jz_M} {r : Nat} (h : f_AR_hearingAt a1 m = some r) : kz_He r := by
  unfold f_AR_hearingAt at h
  obtain ⟨j, e, h⟩ := jz_b h
  obtain rfl := Option.some.inj h
  exact ke_He e
