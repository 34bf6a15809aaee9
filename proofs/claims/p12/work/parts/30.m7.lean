abbrev rm_Mo_linksTo : Room := { frames := 1, cells := 0, slots := 0, locals := 22 }
abbrev cd_Mo_linksTo : Cond := .code y_Mo_linksTo b_Mo_linksTo 8 (some .boolean)
def f_Mo_linksTo_72 (m : jz_M) (k14 : Int32 → Int32 → Int32 → Int32 → Option (Int32)) (x4 : Int32) (x5 : Int32) (x7 : Int32) : Option (Int32) :=
  jz_n (x7 + 1) fun x1_ =>
  k14 x4 x5 1 x1_
set_option maxHeartbeats 4000000 in
set_option maxRecDepth 100000 in
theorem t_Mo_linksTo_72 {Z : cz_Z} {X : jz_X} {m : jz_M} {r : Int32} (C : jz_C X 8 b_Mo_linksTo R_Mo (some .boolean) rm_Mo_linksTo (mz_G Z)) (k14 : Int32 → Int32 → Int32 → Int32 → Option (Int32)) (hk14 : ∀ (x4 : Int32) (x5 : Int32) (x6 : Int32) (x7 : Int32), k14 x4 x5 x6 x7 = some r → jz_J X 8 (mz_G Z) (jz_q X (mz_G Z) (some (.int r)) m) m [(0, .ref (gz_ad (mz_G Z) 0)), (4, .int x4), (5, .int x5), (6, .int x6), (7, .int x7)] 14 []) : ∀ (x4 : Int32) (x5 : Int32) (x7 : Int32) , f_Mo_linksTo_72 m k14 x4 x5 x7 = some r → jz_J X 8 (mz_G Z) (jz_q X (mz_G Z) (some (.int r)) m) m [(0, .ref (gz_ad (mz_G Z) 0)), (4, .int x4), (5, .int x5), (7, .int x7)] 72 [] := by
  intro x4 x5 x7 h
  unfold f_Mo_linksTo_72 at h
  refine jr_iconst 72 1 C d_Mo_linksTo_72 (by decide) ?_
  refine jr_goto 73 77 C d_Mo_linksTo_73 (by decide) ?_
  refine jr_istore 77 [(0, .ref (gz_ad (mz_G Z) 0)), (4, .int x4), (5, .int x5), (7, .int x7), (6, .int 1)] C d_Mo_linksTo_77 rfl (by decide) rfl ?_
  obtain ⟨x1_, ex1_, h⟩ := jz_ne h
  refine jr_iinc 79 [(0, .ref (gz_ad (mz_G Z) 0)), (4, .int x4), (5, .int x5), (7, .int x1_), (6, .int 1)] C d_Mo_linksTo_79 rfl (by decide) rfl (by rw [ex1_]; rfl) rfl ?_
  refine jr_goto 82 14 C d_Mo_linksTo_82 (by decide) ?_
  refine jr_sub [0, 1, 2, 4, 3] rfl ?_
  exact hk14 x4 x5 1 x1_ h
def f_Mo_linksTo_14 (m : jz_M) : Nat → Int32 → Int32 → Int32 → Int32 → Option (Int32)
  | 0, _, _, _, _ => none
  | fu + 1, x4, x5, x6, x7 =>
    (jz_ix 504 x5).bind fun j1_ =>
    if (m 14 j1_) ≤ x7 then
      (jz_bo x6).bind fun b3_ =>
      some b3_
    else
      (jz_ix 504 x5).bind fun j4_ =>
      if (m 8 j4_) ≤ 0 then
        (jz_bo x6).bind fun b6_ =>
        some b6_
      else
        (jz_ix 504 x5).bind fun j7_ =>
        if (m 10 j7_) ≤ 0 then
          (jz_bo x6).bind fun b9_ =>
          some b9_
        else
          if ¬ x6 = 0 then
            f_Mo_linksTo_72 m (f_Mo_linksTo_14 m fu) x4 x5 x7
          else
            (jz_ix 5040 (((10 : Int32) * x5) + x7)).bind fun j11_ =>
            if ¬ ((m 15 j11_) &&& 63) = x4 then
              jz_n (x7 + 1) fun x13_ =>
              f_Mo_linksTo_14 m fu x4 x5 0 x13_
            else
              f_Mo_linksTo_72 m (f_Mo_linksTo_14 m fu) x4 x5 x7
set_option maxHeartbeats 4000000 in
set_option maxRecDepth 100000 in
theorem t_Mo_linksTo_14 {Z : cz_Z} {X : jz_X} {m : jz_M} {r : Int32} (C : jz_C X 8 b_Mo_linksTo R_Mo (some .boolean) rm_Mo_linksTo (mz_G Z)) : ∀ (fu : Nat) (x4 : Int32) (x5 : Int32) (x6 : Int32) (x7 : Int32) , f_Mo_linksTo_14 m fu x4 x5 x6 x7 = some r → jz_J X 8 (mz_G Z) (jz_q X (mz_G Z) (some (.int r)) m) m [(0, .ref (gz_ad (mz_G Z) 0)), (4, .int x4), (5, .int x5), (6, .int x6), (7, .int x7)] 14 [] := by
  intro fu
  induction fu with
  | zero => intro x4 x5 x6 x7 h; cases h
  | succ fu ih =>
    intro x4 x5 x6 x7 h
    rw [f_Mo_linksTo_14] at h
    refine jr_iload 14 C d_Mo_linksTo_14 rfl ?_
    refine jr_aload_n 16 C d_Mo_linksTo_16 rfl ?_
    refine gf_Mo_50 17 C d_Mo_linksTo_17 ?_
    refine jr_iload 20 C d_Mo_linksTo_20 rfl ?_
    obtain ⟨j1_, ej1_, h⟩ := jz_b h
    refine jr_iald 22 C d_Mo_linksTo_22 zk_Mo_many ej1_ ?_
    refine jr_icmp_ge 23 85 C d_Mo_linksTo_23 (by decide) (fun c2_ => ?_) (fun c2_ => ?_)
    · have h := jz_t c2_ h
      refine jr_iload 85 C d_Mo_linksTo_85 rfl ?_
      obtain ⟨b3_, eb3_, h⟩ := jz_b h
      refine jr_top (jz_bo_eq eb3_) ?_
      obtain rfl := Option.some.inj h
      exact jr_zret 87 (v := b3_) C d_Mo_linksTo_87 rfl (jz_bo_n eb3_).1
    · have h := jz_f c2_ h
      refine jr_aload_n 26 C d_Mo_linksTo_26 rfl ?_
      refine gf_Mo_32 27 C d_Mo_linksTo_27 ?_
      refine jr_iload 30 C d_Mo_linksTo_30 rfl ?_
      obtain ⟨j4_, ej4_, h⟩ := jz_b h
      refine jr_iald 32 C d_Mo_linksTo_32 zk_Mo_sequence ej4_ ?_
      refine jr_if_le 33 85 C d_Mo_linksTo_33 (by decide) (fun c5_ => ?_) (fun c5_ => ?_)
      · have h := jz_t c5_ h
        refine jr_iload 85 C d_Mo_linksTo_85 rfl ?_
        obtain ⟨b6_, eb6_, h⟩ := jz_b h
        refine jr_top (jz_bo_eq eb6_) ?_
        obtain rfl := Option.some.inj h
        exact jr_zret 87 (v := b6_) C d_Mo_linksTo_87 rfl (jz_bo_n eb6_).1
      · have h := jz_f c5_ h
        refine jr_aload_n 36 C d_Mo_linksTo_36 rfl ?_
        refine gf_Mo_38 37 C d_Mo_linksTo_37 ?_
        refine jr_iload 40 C d_Mo_linksTo_40 rfl ?_
        obtain ⟨j7_, ej7_, h⟩ := jz_b h
        refine jr_iald 42 C d_Mo_linksTo_42 zk_Mo_life ej7_ ?_
        refine jr_if_le 43 85 C d_Mo_linksTo_43 (by decide) (fun c8_ => ?_) (fun c8_ => ?_)
        · have h := jz_t c8_ h
          refine jr_iload 85 C d_Mo_linksTo_85 rfl ?_
          obtain ⟨b9_, eb9_, h⟩ := jz_b h
          refine jr_top (jz_bo_eq eb9_) ?_
          obtain rfl := Option.some.inj h
          exact jr_zret 87 (v := b9_) C d_Mo_linksTo_87 rfl (jz_bo_n eb9_).1
        · have h := jz_f c8_ h
          refine jr_iload 46 C d_Mo_linksTo_46 rfl ?_
          refine jr_if_ne 48 72 C d_Mo_linksTo_48 (by decide) (fun c10_ => ?_) (fun c10_ => ?_)
          · have h := jz_t c10_ h
            refine jr_sub [0, 1, 2, 4] rfl ?_
            exact t_Mo_linksTo_72 C (f_Mo_linksTo_14 m fu) ih x4 x5 x7 h
          · have h := jz_f c10_ h
            refine jr_aload_n 51 C d_Mo_linksTo_51 rfl ?_
            refine gf_Mo_53 52 C d_Mo_linksTo_52 ?_
            refine jr_bipush 55 10 C d_Mo_linksTo_55 (by decide) ?_
            refine jr_iload 57 C d_Mo_linksTo_57 rfl ?_
            refine jr_imul 59 C d_Mo_linksTo_59 ?_
            refine jr_iload 60 C d_Mo_linksTo_60 rfl ?_
            refine jr_iadd 62 C d_Mo_linksTo_62 ?_
            obtain ⟨j11_, ej11_, h⟩ := jz_b h
            refine jr_iald 63 C d_Mo_linksTo_63 zk_Mo_link ej11_ ?_
            refine jr_bipush 64 63 C d_Mo_linksTo_64 (by decide) ?_
            refine jr_iand 66 C d_Mo_linksTo_66 ?_
            refine jr_iload 67 C d_Mo_linksTo_67 rfl ?_
            refine jr_icmp_ne 69 76 C d_Mo_linksTo_69 (by decide) (fun c12_ => ?_) (fun c12_ => ?_)
            · have h := jz_t c12_ h
              refine jr_iconst 76 0 C d_Mo_linksTo_76 (by decide) ?_
              refine jr_istore 77 [(0, .ref (gz_ad (mz_G Z) 0)), (4, .int x4), (5, .int x5), (6, .int 0), (7, .int x7)] C d_Mo_linksTo_77 rfl (by decide) rfl ?_
              obtain ⟨x13_, ex13_, h⟩ := jz_ne h
              refine jr_iinc 79 [(0, .ref (gz_ad (mz_G Z) 0)), (4, .int x4), (5, .int x5), (6, .int 0), (7, .int x13_)] C d_Mo_linksTo_79 rfl (by decide) rfl (by rw [ex13_]; rfl) rfl ?_
              refine jr_goto 82 14 C d_Mo_linksTo_82 (by decide) ?_
              refine jr_sub [0, 1, 2, 3, 4] rfl ?_
              exact ih x4 x5 0 x13_  h
            · have h := jz_f c12_ h
              refine jr_sub [0, 1, 2, 4] rfl ?_
              exact t_Mo_linksTo_72 C (f_Mo_linksTo_14 m fu) ih x4 x5 x7 h
def f_Mo_linksTo (a1 : Int32) (a2 : Int32) (a3 : Int32) (a4 : Int32) (m : jz_M) : Option (Int32) :=
  (f_Mo_at a1 a2 a3 m).bind fun v1_ =>
  f_Mo_linksTo_14 m 1000000 a4 v1_ 0 0
set_option maxHeartbeats 4000000 in
set_option maxRecDepth 100000 in
theorem c_Mo_linksTo {Z : cz_Z} (l : Launch) (hI : jz_I (mz_G Z)) {a1 : Int32} {a2 : Int32} {a3 : Int32} {a4 : Int32} {m : jz_M} {r : Int32} (h : f_Mo_linksTo a1 a2 a3 a4 m = some r) : jz_m l y_Mo_linksTo cd_Mo_linksTo rm_Mo_linksTo (mz_G Z) [.ref (gz_ad (mz_G Z) 0), .int a1, .int a2, .int a3, .int a4] m (some (.int r)) m := by
  refine jz_met (own := R_Mo) (by decide) rfl hI (Nat.le_of_ble_eq_true rfl) (fun X hX C => ?_)
  subst hX
  show jz_J X 8 (mz_G Z) _ m [(0, .ref (gz_ad (mz_G Z) 0)), (1, .int a1), (2, .int a2), (3, .int a3), (4, .int a4)] 0 []
  unfold f_Mo_linksTo at h
  refine jr_iload_n 0 C d_Mo_linksTo_0 rfl ?_
  refine jr_iload_n 1 C d_Mo_linksTo_1 rfl ?_
  refine jr_iload_n 2 C d_Mo_linksTo_2 rfl ?_
  obtain ⟨v1_, ev1_, h⟩ := jz_b h
  refine jr_callS 3 [.int a1, .int a2, .int a3] C d_Mo_linksTo_3 (c_Mo_at (xz_l X) C.2.2.2.2.2.2.1 ev1_) sz_Mo_at tz_Mo_at lk_Mo_133 (by decide) rfl rfl (Nat.le_of_ble_eq_true rfl) rfl ?_
  refine jr_istore 6 [(0, .ref (gz_ad (mz_G Z) 0)), (1, .int a1), (2, .int a2), (3, .int a3), (4, .int a4), (5, .int v1_)] C d_Mo_linksTo_6 rfl (by decide) rfl ?_
  refine jr_iconst 8 0 C d_Mo_linksTo_8 (by decide) ?_
  refine jr_istore 9 [(0, .ref (gz_ad (mz_G Z) 0)), (1, .int a1), (2, .int a2), (3, .int a3), (4, .int a4), (5, .int v1_), (6, .int 0)] C d_Mo_linksTo_9 rfl (by decide) rfl ?_
  refine jr_iconst 11 0 C d_Mo_linksTo_11 (by decide) ?_
  refine jr_istore 12 [(0, .ref (gz_ad (mz_G Z) 0)), (1, .int a1), (2, .int a2), (3, .int a3), (4, .int a4), (5, .int v1_), (6, .int 0), (7, .int 0)] C d_Mo_linksTo_12 rfl (by decide) rfl ?_
  refine jr_sub [0, 4, 5, 6, 7] rfl ?_
  exact t_Mo_linksTo_14 C 1000000 a4 v1_ 0 0 h
abbrev rm_Mo_lives : Room := { frames := 1, cells := 0, slots := 0, locals := 22 }
abbrev cd_Mo_lives : Cond := .code y_Mo_lives b_Mo_lives 5 (some .boolean)
def f_Mo_lives (a1 : Int32) (a2 : Int32) (a3 : Int32) (m : jz_M) : Option (Int32) :=
  (f_Mo_at a1 a2 a3 m).bind fun v1_ =>
  (jz_ix 504 v1_).bind fun j2_ =>
  if (m 8 j2_) ≤ 0 then
    some 0
  else
    (jz_ix 504 v1_).bind fun j4_ =>
    if (m 10 j4_) ≤ 0 then
      some 0
    else
      some 1
set_option maxHeartbeats 4000000 in
set_option maxRecDepth 100000 in
theorem c_Mo_lives {Z : cz_Z} (l : Launch) (hI : jz_I (mz_G Z)) {a1 : Int32} {a2 : Int32} {a3 : Int32} {m : jz_M} {r : Int32} (h : f_Mo_lives a1 a2 a3 m = some r) : jz_m l y_Mo_lives cd_Mo_lives rm_Mo_lives (mz_G Z) [.ref (gz_ad (mz_G Z) 0), .int a1, .int a2, .int a3] m (some (.int r)) m := by
  refine jz_met (own := R_Mo) (by decide) rfl hI (Nat.le_of_ble_eq_true rfl) (fun X hX C => ?_)
  subst hX
  show jz_J X 5 (mz_G Z) _ m [(0, .ref (gz_ad (mz_G Z) 0)), (1, .int a1), (2, .int a2), (3, .int a3)] 0 []
  unfold f_Mo_lives at h
  refine jr_iload_n 0 C d_Mo_lives_0 rfl ?_
  refine jr_iload_n 1 C d_Mo_lives_1 rfl ?_
  refine jr_iload_n 2 C d_Mo_lives_2 rfl ?_
  obtain ⟨v1_, ev1_, h⟩ := jz_b h
  refine jr_callS 3 [.int a1, .int a2, .int a3] C d_Mo_lives_3 (c_Mo_at (xz_l X) C.2.2.2.2.2.2.1 ev1_) sz_Mo_at tz_Mo_at lk_Mo_133 (by decide) rfl rfl (Nat.le_of_ble_eq_true rfl) rfl ?_
  refine jr_istore 6 [(0, .ref (gz_ad (mz_G Z) 0)), (1, .int a1), (2, .int a2), (3, .int a3), (4, .int v1_)] C d_Mo_lives_6 rfl (by decide) rfl ?_
  refine jr_aload_n 8 C d_Mo_lives_8 rfl ?_
  refine gf_Mo_32 9 C d_Mo_lives_9 ?_
  refine jr_iload 12 C d_Mo_lives_12 rfl ?_
  obtain ⟨j2_, ej2_, h⟩ := jz_b h
  refine jr_iald 14 C d_Mo_lives_14 zk_Mo_sequence ej2_ ?_
  refine jr_if_le 15 32 C d_Mo_lives_15 (by decide) (fun c3_ => ?_) (fun c3_ => ?_)
  · have h := jz_t c3_ h
    refine jr_iconst 32 0 C d_Mo_lives_32 (by decide) ?_
    obtain rfl := Option.some.inj h
    exact jr_zret 33 (v := 0) C d_Mo_lives_33 rfl nb_0
  · have h := jz_f c3_ h
    refine jr_aload_n 18 C d_Mo_lives_18 rfl ?_
    refine gf_Mo_38 19 C d_Mo_lives_19 ?_
    refine jr_iload 22 C d_Mo_lives_22 rfl ?_
    obtain ⟨j4_, ej4_, h⟩ := jz_b h
    refine jr_iald 24 C d_Mo_lives_24 zk_Mo_life ej4_ ?_
    refine jr_if_le 25 32 C d_Mo_lives_25 (by decide) (fun c5_ => ?_) (fun c5_ => ?_)
    · have h := jz_t c5_ h
      refine jr_iconst 32 0 C d_Mo_lives_32 (by decide) ?_
      obtain rfl := Option.some.inj h
      exact jr_zret 33 (v := 0) C d_Mo_lives_33 rfl nb_0
    · have h := jz_f c5_ h
      refine jr_iconst 28 1 C d_Mo_lives_28 (by decide) ?_
      refine jr_goto 29 33 C d_Mo_lives_29 (by decide) ?_
      obtain rfl := Option.some.inj h
      exact jr_zret 33 (v := 1) C d_Mo_lives_33 rfl nb_1
abbrev rm_Mo_costs : Room := { frames := 2, cells := 0, slots := 0, locals := 49 }
abbrev cd_Mo_costs : Cond := .code y_Mo_costs b_Mo_costs 9 none
def f_Mo_costs_166 (k50 : Int32 → Int32 → Int32 → jz_M → Option (jz_M)) (k59 : Int32 → Int32 → Int32 → Int32 → jz_M → Option (jz_M)) (k78 : Int32 → Int32 → Int32 → Int32 → Int32 → Int32 → jz_M → Option (jz_M)) (x1 : Int32) (x2 : Int32) (x3 : Int32) (x4 : Int32) (x5 : Int32) (x6 : Int32) (x7 : Int32) (x8 : Int32) (m : jz_M) : Option (jz_M) :=
  (f_Mo_linksTo x1 x2 x7 x4 m).bind fun v1_ =>
  if v1_ = 0 then
    jz_n (x6 + 1) fun x3_ =>
    k78 x1 x2 x3 x4 x5 x3_ m
  else
    (jz_ix 42 x7).bind fun j4_ =>
    jz_n (jz_up m 19 j4_ x8) fun m5_ =>
    jz_n (x6 + 1) fun x6_ =>
    k78 x1 x2 1 x4 x5 x6_ m5_
set_option maxHeartbeats 4000000 in
set_option maxRecDepth 100000 in
theorem t_Mo_costs_166 {Z : cz_Z} {X : jz_X} {r : jz_M} (C : jz_C X 9 b_Mo_costs R_Mo none rm_Mo_costs (mz_G Z)) (k50 : Int32 → Int32 → Int32 → jz_M → Option (jz_M)) (hk50 : ∀ (x1 : Int32) (x2 : Int32) (x3 : Int32) (m : jz_M), k50 x1 x2 x3 m = some r → jz_J X 9 (mz_G Z) (jz_q X (mz_G Z) none r) m [(0, .ref (gz_ad (mz_G Z) 0)), (1, .int x1), (2, .int x2), (3, .int x3)] 50 []) (k59 : Int32 → Int32 → Int32 → Int32 → jz_M → Option (jz_M)) (hk59 : ∀ (x1 : Int32) (x2 : Int32) (x3 : Int32) (x4 : Int32) (m : jz_M), k59 x1 x2 x3 x4 m = some r → jz_J X 9 (mz_G Z) (jz_q X (mz_G Z) none r) m [(0, .ref (gz_ad (mz_G Z) 0)), (1, .int x1), (2, .int x2), (3, .int x3), (4, .int x4)] 59 []) (k78 : Int32 → Int32 → Int32 → Int32 → Int32 → Int32 → jz_M → Option (jz_M)) (hk78 : ∀ (x1 : Int32) (x2 : Int32) (x3 : Int32) (x4 : Int32) (x5 : Int32) (x6 : Int32) (m : jz_M), k78 x1 x2 x3 x4 x5 x6 m = some r → jz_J X 9 (mz_G Z) (jz_q X (mz_G Z) none r) m [(0, .ref (gz_ad (mz_G Z) 0)), (1, .int x1), (2, .int x2), (3, .int x3), (4, .int x4), (5, .int x5), (6, .int x6)] 78 []) : ∀ (x1 : Int32) (x2 : Int32) (x3 : Int32) (x4 : Int32) (x5 : Int32) (x6 : Int32) (x7 : Int32) (x8 : Int32) (m : jz_M) , f_Mo_costs_166 k50 k59 k78 x1 x2 x3 x4 x5 x6 x7 x8 m = some r → jz_J X 9 (mz_G Z) (jz_q X (mz_G Z) none r) m [(0, .ref (gz_ad (mz_G Z) 0)), (1, .int x1), (2, .int x2), (3, .int x3), (4, .int x4), (5, .int x5), (6, .int x6), (7, .int x7), (8, .int x8)] 166 [] := by
  intro x1 x2 x3 x4 x5 x6 x7 x8 m h
  unfold f_Mo_costs_166 at h
  refine jr_aload_n 166 C d_Mo_costs_166 rfl ?_
  refine jr_iload_n 167 C d_Mo_costs_167 rfl ?_
  refine jr_iload_n 168 C d_Mo_costs_168 rfl ?_
  refine jr_iload 169 C d_Mo_costs_169 rfl ?_
  refine jr_iload 171 C d_Mo_costs_171 rfl ?_
  obtain ⟨v1_, ev1_, h⟩ := jz_b h
  refine jr_callV 173 [.int x1, .int x2, .int x7, .int x4] C d_Mo_costs_173 (c_Mo_linksTo (xz_l X) C.2.2.2.2.2.2.1 ev1_) sz_Mo_linksTo tz_Mo_linksTo lk_Mo_180 oz_Mo rfl (by decide) rfl rfl (Nat.le_of_ble_eq_true rfl) rfl ?_
  refine jr_if_eq 176 190 C d_Mo_costs_176 (by decide) (fun c2_ => ?_) (fun c2_ => ?_)
  · have h := jz_t c2_ h
    obtain ⟨x3_, ex3_, h⟩ := jz_ne h
    refine jr_iinc 190 [(0, .ref (gz_ad (mz_G Z) 0)), (1, .int x1), (2, .int x2), (3, .int x3), (4, .int x4), (5, .int x5), (6, .int x3_), (7, .int x7), (8, .int x8)] C d_Mo_costs_190 rfl (by decide) rfl (by rw [ex3_]; rfl) rfl ?_
    refine jr_goto 193 78 C d_Mo_costs_193 (by decide) ?_
    refine jr_sub [0, 1, 2, 3, 4, 5, 6] rfl ?_
    exact hk78 x1 x2 x3 x4 x5 x3_ m  h
  · have h := jz_f c2_ h
    refine jr_aload_n 179 C d_Mo_costs_179 rfl ?_
    refine gf_Mo_65 180 C d_Mo_costs_180 ?_
    refine jr_iload 183 C d_Mo_costs_183 rfl ?_
    refine jr_iload 185 C d_Mo_costs_185 rfl ?_
    obtain ⟨j4_, ej4_, h⟩ := jz_b h
    obtain ⟨m5_, em5_, h⟩ := jz_ne h
    refine jr_iast 187 C d_Mo_costs_187 zk_Mo_cost ej4_ ?_
    refine jr_mem em5_ ?_
    refine jr_iconst 188 1 C d_Mo_costs_188 (by decide) ?_
    refine jr_istore_n 189 [(0, .ref (gz_ad (mz_G Z) 0)), (1, .int x1), (2, .int x2), (3, .int 1), (4, .int x4), (5, .int x5), (6, .int x6), (7, .int x7), (8, .int x8)] C d_Mo_costs_189 rfl (by decide) rfl ?_
    obtain ⟨x6_, ex6_, h⟩ := jz_ne h
    refine jr_iinc 190 [(0, .ref (gz_ad (mz_G Z) 0)), (1, .int x1), (2, .int x2), (3, .int 1), (4, .int x4), (5, .int x5), (6, .int x6_), (7, .int x7), (8, .int x8)] C d_Mo_costs_190 rfl (by decide) rfl (by rw [ex6_]; rfl) rfl ?_
    refine jr_goto 193 78 C d_Mo_costs_193 (by decide) ?_
    refine jr_sub [0, 1, 2, 3, 4, 5, 6] rfl ?_
    exact hk78 x1 x2 1 x4 x5 x6_ m5_  h
def f_Mo_costs_78 (k50 : Int32 → Int32 → Int32 → jz_M → Option (jz_M)) (k59 : Int32 → Int32 → Int32 → Int32 → jz_M → Option (jz_M)) : Nat → Int32 → Int32 → Int32 → Int32 → Int32 → Int32 → jz_M → Option (jz_M)
  | 0, _, _, _, _, _, _, _ => none
  | fu + 1, x1, x2, x3, x4, x5, x6, m =>
    (jz_ix 42 x4).bind fun j1_ =>
    if (m 19 j1_) < 0 then
      jz_n (x4 + 1) fun x3_ =>
      k59 x1 x2 x3 x3_ m
    else
      (jz_ix 504 x5).bind fun j4_ =>
      if (m 14 j4_) ≤ x6 then
        jz_n (x4 + 1) fun x6_ =>
        k59 x1 x2 x3 x6_ m
      else
        (jz_ix 5040 (((10 : Int32) * x5) + x6)).bind fun j7_ =>
        jz_n ((m 15 j7_) &&& 63) fun x8_ =>
        (jz_ix 42 x4).bind fun j9_ =>
        (jz_ix 5040 (((10 : Int32) * x5) + x6)).bind fun j10_ =>
        jz_n ((m 19 j9_) + ((m 15 j10_) >>> (6 &&& 31))) fun x11_ =>
        (jz_ix 42 x8_).bind fun j12_ =>
        if (m 19 j12_) < 0 then
          f_Mo_costs_166 k50 k59 (f_Mo_costs_78 k50 k59 fu) x1 x2 x3 x4 x5 x6 x8_ x11_ m
        else
          (jz_ix 42 x8_).bind fun j14_ =>
          if (m 19 j14_) ≤ x11_ then
            jz_n (x6 + 1) fun x16_ =>
            f_Mo_costs_78 k50 k59 fu x1 x2 x3 x4 x5 x16_ m
          else
            f_Mo_costs_166 k50 k59 (f_Mo_costs_78 k50 k59 fu) x1 x2 x3 x4 x5 x6 x8_ x11_ m
set_option maxHeartbeats 4000000 in
set_option maxRecDepth 100000 in
theorem t_Mo_costs_78 {Z : cz_Z} {X : jz_X} {r : jz_M} (C : jz_C X 9 b_Mo_costs R_Mo none rm_Mo_costs (mz_G Z)) (k50 : Int32 → Int32 → Int32 → jz_M → Option (jz_M)) (hk50 : ∀ (x1 : Int32) (x2 : Int32) (x3 : Int32) (m : jz_M), k50 x1 x2 x3 m = some r → jz_J X 9 (mz_G Z) (jz_q X (mz_G Z) none r) m [(0, .ref (gz_ad (mz_G Z) 0)), (1, .int x1), (2, .int x2), (3, .int x3)] 50 []) (k59 : Int32 → Int32 → Int32 → Int32 → jz_M → Option (jz_M)) (hk59 : ∀ (x1 : Int32) (x2 : Int32) (x3 : Int32) (x4 : Int32) (m : jz_M), k59 x1 x2 x3 x4 m = some r → jz_J X 9 (mz_G Z) (jz_q X (mz_G Z) none r) m [(0, .ref (gz_ad (mz_G Z) 0)), (1, .int x1), (2, .int x2), (3, .int x3), (4, .int x4)] 59 []) : ∀ (fu : Nat) (x1 : Int32) (x2 : Int32) (x3 : Int32) (x4 : Int32) (x5 : Int32) (x6 : Int32) (m : jz_M) , f_Mo_costs_78 k50 k59 fu x1 x2 x3 x4 x5 x6 m = some r → jz_J X 9 (mz_G Z) (jz_q X (mz_G Z) none r) m [(0, .ref (gz_ad (mz_G Z) 0)), (1, .int x1), (2, .int x2), (3, .int x3), (4, .int x4), (5, .int x5), (6, .int x6)] 78 [] := by
  intro fu
  induction fu with
  | zero => intro x1 x2 x3 x4 x5 x6 m h; cases h
  | succ fu ih =>
    intro x1 x2 x3 x4 x5 x6 m h
    rw [f_Mo_costs_78] at h
    refine jr_aload_n 78 C d_Mo_costs_78 rfl ?_
    refine gf_Mo_65 79 C d_Mo_costs_79 ?_
    refine jr_iload 82 C d_Mo_costs_82 rfl ?_
    obtain ⟨j1_, ej1_, h⟩ := jz_b h
    refine jr_iald 84 C d_Mo_costs_84 zk_Mo_cost ej1_ ?_
    refine jr_if_lt 85 196 C d_Mo_costs_85 (by decide) (fun c2_ => ?_) (fun c2_ => ?_)
    · have h := jz_t c2_ h
      obtain ⟨x3_, ex3_, h⟩ := jz_ne h
      refine jr_iinc 196 [(0, .ref (gz_ad (mz_G Z) 0)), (1, .int x1), (2, .int x2), (3, .int x3), (4, .int x3_), (5, .int x5), (6, .int x6)] C d_Mo_costs_196 rfl (by decide) rfl (by rw [ex3_]; rfl) rfl ?_
      refine jr_goto 199 59 C d_Mo_costs_199 (by decide) ?_
      refine jr_sub [0, 1, 2, 3, 4] rfl ?_
      exact hk59 x1 x2 x3 x3_ m  h
    · have h := jz_f c2_ h
      refine jr_iload 88 C d_Mo_costs_88 rfl ?_
      refine jr_aload_n 90 C d_Mo_costs_90 rfl ?_
      refine gf_Mo_50 91 C d_Mo_costs_91 ?_
      refine jr_iload 94 C d_Mo_costs_94 rfl ?_
      obtain ⟨j4_, ej4_, h⟩ := jz_b h
      refine jr_iald 96 C d_Mo_costs_96 zk_Mo_many ej4_ ?_
      refine jr_icmp_ge 97 196 C d_Mo_costs_97 (by decide) (fun c5_ => ?_) (fun c5_ => ?_)
      · have h := jz_t c5_ h
        obtain ⟨x6_, ex6_, h⟩ := jz_ne h
        refine jr_iinc 196 [(0, .ref (gz_ad (mz_G Z) 0)), (1, .int x1), (2, .int x2), (3, .int x3), (4, .int x6_), (5, .int x5), (6, .int x6)] C d_Mo_costs_196 rfl (by decide) rfl (by rw [ex6_]; rfl) rfl ?_
        refine jr_goto 199 59 C d_Mo_costs_199 (by decide) ?_
        refine jr_sub [0, 1, 2, 3, 4] rfl ?_
        exact hk59 x1 x2 x3 x6_ m  h
      · have h := jz_f c5_ h
        refine jr_aload_n 100 C d_Mo_costs_100 rfl ?_
        refine gf_Mo_53 101 C d_Mo_costs_101 ?_
        refine jr_bipush 104 10 C d_Mo_costs_104 (by decide) ?_
        refine jr_iload 106 C d_Mo_costs_106 rfl ?_
        refine jr_imul 108 C d_Mo_costs_108 ?_
        refine jr_iload 109 C d_Mo_costs_109 rfl ?_
        refine jr_iadd 111 C d_Mo_costs_111 ?_
        obtain ⟨j7_, ej7_, h⟩ := jz_b h
        refine jr_iald 112 C d_Mo_costs_112 zk_Mo_link ej7_ ?_
        refine jr_bipush 113 63 C d_Mo_costs_113 (by decide) ?_
        refine jr_iand 115 C d_Mo_costs_115 ?_
        obtain ⟨x8_, ex8_, h⟩ := jz_ne h
        refine jr_top ex8_ ?_
        refine jr_istore 116 [(0, .ref (gz_ad (mz_G Z) 0)), (1, .int x1), (2, .int x2), (3, .int x3), (4, .int x4), (5, .int x5), (6, .int x6), (7, .int x8_)] C d_Mo_costs_116 rfl (by decide) rfl ?_
        refine jr_aload_n 118 C d_Mo_costs_118 rfl ?_
        refine gf_Mo_65 119 C d_Mo_costs_119 ?_
        refine jr_iload 122 C d_Mo_costs_122 rfl ?_
        obtain ⟨j9_, ej9_, h⟩ := jz_b h
        refine jr_iald 124 C d_Mo_costs_124 zk_Mo_cost ej9_ ?_
        refine jr_aload_n 125 C d_Mo_costs_125 rfl ?_
        refine gf_Mo_53 126 C d_Mo_costs_126 ?_
        refine jr_bipush 129 10 C d_Mo_costs_129 (by decide) ?_
        refine jr_iload 131 C d_Mo_costs_131 rfl ?_
        refine jr_imul 133 C d_Mo_costs_133 ?_
        refine jr_iload 134 C d_Mo_costs_134 rfl ?_
        refine jr_iadd 136 C d_Mo_costs_136 ?_
        obtain ⟨j10_, ej10_, h⟩ := jz_b h
        refine jr_iald 137 C d_Mo_costs_137 zk_Mo_link ej10_ ?_
        refine jr_bipush 138 6 C d_Mo_costs_138 (by decide) ?_
        refine jr_ishr 140 C d_Mo_costs_140 ?_
        refine jr_iadd 141 C d_Mo_costs_141 ?_
        obtain ⟨x11_, ex11_, h⟩ := jz_ne h
        refine jr_top ex11_ ?_
        refine jr_istore 142 [(0, .ref (gz_ad (mz_G Z) 0)), (1, .int x1), (2, .int x2), (3, .int x3), (4, .int x4), (5, .int x5), (6, .int x6), (7, .int x8_), (8, .int x11_)] C d_Mo_costs_142 rfl (by decide) rfl ?_
        refine jr_aload_n 144 C d_Mo_costs_144 rfl ?_
        refine gf_Mo_65 145 C d_Mo_costs_145 ?_
        refine jr_iload 148 C d_Mo_costs_148 rfl ?_
        obtain ⟨j12_, ej12_, h⟩ := jz_b h
        refine jr_iald 150 C d_Mo_costs_150 zk_Mo_cost ej12_ ?_
        refine jr_if_lt 151 166 C d_Mo_costs_151 (by decide) (fun c13_ => ?_) (fun c13_ => ?_)
        · have h := jz_t c13_ h
          refine jr_sub [0, 1, 2, 3, 4, 5, 6, 7, 8] rfl ?_
          exact t_Mo_costs_166 C k50 hk50 k59 hk59 (f_Mo_costs_78 k50 k59 fu) ih x1 x2 x3 x4 x5 x6 x8_ x11_ m h
        · have h := jz_f c13_ h
          refine jr_iload 154 C d_Mo_costs_154 rfl ?_
          refine jr_aload_n 156 C d_Mo_costs_156 rfl ?_
          refine gf_Mo_65 157 C d_Mo_costs_157 ?_
          refine jr_iload 160 C d_Mo_costs_160 rfl ?_
          obtain ⟨j14_, ej14_, h⟩ := jz_b h
          refine jr_iald 162 C d_Mo_costs_162 zk_Mo_cost ej14_ ?_
          refine jr_icmp_ge 163 190 C d_Mo_costs_163 (by decide) (fun c15_ => ?_) (fun c15_ => ?_)
          · have h := jz_t c15_ h
            obtain ⟨x16_, ex16_, h⟩ := jz_ne h
            refine jr_iinc 190 [(0, .ref (gz_ad (mz_G Z) 0)), (1, .int x1), (2, .int x2), (3, .int x3), (4, .int x4), (5, .int x5), (6, .int x16_), (7, .int x8_), (8, .int x11_)] C d_Mo_costs_190 rfl (by decide) rfl (by rw [ex16_]; rfl) rfl ?_
            refine jr_goto 193 78 C d_Mo_costs_193 (by decide) ?_
            refine jr_sub [0, 1, 2, 3, 4, 5, 6] rfl ?_
            exact ih x1 x2 x3 x4 x5 x16_ m  h
          · have h := jz_f c15_ h
            refine jr_sub [0, 1, 2, 3, 4, 5, 6, 7, 8] rfl ?_
            exact t_Mo_costs_166 C k50 hk50 k59 hk59 (f_Mo_costs_78 k50 k59 fu) ih x1 x2 x3 x4 x5 x6 x8_ x11_ m h
def f_Mo_costs_59 (k50 : Int32 → Int32 → Int32 → jz_M → Option (jz_M)) : Nat → Int32 → Int32 → Int32 → Int32 → jz_M → Option (jz_M)
  | 0, _, _, _, _, _ => none
  | fu + 1, x1, x2, x3, x4, m =>
    if 42 ≤ x4 then
      k50 x1 x2 x3 m
    else
      (f_Mo_at x1 x2 x4 m).bind fun v2_ =>
      f_Mo_costs_78 k50 (f_Mo_costs_59 k50 fu) 1000000 x1 x2 x3 x4 v2_ 0 m
set_option maxHeartbeats 4000000 in
set_option maxRecDepth 100000 in
theorem t_Mo_costs_59 {Z : cz_Z} {X : jz_X} {r : jz_M} (C : jz_C X 9 b_Mo_costs R_Mo none rm_Mo_costs (mz_G Z)) (k50 : Int32 → Int32 → Int32 → jz_M → Option (jz_M)) (hk50 : ∀ (x1 : Int32) (x2 : Int32) (x3 : Int32) (m : jz_M), k50 x1 x2 x3 m = some r → jz_J X 9 (mz_G Z) (jz_q X (mz_G Z) none r) m [(0, .ref (gz_ad (mz_G Z) 0)), (1, .int x1), (2, .int x2), (3, .int x3)] 50 []) : ∀ (fu : Nat) (x1 : Int32) (x2 : Int32) (x3 : Int32) (x4 : Int32) (m : jz_M) , f_Mo_costs_59 k50 fu x1 x2 x3 x4 m = some r → jz_J X 9 (mz_G Z) (jz_q X (mz_G Z) none r) m [(0, .ref (gz_ad (mz_G Z) 0)), (1, .int x1), (2, .int x2), (3, .int x3), (4, .int x4)] 59 [] := by
  intro fu
  induction fu with
  | zero => intro x1 x2 x3 x4 m h; cases h
  | succ fu ih =>
    intro x1 x2 x3 x4 m h
    rw [f_Mo_costs_59] at h
    refine jr_iload 59 C d_Mo_costs_59 rfl ?_
    refine jr_bipush 61 42 C d_Mo_costs_61 (by decide) ?_
    refine jr_icmp_ge 63 202 C d_Mo_costs_63 (by decide) (fun c1_ => ?_) (fun c1_ => ?_)
    · have h := jz_t c1_ h
      refine jr_goto 202 50 C d_Mo_costs_202 (by decide) ?_
      refine jr_sub [0, 1, 2, 3] rfl ?_
      exact hk50 x1 x2 x3 m  h
    · have h := jz_f c1_ h
      refine jr_iload_n 66 C d_Mo_costs_66 rfl ?_
      refine jr_iload_n 67 C d_Mo_costs_67 rfl ?_
      refine jr_iload 68 C d_Mo_costs_68 rfl ?_
      obtain ⟨v2_, ev2_, h⟩ := jz_b h
      refine jr_callS 70 [.int x1, .int x2, .int x4] C d_Mo_costs_70 (c_Mo_at (xz_l X) C.2.2.2.2.2.2.1  ev2_) sz_Mo_at tz_Mo_at lk_Mo_133 (by decide) rfl rfl (Nat.le_of_ble_eq_true rfl) rfl ?_
      refine jr_istore 73 [(0, .ref (gz_ad (mz_G Z) 0)), (1, .int x1), (2, .int x2), (3, .int x3), (4, .int x4), (5, .int v2_)] C d_Mo_costs_73 rfl (by decide) rfl ?_
      refine jr_iconst 75 0 C d_Mo_costs_75 (by decide) ?_
      refine jr_istore 76 [(0, .ref (gz_ad (mz_G Z) 0)), (1, .int x1), (2, .int x2), (3, .int x3), (4, .int x4), (5, .int v2_), (6, .int 0)] C d_Mo_costs_76 rfl (by decide) rfl ?_
      refine jr_sub [0, 1, 2, 3, 4, 5, 6] rfl ?_
      exact t_Mo_costs_78 C k50 hk50 (f_Mo_costs_59 k50 fu) ih 1000000 x1 x2 x3 x4 v2_ 0 m h
def f_Mo_costs_50 : Nat → Int32 → Int32 → Int32 → jz_M → Option (jz_M)
  | 0, _, _, _, _ => none
  | fu + 1, x1, x2, x3, m =>
    if x3 = 0 then
      some m
    else
      f_Mo_costs_59 (f_Mo_costs_50 fu) 1000000 x1 x2 0 0 m
set_option maxHeartbeats 4000000 in
set_option maxRecDepth 100000 in
theorem t_Mo_costs_50 {Z : cz_Z} {X : jz_X} {r : jz_M} (C : jz_C X 9 b_Mo_costs R_Mo none rm_Mo_costs (mz_G Z)) : ∀ (fu : Nat) (x1 : Int32) (x2 : Int32) (x3 : Int32) (m : jz_M) , f_Mo_costs_50 fu x1 x2 x3 m = some r → jz_J X 9 (mz_G Z) (jz_q X (mz_G Z) none r) m [(0, .ref (gz_ad (mz_G Z) 0)), (1, .int x1), (2, .int x2), (3, .int x3)] 50 [] := by
  intro fu
  induction fu with
  | zero => intro x1 x2 x3 m h; cases h
  | succ fu ih =>
    intro x1 x2 x3 m h
    rw [f_Mo_costs_50] at h
    refine jr_iload_n 50 C d_Mo_costs_50 rfl ?_
    refine jr_if_eq 51 205 C d_Mo_costs_51 (by decide) (fun c1_ => ?_) (fun c1_ => ?_)
    · have h := jz_t c1_ h
      obtain rfl := Option.some.inj h
      exact jr_vret 205 C d_Mo_costs_205 rfl
    · have h := jz_f c1_ h
      refine jr_iconst 54 0 C d_Mo_costs_54 (by decide) ?_
      refine jr_istore_n 55 [(0, .ref (gz_ad (mz_G Z) 0)), (1, .int x1), (2, .int x2), (3, .int 0)] C d_Mo_costs_55 rfl (by decide) rfl ?_
      refine jr_iconst 56 0 C d_Mo_costs_56 (by decide) ?_
      refine jr_istore 57 [(0, .ref (gz_ad (mz_G Z) 0)), (1, .int x1), (2, .int x2), (3, .int 0), (4, .int 0)] C d_Mo_costs_57 rfl (by decide) rfl ?_
      refine jr_sub [0, 1, 2, 3, 4] rfl ?_
      exact t_Mo_costs_59 C (f_Mo_costs_50 fu) ih 1000000 x1 x2 0 0 m h
def f_Mo_costs_47 (x1 : Int32) (x2 : Int32) (s0 : Int32) (s1 : Int32) (m : jz_M) : Option (jz_M) :=
  (jz_ix 42 s1).bind fun j1_ =>
  jz_n (jz_up m 19 j1_ s0) fun m2_ =>
  f_Mo_costs_50 1000000 x1 x2 1 m2_
set_option maxHeartbeats 4000000 in
set_option maxRecDepth 100000 in
theorem t_Mo_costs_47 {Z : cz_Z} {X : jz_X} {r : jz_M} (C : jz_C X 9 b_Mo_costs R_Mo none rm_Mo_costs (mz_G Z)) : ∀ (x1 : Int32) (x2 : Int32) (s0 : Int32) (s1 : Int32) (m : jz_M) , f_Mo_costs_47 x1 x2 s0 s1 m = some r → jz_J X 9 (mz_G Z) (jz_q X (mz_G Z) none r) m [(0, .ref (gz_ad (mz_G Z) 0)), (1, .int x1), (2, .int x2)] 47 [.int s0, .int s1, .ref (gz_ad (mz_G Z) 19)] := by
  intro x1 x2 s0 s1 m h
  unfold f_Mo_costs_47 at h
  obtain ⟨j1_, ej1_, h⟩ := jz_b h
  obtain ⟨m2_, em2_, h⟩ := jz_ne h
  refine jr_iast 47 C d_Mo_costs_47 zk_Mo_cost ej1_ ?_
  refine jr_mem em2_ ?_
  refine jr_iconst 48 1 C d_Mo_costs_48 (by decide) ?_
  refine jr_istore_n 49 [(0, .ref (gz_ad (mz_G Z) 0)), (1, .int x1), (2, .int x2), (3, .int 1)] C d_Mo_costs_49 rfl (by decide) rfl ?_
  refine jr_sub [0, 1, 2, 3] rfl ?_
  exact t_Mo_costs_50 C 1000000 x1 x2 1 m2_ h
def f_Mo_costs_2 : Nat → Int32 → Int32 → Int32 → jz_M → Option (jz_M)
  | 0, _, _, _, _ => none
  | fu + 1, x1, x2, x3, m =>
    if 42 ≤ x3 then
      (f_Mo_lives x1 x2 ((7 : Int32) * x1) m).bind fun v2_ =>
      if v2_ = 0 then
        f_Mo_costs_47 x1 x2 (-1) ((7 : Int32) * x1) m
      else
        f_Mo_costs_47 x1 x2 0 ((7 : Int32) * x1) m
    else
      (jz_ix 42 x3).bind fun j4_ =>
      jz_n (jz_up m 19 j4_ (-1)) fun m5_ =>
      jz_n (x3 + 1) fun x6_ =>
      f_Mo_costs_2 fu x1 x2 x6_ m5_
set_option maxHeartbeats 4000000 in
set_option maxRecDepth 100000 in
theorem t_Mo_costs_2 {Z : cz_Z} {X : jz_X} {r : jz_M} (C : jz_C X 9 b_Mo_costs R_Mo none rm_Mo_costs (mz_G Z)) : ∀ (fu : Nat) (x1 : Int32) (x2 : Int32) (x3 : Int32) (m : jz_M) , f_Mo_costs_2 fu x1 x2 x3 m = some r → jz_J X 9 (mz_G Z) (jz_q X (mz_G Z) none r) m [(0, .ref (gz_ad (mz_G Z) 0)), (1, .int x1), (2, .int x2), (3, .int x3)] 2 [] := by
  intro fu
  induction fu with
  | zero => intro x1 x2 x3 m h; cases h
  | succ fu ih =>
    intro x1 x2 x3 m h
    rw [f_Mo_costs_2] at h
    refine jr_iload_n 2 C d_Mo_costs_2 rfl ?_
    refine jr_bipush 3 42 C d_Mo_costs_3 (by decide) ?_
    refine jr_icmp_ge 5 21 C d_Mo_costs_5 (by decide) (fun c1_ => ?_) (fun c1_ => ?_)
    · have h := jz_t c1_ h
      refine jr_aload_n 21 C d_Mo_costs_21 rfl ?_
      refine gf_Mo_65 22 C d_Mo_costs_22 ?_
      refine jr_bipush 25 7 C d_Mo_costs_25 (by decide) ?_
      refine jr_iload_n 27 C d_Mo_costs_27 rfl ?_
      refine jr_imul 28 C d_Mo_costs_28 ?_
      refine jr_aload_n 29 C d_Mo_costs_29 rfl ?_
      refine jr_iload_n 30 C d_Mo_costs_30 rfl ?_
      refine jr_iload_n 31 C d_Mo_costs_31 rfl ?_
      refine jr_bipush 32 7 C d_Mo_costs_32 (by decide) ?_
      refine jr_iload_n 34 C d_Mo_costs_34 rfl ?_
      refine jr_imul 35 C d_Mo_costs_35 ?_
      obtain ⟨v2_, ev2_, h⟩ := jz_b h
      refine jr_callV 36 [.int x1, .int x2, .int ((7 : Int32) * x1)] C d_Mo_costs_36 (c_Mo_lives (xz_l X) C.2.2.2.2.2.2.1  ev2_) sz_Mo_lives tz_Mo_lives lk_Mo_177 oz_Mo rfl (by decide) rfl rfl (Nat.le_of_ble_eq_true rfl) rfl ?_
      refine jr_if_eq 39 46 C d_Mo_costs_39 (by decide) (fun c3_ => ?_) (fun c3_ => ?_)
      · have h := jz_t c3_ h
        refine jr_iconst 46 (-1) C d_Mo_costs_46 (by decide) ?_
        refine jr_sub [0, 1, 2] rfl ?_
        exact t_Mo_costs_47 C  x1 x2 (-1) ((7 : Int32) * x1) m h
      · have h := jz_f c3_ h
        refine jr_iconst 42 0 C d_Mo_costs_42 (by decide) ?_
        refine jr_goto 43 47 C d_Mo_costs_43 (by decide) ?_
        refine jr_sub [0, 1, 2] rfl ?_
        exact t_Mo_costs_47 C  x1 x2 0 ((7 : Int32) * x1) m h
    · have h := jz_f c1_ h
      refine jr_aload_n 8 C d_Mo_costs_8 rfl ?_
      refine gf_Mo_65 9 C d_Mo_costs_9 ?_
      refine jr_iload_n 12 C d_Mo_costs_12 rfl ?_
      refine jr_iconst 13 (-1) C d_Mo_costs_13 (by decide) ?_
      obtain ⟨j4_, ej4_, h⟩ := jz_b h
      obtain ⟨m5_, em5_, h⟩ := jz_ne h
      refine jr_iast 14 C d_Mo_costs_14 zk_Mo_cost ej4_ ?_
      refine jr_mem em5_ ?_
      obtain ⟨x6_, ex6_, h⟩ := jz_ne h
      refine jr_iinc 15 [(0, .ref (gz_ad (mz_G Z) 0)), (1, .int x1), (2, .int x2), (3, .int x6_)] C d_Mo_costs_15 rfl (by decide) rfl (by rw [ex6_]; rfl) rfl ?_
      refine jr_goto 18 2 C d_Mo_costs_18 (by decide) ?_
      refine jr_sub [0, 1, 2, 3] rfl ?_
      exact ih x1 x2 x6_ m5_  h
def f_Mo_costs (a1 : Int32) (a2 : Int32) (m : jz_M) : Option (jz_M) :=
  f_Mo_costs_2 1000000 a1 a2 0 m
set_option maxHeartbeats 4000000 in
set_option maxRecDepth 100000 in
theorem c_Mo_costs {Z : cz_Z} (l : Launch) (hI : jz_I (mz_G Z)) {a1 : Int32} {a2 : Int32} {m : jz_M} {r : jz_M} (h : f_Mo_costs a1 a2 m = some r) : jz_m l y_Mo_costs cd_Mo_costs rm_Mo_costs (mz_G Z) [.ref (gz_ad (mz_G Z) 0), .int a1, .int a2] m none r := by
  refine jz_met (own := R_Mo) (by decide) rfl hI (Nat.le_of_ble_eq_true rfl) (fun X hX C => ?_)
  subst hX
  show jz_J X 9 (mz_G Z) _ m [(0, .ref (gz_ad (mz_G Z) 0)), (1, .int a1), (2, .int a2)] 0 []
  unfold f_Mo_costs at h
  refine jr_iconst 0 0 C d_Mo_costs_0 (by decide) ?_
  refine jr_istore_n 1 [(0, .ref (gz_ad (mz_G Z) 0)), (1, .int a1), (2, .int a2), (3, .int 0)] C d_Mo_costs_1 rfl (by decide) rfl ?_
  refine jr_sub [0, 1, 2, 3] rfl ?_
  exact t_Mo_costs_2 C 1000000 a1 a2 0 m h
abbrev rm_Mo_onward : Room := { frames := 0, cells := 0, slots := 0, locals := 0 }
abbrev cd_Mo_onward : Cond := .code y_Mo_onward b_Mo_onward 3 (some .int)
def f_Mo_onward_31 (m : jz_M) (x0 : Int32) (s0 : Int32) : Option (Int32) :=
  some ((x0 &&& 63) ||| s0)
set_option maxHeartbeats 4000000 in
set_option maxRecDepth 100000 in
theorem t_Mo_onward_31 {Z : cz_Z} {X : jz_X} {m : jz_M} {r : Int32} (C : jz_C X 3 b_Mo_onward R_Mo (some .int) rm_Mo_onward (mz_G Z)) : ∀ (x0 : Int32) (s0 : Int32) , f_Mo_onward_31 m x0 s0 = some r → jz_J X 3 (mz_G Z) (jz_q X (mz_G Z) (some (.int r)) m) m [(0, .int x0)] 31 [.int s0] := by
  intro x0 s0 h
  unfold f_Mo_onward_31 at h
  refine jr_istore_n 31 [(0, .int x0), (2, .int s0)] C d_Mo_onward_31 rfl (by decide) rfl ?_
  refine jr_iload_n 32 C d_Mo_onward_32 rfl ?_
  refine jr_bipush 33 63 C d_Mo_onward_33 (by decide) ?_
  refine jr_iand 35 C d_Mo_onward_35 ?_
  refine jr_iload_n 36 C d_Mo_onward_36 rfl ?_
  refine jr_ior 37 C d_Mo_onward_37 ?_
  obtain rfl := Option.some.inj h
  exact jr_iret 38 (v := ((x0 &&& 63) ||| s0)) C d_Mo_onward_38 rfl
def f_Mo_onward (a0 : Int32) (a1 : Int32) (m : jz_M) : Option (Int32) :=
  if ¬ ((a0 >>> (6 &&& 31)) &&& 1) = 0 then
    if ¬ (a1 - a1 / 7 * 7) = 0 then
      f_Mo_onward_31 m a0 64
    else
      f_Mo_onward_31 m a0 ((1 : Int32) <<< ((a1 / 7) &&& 31))
  else
    f_Mo_onward_31 m a0 0
set_option maxHeartbeats 4000000 in
set_option maxRecDepth 100000 in
theorem c_Mo_onward {Z : cz_Z} (l : Launch) (hI : jz_I (mz_G Z)) {a0 : Int32} {a1 : Int32} {m : jz_M} {r : Int32} (h : f_Mo_onward a0 a1 m = some r) : jz_m l y_Mo_onward cd_Mo_onward rm_Mo_onward (mz_G Z) [.int a0, .int a1] m (some (.int r)) m := by
  refine jz_met (own := R_Mo) (by decide) rfl hI (Nat.le_of_ble_eq_true rfl) (fun X hX C => ?_)
  subst hX
  show jz_J X 3 (mz_G Z) _ m [(0, .int a0), (1, .int a1)] 0 []
  unfold f_Mo_onward at h
  refine jr_iload_n 0 C d_Mo_onward_0 rfl ?_
  refine jr_bipush 1 6 C d_Mo_onward_1 (by decide) ?_
  refine jr_ishr 3 C d_Mo_onward_3 ?_
  refine jr_iconst 4 1 C d_Mo_onward_4 (by decide) ?_
  refine jr_iand 5 C d_Mo_onward_5 ?_
  refine jr_if_ne 6 13 C d_Mo_onward_6 (by decide) (fun c1_ => ?_) (fun c1_ => ?_)
  · have h := jz_t c1_ h
    refine jr_iload_n 13 C d_Mo_onward_13 rfl ?_
    refine jr_bipush 14 7 C d_Mo_onward_14 (by decide) ?_
    refine jr_irem 16 C d_Mo_onward_16 (by decide) ?_
    refine jr_if_ne 17 29 C d_Mo_onward_17 (by decide) (fun c2_ => ?_) (fun c2_ => ?_)
    · have h := jz_t c2_ h
      refine jr_bipush 29 64 C d_Mo_onward_29 (by decide) ?_
      refine jr_sub [0] rfl ?_
      exact t_Mo_onward_31 C  a0 64 h
    · have h := jz_f c2_ h
      refine jr_iconst 20 1 C d_Mo_onward_20 (by decide) ?_
      refine jr_iload_n 21 C d_Mo_onward_21 rfl ?_
      refine jr_bipush 22 7 C d_Mo_onward_22 (by decide) ?_
      refine jr_idiv 24 C d_Mo_onward_24 (by decide) ?_
      refine jr_ishl 25 C d_Mo_onward_25 ?_
      refine jr_goto 26 31 C d_Mo_onward_26 (by decide) ?_
      refine jr_sub [0] rfl ?_
      exact t_Mo_onward_31 C  a0 ((1 : Int32) <<< ((a1 / 7) &&& 31)) h
  · have h := jz_f c1_ h
    refine jr_iconst 9 0 C d_Mo_onward_9 (by decide) ?_
    refine jr_goto 10 31 C d_Mo_onward_10 (by decide) ?_
    refine jr_sub [0] rfl ?_
    exact t_Mo_onward_31 C  a0 0 h
abbrev rm_Mo_firstHops : Room := { frames := 2, cells := 0, slots := 0, locals := 49 }
abbrev cd_Mo_firstHops : Cond := .code y_Mo_firstHops b_Mo_firstHops 10 none
def f_Mo_firstHops_233 (k34 : Int32 → Int32 → Int32 → jz_M → Option (jz_M)) (k43 : Int32 → Int32 → Int32 → Int32 → jz_M → Option (jz_M)) (k62 : Int32 → Int32 → Int32 → Int32 → Int32 → Int32 → jz_M → Option (jz_M)) (x1 : Int32) (x2 : Int32) (x4 : Int32) (x5 : Int32) (x6 : Int32) (x7 : Int32) (x9 : Int32) (s0 : Int32) (m : jz_M) : Option (jz_M) :=
  (jz_ix 42 x7).bind fun j1_ =>
  jz_n (jz_up m 20 j1_ x9) fun m2_ =>
  jz_n (x6 + 1) fun x3_ =>
  k62 x1 x2 s0 x4 x5 x3_ m2_
set_option maxHeartbeats 4000000 in
set_option maxRecDepth 100000 in
theorem t_Mo_firstHops_233 {Z : cz_Z} {X : jz_X} {r : jz_M} (C : jz_C X 10 b_Mo_firstHops R_Mo none rm_Mo_firstHops (mz_G Z)) (k34 : Int32 → Int32 → Int32 → jz_M → Option (jz_M)) (hk34 : ∀ (x1 : Int32) (x2 : Int32) (x3 : Int32) (m : jz_M), k34 x1 x2 x3 m = some r → jz_J X 10 (mz_G Z) (jz_q X (mz_G Z) none r) m [(0, .ref (gz_ad (mz_G Z) 0)), (1, .int x1), (2, .int x2), (3, .int x3)] 34 []) (k43 : Int32 → Int32 → Int32 → Int32 → jz_M → Option (jz_M)) (hk43 : ∀ (x1 : Int32) (x2 : Int32) (x3 : Int32) (x4 : Int32) (m : jz_M), k43 x1 x2 x3 x4 m = some r → jz_J X 10 (mz_G Z) (jz_q X (mz_G Z) none r) m [(0, .ref (gz_ad (mz_G Z) 0)), (1, .int x1), (2, .int x2), (3, .int x3), (4, .int x4)] 43 []) (k62 : Int32 → Int32 → Int32 → Int32 → Int32 → Int32 → jz_M → Option (jz_M)) (hk62 : ∀ (x1 : Int32) (x2 : Int32) (x3 : Int32) (x4 : Int32) (x5 : Int32) (x6 : Int32) (m : jz_M), k62 x1 x2 x3 x4 x5 x6 m = some r → jz_J X 10 (mz_G Z) (jz_q X (mz_G Z) none r) m [(0, .ref (gz_ad (mz_G Z) 0)), (1, .int x1), (2, .int x2), (3, .int x3), (4, .int x4), (5, .int x5), (6, .int x6)] 62 []) : ∀ (x1 : Int32) (x2 : Int32) (x4 : Int32) (x5 : Int32) (x6 : Int32) (x7 : Int32) (x9 : Int32) (s0 : Int32) (m : jz_M) , f_Mo_firstHops_233 k34 k43 k62 x1 x2 x4 x5 x6 x7 x9 s0 m = some r → jz_J X 10 (mz_G Z) (jz_q X (mz_G Z) none r) m [(0, .ref (gz_ad (mz_G Z) 0)), (1, .int x1), (2, .int x2), (4, .int x4), (5, .int x5), (6, .int x6), (7, .int x7), (9, .int x9)] 233 [.int s0] := by
  intro x1 x2 x4 x5 x6 x7 x9 s0 m h
  unfold f_Mo_firstHops_233 at h
  refine jr_istore_n 233 [(0, .ref (gz_ad (mz_G Z) 0)), (1, .int x1), (2, .int x2), (4, .int x4), (5, .int x5), (6, .int x6), (7, .int x7), (9, .int x9), (3, .int s0)] C d_Mo_firstHops_233 rfl (by decide) rfl ?_
  refine jr_aload_n 234 C d_Mo_firstHops_234 rfl ?_
  refine gf_Mo_68 235 C d_Mo_firstHops_235 ?_
  refine jr_iload 238 C d_Mo_firstHops_238 rfl ?_
  refine jr_iload 240 C d_Mo_firstHops_240 rfl ?_
  obtain ⟨j1_, ej1_, h⟩ := jz_b h
  obtain ⟨m2_, em2_, h⟩ := jz_ne h
  refine jr_iast 242 C d_Mo_firstHops_242 zk_Mo_hops ej1_ ?_
  refine jr_mem em2_ ?_
  obtain ⟨x3_, ex3_, h⟩ := jz_ne h
  refine jr_iinc 243 [(0, .ref (gz_ad (mz_G Z) 0)), (1, .int x1), (2, .int x2), (4, .int x4), (5, .int x5), (6, .int x3_), (7, .int x7), (9, .int x9), (3, .int s0)] C d_Mo_firstHops_243 rfl (by decide) rfl (by rw [ex3_]; rfl) rfl ?_
  refine jr_goto 246 62 C d_Mo_firstHops_246 (by decide) ?_
  refine jr_sub [0, 1, 2, 8, 3, 4, 5] rfl ?_
  exact hk62 x1 x2 s0 x4 x5 x3_ m2_ h
def f_Mo_firstHops_228 (k34 : Int32 → Int32 → Int32 → jz_M → Option (jz_M)) (k43 : Int32 → Int32 → Int32 → Int32 → jz_M → Option (jz_M)) (k62 : Int32 → Int32 → Int32 → Int32 → Int32 → Int32 → jz_M → Option (jz_M)) (x1 : Int32) (x2 : Int32) (x4 : Int32) (x5 : Int32) (x6 : Int32) (x7 : Int32) (x9 : Int32) (m : jz_M) : Option (jz_M) :=
  f_Mo_firstHops_233 k34 k43 k62 x1 x2 x4 x5 x6 x7 x9 1 m
set_option maxHeartbeats 4000000 in
set_option maxRecDepth 100000 in
theorem t_Mo_firstHops_228 {Z : cz_Z} {X : jz_X} {r : jz_M} (C : jz_C X 10 b_Mo_firstHops R_Mo none rm_Mo_firstHops (mz_G Z)) (k34 : Int32 → Int32 → Int32 → jz_M → Option (jz_M)) (hk34 : ∀ (x1 : Int32) (x2 : Int32) (x3 : Int32) (m : jz_M), k34 x1 x2 x3 m = some r → jz_J X 10 (mz_G Z) (jz_q X (mz_G Z) none r) m [(0, .ref (gz_ad (mz_G Z) 0)), (1, .int x1), (2, .int x2), (3, .int x3)] 34 []) (k43 : Int32 → Int32 → Int32 → Int32 → jz_M → Option (jz_M)) (hk43 : ∀ (x1 : Int32) (x2 : Int32) (x3 : Int32) (x4 : Int32) (m : jz_M), k43 x1 x2 x3 x4 m = some r → jz_J X 10 (mz_G Z) (jz_q X (mz_G Z) none r) m [(0, .ref (gz_ad (mz_G Z) 0)), (1, .int x1), (2, .int x2), (3, .int x3), (4, .int x4)] 43 []) (k62 : Int32 → Int32 → Int32 → Int32 → Int32 → Int32 → jz_M → Option (jz_M)) (hk62 : ∀ (x1 : Int32) (x2 : Int32) (x3 : Int32) (x4 : Int32) (x5 : Int32) (x6 : Int32) (m : jz_M), k62 x1 x2 x3 x4 x5 x6 m = some r → jz_J X 10 (mz_G Z) (jz_q X (mz_G Z) none r) m [(0, .ref (gz_ad (mz_G Z) 0)), (1, .int x1), (2, .int x2), (3, .int x3), (4, .int x4), (5, .int x5), (6, .int x6)] 62 []) : ∀ (x1 : Int32) (x2 : Int32) (x4 : Int32) (x5 : Int32) (x6 : Int32) (x7 : Int32) (x9 : Int32) (m : jz_M) , f_Mo_firstHops_228 k34 k43 k62 x1 x2 x4 x5 x6 x7 x9 m = some r → jz_J X 10 (mz_G Z) (jz_q X (mz_G Z) none r) m [(0, .ref (gz_ad (mz_G Z) 0)), (1, .int x1), (2, .int x2), (4, .int x4), (5, .int x5), (6, .int x6), (7, .int x7), (9, .int x9)] 228 [] := by
  intro x1 x2 x4 x5 x6 x7 x9 m h
  unfold f_Mo_firstHops_228 at h
  refine jr_iconst 228 1 C d_Mo_firstHops_228 (by decide) ?_
  refine jr_goto 229 233 C d_Mo_firstHops_229 (by decide) ?_
  refine jr_sub [0, 1, 2, 3, 4, 5, 6, 7] rfl ?_
  exact t_Mo_firstHops_233 C k34 hk34 k43 hk43 k62 hk62 x1 x2 x4 x5 x6 x7 x9 1 m h
def f_Mo_firstHops_210 (k34 : Int32 → Int32 → Int32 → jz_M → Option (jz_M)) (k43 : Int32 → Int32 → Int32 → Int32 → jz_M → Option (jz_M)) (k62 : Int32 → Int32 → Int32 → Int32 → Int32 → Int32 → jz_M → Option (jz_M)) (x1 : Int32) (x2 : Int32) (x3 : Int32) (x4 : Int32) (x5 : Int32) (x6 : Int32) (x7 : Int32) (s0 : Int32) (m : jz_M) : Option (jz_M) :=
  if ¬ x3 = 0 then
    f_Mo_firstHops_228 k34 k43 k62 x1 x2 x4 x5 x6 x7 s0 m
  else
    (jz_ix 42 x7).bind fun j2_ =>
    if s0 = (m 20 j2_) then
      f_Mo_firstHops_233 k34 k43 k62 x1 x2 x4 x5 x6 x7 s0 0 m
    else
      f_Mo_firstHops_228 k34 k43 k62 x1 x2 x4 x5 x6 x7 s0 m
set_option maxHeartbeats 4000000 in
set_option maxRecDepth 100000 in
theorem t_Mo_firstHops_210 {Z : cz_Z} {X : jz_X} {r : jz_M} (C : jz_C X 10 b_Mo_firstHops R_Mo none rm_Mo_firstHops (mz_G Z)) (k34 : Int32 → Int32 → Int32 → jz_M → Option (jz_M)) (hk34 : ∀ (x1 : Int32) (x2 : Int32) (x3 : Int32) (m : jz_M), k34 x1 x2 x3 m = some r → jz_J X 10 (mz_G Z) (jz_q X (mz_G Z) none r) m [(0, .ref (gz_ad (mz_G Z) 0)), (1, .int x1), (2, .int x2), (3, .int x3)] 34 []) (k43 : Int32 → Int32 → Int32 → Int32 → jz_M → Option (jz_M)) (hk43 : ∀ (x1 : Int32) (x2 : Int32) (x3 : Int32) (x4 : Int32) (m : jz_M), k43 x1 x2 x3 x4 m = some r → jz_J X 10 (mz_G Z) (jz_q X (mz_G Z) none r) m [(0, .ref (gz_ad (mz_G Z) 0)), (1, .int x1), (2, .int x2), (3, .int x3), (4, .int x4)] 43 []) (k62 : Int32 → Int32 → Int32 → Int32 → Int32 → Int32 → jz_M → Option (jz_M)) (hk62 : ∀ (x1 : Int32) (x2 : Int32) (x3 : Int32) (x4 : Int32) (x5 : Int32) (x6 : Int32) (m : jz_M), k62 x1 x2 x3 x4 x5 x6 m = some r → jz_J X 10 (mz_G Z) (jz_q X (mz_G Z) none r) m [(0, .ref (gz_ad (mz_G Z) 0)), (1, .int x1), (2, .int x2), (3, .int x3), (4, .int x4), (5, .int x5), (6, .int x6)] 62 []) : ∀ (x1 : Int32) (x2 : Int32) (x3 : Int32) (x4 : Int32) (x5 : Int32) (x6 : Int32) (x7 : Int32) (s0 : Int32) (m : jz_M) , f_Mo_firstHops_210 k34 k43 k62 x1 x2 x3 x4 x5 x6 x7 s0 m = some r → jz_J X 10 (mz_G Z) (jz_q X (mz_G Z) none r) m [(0, .ref (gz_ad (mz_G Z) 0)), (1, .int x1), (2, .int x2), (3, .int x3), (4, .int x4), (5, .int x5), (6, .int x6), (7, .int x7)] 210 [.int s0] := by
  intro x1 x2 x3 x4 x5 x6 x7 s0 m h
  unfold f_Mo_firstHops_210 at h
  refine jr_istore 210 [(0, .ref (gz_ad (mz_G Z) 0)), (1, .int x1), (2, .int x2), (3, .int x3), (4, .int x4), (5, .int x5), (6, .int x6), (7, .int x7), (9, .int s0)] C d_Mo_firstHops_210 rfl (by decide) rfl ?_
  refine jr_iload_n 212 C d_Mo_firstHops_212 rfl ?_
  refine jr_if_ne 213 228 C d_Mo_firstHops_213 (by decide) (fun c1_ => ?_) (fun c1_ => ?_)
  · have h := jz_t c1_ h
    refine jr_sub [0, 1, 2, 4, 5, 6, 7, 8] rfl ?_
    exact t_Mo_firstHops_228 C k34 hk34 k43 hk43 k62 hk62 x1 x2 x4 x5 x6 x7 s0 m h
  · have h := jz_f c1_ h
    refine jr_iload 216 C d_Mo_firstHops_216 rfl ?_
    refine jr_aload_n 218 C d_Mo_firstHops_218 rfl ?_
    refine gf_Mo_68 219 C d_Mo_firstHops_219 ?_
    refine jr_iload 222 C d_Mo_firstHops_222 rfl ?_
    obtain ⟨j2_, ej2_, h⟩ := jz_b h
    refine jr_iald 224 C d_Mo_firstHops_224 zk_Mo_hops ej2_ ?_
    refine jr_icmp_eq 225 232 C d_Mo_firstHops_225 (by decide) (fun c3_ => ?_) (fun c3_ => ?_)
    · have h := jz_t c3_ h
      refine jr_iconst 232 0 C d_Mo_firstHops_232 (by decide) ?_
      refine jr_sub [0, 1, 2, 4, 5, 6, 7, 8] rfl ?_
      exact t_Mo_firstHops_233 C k34 hk34 k43 hk43 k62 hk62 x1 x2 x4 x5 x6 x7 s0 0 m h
    · have h := jz_f c3_ h
      refine jr_sub [0, 1, 2, 4, 5, 6, 7, 8] rfl ?_
      exact t_Mo_firstHops_228 C k34 hk34 k43 hk43 k62 hk62 x1 x2 x4 x5 x6 x7 s0 m h
def f_Mo_firstHops_173 (k34 : Int32 → Int32 → Int32 → jz_M → Option (jz_M)) (k43 : Int32 → Int32 → Int32 → Int32 → jz_M → Option (jz_M)) (k62 : Int32 → Int32 → Int32 → Int32 → Int32 → Int32 → jz_M → Option (jz_M)) (x1 : Int32) (x2 : Int32) (x3 : Int32) (x4 : Int32) (x5 : Int32) (x6 : Int32) (x7 : Int32) (s0 : Int32) (m : jz_M) : Option (jz_M) :=
  if s0 = 0 then
    (jz_ix 42 x7).bind fun j2_ =>
    f_Mo_firstHops_210 k34 k43 k62 x1 x2 x3 x4 x5 x6 x7 (m 20 j2_) m
  else
    (jz_ix 42 x7).bind fun j3_ =>
    (jz_ix 42 x4).bind fun j4_ =>
    (f_Mo_onward (m 20 j4_) x7 m).bind fun v5_ =>
    f_Mo_firstHops_210 k34 k43 k62 x1 x2 x3 x4 x5 x6 x7 ((m 20 j3_) ||| v5_) m
set_option maxHeartbeats 4000000 in
set_option maxRecDepth 100000 in
theorem t_Mo_firstHops_173 {Z : cz_Z} {X : jz_X} {r : jz_M} (C : jz_C X 10 b_Mo_firstHops R_Mo none rm_Mo_firstHops (mz_G Z)) (k34 : Int32 → Int32 → Int32 → jz_M → Option (jz_M)) (hk34 : ∀ (x1 : Int32) (x2 : Int32) (x3 : Int32) (m : jz_M), k34 x1 x2 x3 m = some r → jz_J X 10 (mz_G Z) (jz_q X (mz_G Z) none r) m [(0, .ref (gz_ad (mz_G Z) 0)), (1, .int x1), (2, .int x2), (3, .int x3)] 34 []) (k43 : Int32 → Int32 → Int32 → Int32 → jz_M → Option (jz_M)) (hk43 : ∀ (x1 : Int32) (x2 : Int32) (x3 : Int32) (x4 : Int32) (m : jz_M), k43 x1 x2 x3 x4 m = some r → jz_J X 10 (mz_G Z) (jz_q X (mz_G Z) none r) m [(0, .ref (gz_ad (mz_G Z) 0)), (1, .int x1), (2, .int x2), (3, .int x3), (4, .int x4)] 43 []) (k62 : Int32 → Int32 → Int32 → Int32 → Int32 → Int32 → jz_M → Option (jz_M)) (hk62 : ∀ (x1 : Int32) (x2 : Int32) (x3 : Int32) (x4 : Int32) (x5 : Int32) (x6 : Int32) (m : jz_M), k62 x1 x2 x3 x4 x5 x6 m = some r → jz_J X 10 (mz_G Z) (jz_q X (mz_G Z) none r) m [(0, .ref (gz_ad (mz_G Z) 0)), (1, .int x1), (2, .int x2), (3, .int x3), (4, .int x4), (5, .int x5), (6, .int x6)] 62 []) : ∀ (x1 : Int32) (x2 : Int32) (x3 : Int32) (x4 : Int32) (x5 : Int32) (x6 : Int32) (x7 : Int32) (s0 : Int32) (m : jz_M) , f_Mo_firstHops_173 k34 k43 k62 x1 x2 x3 x4 x5 x6 x7 s0 m = some r → jz_J X 10 (mz_G Z) (jz_q X (mz_G Z) none r) m [(0, .ref (gz_ad (mz_G Z) 0)), (1, .int x1), (2, .int x2), (3, .int x3), (4, .int x4), (5, .int x5), (6, .int x6), (7, .int x7)] 173 [.int s0] := by
  intro x1 x2 x3 x4 x5 x6 x7 s0 m h
  unfold f_Mo_firstHops_173 at h
  refine jr_istore 173 [(0, .ref (gz_ad (mz_G Z) 0)), (1, .int x1), (2, .int x2), (3, .int x3), (4, .int x4), (5, .int x5), (6, .int x6), (7, .int x7), (8, .int s0)] C d_Mo_firstHops_173 rfl (by decide) rfl ?_
  refine jr_iload 175 C d_Mo_firstHops_175 rfl ?_
  refine jr_if_eq 177 203 C d_Mo_firstHops_177 (by decide) (fun c1_ => ?_) (fun c1_ => ?_)
  · have h := jz_t c1_ h
    refine jr_aload_n 203 C d_Mo_firstHops_203 rfl ?_
    refine gf_Mo_68 204 C d_Mo_firstHops_204 ?_
    refine jr_iload 207 C d_Mo_firstHops_207 rfl ?_
    obtain ⟨j2_, ej2_, h⟩ := jz_b h
    refine jr_iald 209 C d_Mo_firstHops_209 zk_Mo_hops ej2_ ?_
    refine jr_sub [0, 1, 2, 3, 4, 5, 6, 7] rfl ?_
    exact t_Mo_firstHops_210 C k34 hk34 k43 hk43 k62 hk62 x1 x2 x3 x4 x5 x6 x7 (m 20 j2_) m h
  · have h := jz_f c1_ h
    refine jr_aload_n 180 C d_Mo_firstHops_180 rfl ?_
    refine gf_Mo_68 181 C d_Mo_firstHops_181 ?_
    refine jr_iload 184 C d_Mo_firstHops_184 rfl ?_
    obtain ⟨j3_, ej3_, h⟩ := jz_b h
    refine jr_iald 186 C d_Mo_firstHops_186 zk_Mo_hops ej3_ ?_
    refine jr_aload_n 187 C d_Mo_firstHops_187 rfl ?_
    refine gf_Mo_68 188 C d_Mo_firstHops_188 ?_
    refine jr_iload 191 C d_Mo_firstHops_191 rfl ?_
    obtain ⟨j4_, ej4_, h⟩ := jz_b h
    refine jr_iald 193 C d_Mo_firstHops_193 zk_Mo_hops ej4_ ?_
    refine jr_iload 194 C d_Mo_firstHops_194 rfl ?_
    obtain ⟨v5_, ev5_, h⟩ := jz_b h
    refine jr_callS 196 [.int (m 20 j4_), .int x7] C d_Mo_firstHops_196 (c_Mo_onward (xz_l X) C.2.2.2.2.2.2.1  ev5_) sz_Mo_onward tz_Mo_onward lk_Mo_183 (by decide) rfl rfl (Nat.le_of_ble_eq_true rfl) rfl ?_
    refine jr_ior 199 C d_Mo_firstHops_199 ?_
    refine jr_goto 200 210 C d_Mo_firstHops_200 (by decide) ?_
    refine jr_sub [0, 1, 2, 3, 4, 5, 6, 7] rfl ?_
    exact t_Mo_firstHops_210 C k34 hk34 k43 hk43 k62 hk62 x1 x2 x3 x4 x5 x6 x7 ((m 20 j3_) ||| v5_) m h
def f_Mo_firstHops_172 (k34 : Int32 → Int32 → Int32 → jz_M → Option (jz_M)) (k43 : Int32 → Int32 → Int32 → Int32 → jz_M → Option (jz_M)) (k62 : Int32 → Int32 → Int32 → Int32 → Int32 → Int32 → jz_M → Option (jz_M)) (x1 : Int32) (x2 : Int32) (x3 : Int32) (x4 : Int32) (x5 : Int32) (x6 : Int32) (x7 : Int32) (m : jz_M) : Option (jz_M) :=
  f_Mo_firstHops_173 k34 k43 k62 x1 x2 x3 x4 x5 x6 x7 0 m
set_option maxHeartbeats 4000000 in
set_option maxRecDepth 100000 in
theorem t_Mo_firstHops_172 {Z : cz_Z} {X : jz_X} {r : jz_M} (C : jz_C X 10 b_Mo_firstHops R_Mo none rm_Mo_firstHops (mz_G Z)) (k34 : Int32 → Int32 → Int32 → jz_M → Option (jz_M)) (hk34 : ∀ (x1 : Int32) (x2 : Int32) (x3 : Int32) (m : jz_M), k34 x1 x2 x3 m = some r → jz_J X 10 (mz_G Z) (jz_q X (mz_G Z) none r) m [(0, .ref (gz_ad (mz_G Z) 0)), (1, .int x1), (2, .int x2), (3, .int x3)] 34 []) (k43 : Int32 → Int32 → Int32 → Int32 → jz_M → Option (jz_M)) (hk43 : ∀ (x1 : Int32) (x2 : Int32) (x3 : Int32) (x4 : Int32) (m : jz_M), k43 x1 x2 x3 x4 m = some r → jz_J X 10 (mz_G Z) (jz_q X (mz_G Z) none r) m [(0, .ref (gz_ad (mz_G Z) 0)), (1, .int x1), (2, .int x2), (3, .int x3), (4, .int x4)] 43 []) (k62 : Int32 → Int32 → Int32 → Int32 → Int32 → Int32 → jz_M → Option (jz_M)) (hk62 : ∀ (x1 : Int32) (x2 : Int32) (x3 : Int32) (x4 : Int32) (x5 : Int32) (x6 : Int32) (m : jz_M), k62 x1 x2 x3 x4 x5 x6 m = some r → jz_J X 10 (mz_G Z) (jz_q X (mz_G Z) none r) m [(0, .ref (gz_ad (mz_G Z) 0)), (1, .int x1), (2, .int x2), (3, .int x3), (4, .int x4), (5, .int x5), (6, .int x6)] 62 []) : ∀ (x1 : Int32) (x2 : Int32) (x3 : Int32) (x4 : Int32) (x5 : Int32) (x6 : Int32) (x7 : Int32) (m : jz_M) , f_Mo_firstHops_172 k34 k43 k62 x1 x2 x3 x4 x5 x6 x7 m = some r → jz_J X 10 (mz_G Z) (jz_q X (mz_G Z) none r) m [(0, .ref (gz_ad (mz_G Z) 0)), (1, .int x1), (2, .int x2), (3, .int x3), (4, .int x4), (5, .int x5), (6, .int x6), (7, .int x7)] 172 [] := by
  intro x1 x2 x3 x4 x5 x6 x7 m h
  unfold f_Mo_firstHops_172 at h
  refine jr_iconst 172 0 C d_Mo_firstHops_172 (by decide) ?_
  refine jr_sub [0, 1, 2, 3, 4, 5, 6, 7] rfl ?_
  exact t_Mo_firstHops_173 C k34 hk34 k43 hk43 k62 hk62 x1 x2 x3 x4 x5 x6 x7 0 m h
def f_Mo_firstHops_62 (k34 : Int32 → Int32 → Int32 → jz_M → Option (jz_M)) (k43 : Int32 → Int32 → Int32 → Int32 → jz_M → Option (jz_M)) : Nat → Int32 → Int32 → Int32 → Int32 → Int32 → Int32 → jz_M → Option (jz_M)
  | 0, _, _, _, _, _, _, _ => none
  | fu + 1, x1, x2, x3, x4, x5, x6, m =>
    (jz_ix 42 x4).bind fun j1_ =>
    if (m 19 j1_) < 0 then
      jz_n (x4 + 1) fun x3_ =>
      k43 x1 x2 x3 x3_ m
    else
      (jz_ix 42 x4).bind fun j4_ =>
      if (m 20 j4_) = 0 then
        jz_n (x4 + 1) fun x6_ =>
        k43 x1 x2 x3 x6_ m
      else
        (jz_ix 504 x5).bind fun j7_ =>
        if (m 14 j7_) ≤ x6 then
          jz_n (x4 + 1) fun x9_ =>
          k43 x1 x2 x3 x9_ m
        else
          (jz_ix 5040 (((10 : Int32) * x5) + x6)).bind fun j10_ =>
          jz_n ((m 15 j10_) &&& 63) fun x11_ =>
          (jz_ix 42 x11_).bind fun j12_ =>
          (jz_ix 42 x4).bind fun j13_ =>
          (jz_ix 5040 (((10 : Int32) * x5) + x6)).bind fun j14_ =>
          if ¬ (m 19 j12_) = ((m 19 j13_) + ((m 15 j14_) >>> (6 &&& 31))) then
            f_Mo_firstHops_172 k34 k43 (f_Mo_firstHops_62 k34 k43 fu) x1 x2 x3 x4 x5 x6 x11_ m
          else
            if x11_ = ((7 : Int32) * x1) then
              f_Mo_firstHops_172 k34 k43 (f_Mo_firstHops_62 k34 k43 fu) x1 x2 x3 x4 x5 x6 x11_ m
            else
              (f_Mo_linksTo x1 x2 x11_ x4 m).bind fun v17_ =>
              if v17_ = 0 then
                f_Mo_firstHops_172 k34 k43 (f_Mo_firstHops_62 k34 k43 fu) x1 x2 x3 x4 x5 x6 x11_ m
              else
                f_Mo_firstHops_173 k34 k43 (f_Mo_firstHops_62 k34 k43 fu) x1 x2 x3 x4 x5 x6 x11_ 1 m
set_option maxHeartbeats 4000000 in
set_option maxRecDepth 100000 in
theorem t_Mo_firstHops_62 {Z : cz_Z} {X : jz_X} {r : jz_M} (C : jz_C X 10 b_Mo_firstHops R_Mo none rm_Mo_firstHops (mz_G Z)) (k34 : Int32 → Int32 → Int32 → jz_M → Option (jz_M)) (hk34 : ∀ (x1 : Int32) (x2 : Int32) (x3 : Int32) (m : jz_M), k34 x1 x2 x3 m = some r → jz_J X 10 (mz_G Z) (jz_q X (mz_G Z) none r) m [(0, .ref (gz_ad (mz_G Z) 0)), (1, .int x1), (2, .int x2), (3, .int x3)] 34 []) (k43 : Int32 → Int32 → Int32 → Int32 → jz_M → Option (jz_M)) (hk43 : ∀ (x1 : Int32) (x2 : Int32) (x3 : Int32) (x4 : Int32) (m : jz_M), k43 x1 x2 x3 x4 m = some r → jz_J X 10 (mz_G Z) (jz_q X (mz_G Z) none r) m [(0, .ref (gz_ad (mz_G Z) 0)), (1, .int x1), (2, .int x2), (3, .int x3), (4, .int x4)] 43 []) : ∀ (fu : Nat) (x1 : Int32) (x2 : Int32) (x3 : Int32) (x4 : Int32) (x5 : Int32) (x6 : Int32) (m : jz_M) , f_Mo_firstHops_62 k34 k43 fu x1 x2 x3 x4 x5 x6 m = some r → jz_J X 10 (mz_G Z) (jz_q X (mz_G Z) none r) m [(0, .ref (gz_ad (mz_G Z) 0)), (1, .int x1), (2, .int x2), (3, .int x3), (4, .int x4), (5, .int x5), (6, .int x6)] 62 [] := by
  intro fu
  induction fu with
  | zero => intro x1 x2 x3 x4 x5 x6 m h; cases h
  | succ fu ih =>
    intro x1 x2 x3 x4 x5 x6 m h
    rw [f_Mo_firstHops_62] at h
    refine jr_aload_n 62 C d_Mo_firstHops_62 rfl ?_
    refine gf_Mo_65 63 C d_Mo_firstHops_63 ?_
    refine jr_iload 66 C d_Mo_firstHops_66 rfl ?_
    obtain ⟨j1_, ej1_, h⟩ := jz_b h
    refine jr_iald 68 C d_Mo_firstHops_68 zk_Mo_cost ej1_ ?_
    refine jr_if_lt 69 249 C d_Mo_firstHops_69 (by decide) (fun c2_ => ?_) (fun c2_ => ?_)
    · have h := jz_t c2_ h
      obtain ⟨x3_, ex3_, h⟩ := jz_ne h
      refine jr_iinc 249 [(0, .ref (gz_ad (mz_G Z) 0)), (1, .int x1), (2, .int x2), (3, .int x3), (4, .int x3_), (5, .int x5), (6, .int x6)] C d_Mo_firstHops_249 rfl (by decide) rfl (by rw [ex3_]; rfl) rfl ?_
      refine jr_goto 252 43 C d_Mo_firstHops_252 (by decide) ?_
      refine jr_sub [0, 1, 2, 3, 4] rfl ?_
      exact hk43 x1 x2 x3 x3_ m  h
    · have h := jz_f c2_ h
      refine jr_aload_n 72 C d_Mo_firstHops_72 rfl ?_
      refine gf_Mo_68 73 C d_Mo_firstHops_73 ?_
      refine jr_iload 76 C d_Mo_firstHops_76 rfl ?_
      obtain ⟨j4_, ej4_, h⟩ := jz_b h
      refine jr_iald 78 C d_Mo_firstHops_78 zk_Mo_hops ej4_ ?_
      refine jr_if_eq 79 249 C d_Mo_firstHops_79 (by decide) (fun c5_ => ?_) (fun c5_ => ?_)
      · have h := jz_t c5_ h
        obtain ⟨x6_, ex6_, h⟩ := jz_ne h
        refine jr_iinc 249 [(0, .ref (gz_ad (mz_G Z) 0)), (1, .int x1), (2, .int x2), (3, .int x3), (4, .int x6_), (5, .int x5), (6, .int x6)] C d_Mo_firstHops_249 rfl (by decide) rfl (by rw [ex6_]; rfl) rfl ?_
        refine jr_goto 252 43 C d_Mo_firstHops_252 (by decide) ?_
        refine jr_sub [0, 1, 2, 3, 4] rfl ?_
        exact hk43 x1 x2 x3 x6_ m  h
      · have h := jz_f c5_ h
        refine jr_iload 82 C d_Mo_firstHops_82 rfl ?_
        refine jr_aload_n 84 C d_Mo_firstHops_84 rfl ?_
        refine gf_Mo_50 85 C d_Mo_firstHops_85 ?_
        refine jr_iload 88 C d_Mo_firstHops_88 rfl ?_
        obtain ⟨j7_, ej7_, h⟩ := jz_b h
        refine jr_iald 90 C d_Mo_firstHops_90 zk_Mo_many ej7_ ?_
        refine jr_icmp_ge 91 249 C d_Mo_firstHops_91 (by decide) (fun c8_ => ?_) (fun c8_ => ?_)
        · have h := jz_t c8_ h
          obtain ⟨x9_, ex9_, h⟩ := jz_ne h
          refine jr_iinc 249 [(0, .ref (gz_ad (mz_G Z) 0)), (1, .int x1), (2, .int x2), (3, .int x3), (4, .int x9_), (5, .int x5), (6, .int x6)] C d_Mo_firstHops_249 rfl (by decide) rfl (by rw [ex9_]; rfl) rfl ?_
          refine jr_goto 252 43 C d_Mo_firstHops_252 (by decide) ?_
          refine jr_sub [0, 1, 2, 3, 4] rfl ?_
          exact hk43 x1 x2 x3 x9_ m  h
        · have h := jz_f c8_ h
          refine jr_aload_n 94 C d_Mo_firstHops_94 rfl ?_
          refine gf_Mo_53 95 C d_Mo_firstHops_95 ?_
          refine jr_bipush 98 10 C d_Mo_firstHops_98 (by decide) ?_
          refine jr_iload 100 C d_Mo_firstHops_100 rfl ?_
          refine jr_imul 102 C d_Mo_firstHops_102 ?_
          refine jr_iload 103 C d_Mo_firstHops_103 rfl ?_
          refine jr_iadd 105 C d_Mo_firstHops_105 ?_
          obtain ⟨j10_, ej10_, h⟩ := jz_b h
          refine jr_iald 106 C d_Mo_firstHops_106 zk_Mo_link ej10_ ?_
          refine jr_bipush 107 63 C d_Mo_firstHops_107 (by decide) ?_
          refine jr_iand 109 C d_Mo_firstHops_109 ?_
          obtain ⟨x11_, ex11_, h⟩ := jz_ne h
          refine jr_top ex11_ ?_
          refine jr_istore 110 [(0, .ref (gz_ad (mz_G Z) 0)), (1, .int x1), (2, .int x2), (3, .int x3), (4, .int x4), (5, .int x5), (6, .int x6), (7, .int x11_)] C d_Mo_firstHops_110 rfl (by decide) rfl ?_
          refine jr_aload_n 112 C d_Mo_firstHops_112 rfl ?_
          refine gf_Mo_65 113 C d_Mo_firstHops_113 ?_
          refine jr_iload 116 C d_Mo_firstHops_116 rfl ?_
          obtain ⟨j12_, ej12_, h⟩ := jz_b h
          refine jr_iald 118 C d_Mo_firstHops_118 zk_Mo_cost ej12_ ?_
          refine jr_aload_n 119 C d_Mo_firstHops_119 rfl ?_
          refine gf_Mo_65 120 C d_Mo_firstHops_120 ?_
          refine jr_iload 123 C d_Mo_firstHops_123 rfl ?_
          obtain ⟨j13_, ej13_, h⟩ := jz_b h
          refine jr_iald 125 C d_Mo_firstHops_125 zk_Mo_cost ej13_ ?_
          refine jr_aload_n 126 C d_Mo_firstHops_126 rfl ?_
          refine gf_Mo_53 127 C d_Mo_firstHops_127 ?_
          refine jr_bipush 130 10 C d_Mo_firstHops_130 (by decide) ?_
          refine jr_iload 132 C d_Mo_firstHops_132 rfl ?_
          refine jr_imul 134 C d_Mo_firstHops_134 ?_
          refine jr_iload 135 C d_Mo_firstHops_135 rfl ?_
          refine jr_iadd 137 C d_Mo_firstHops_137 ?_
          obtain ⟨j14_, ej14_, h⟩ := jz_b h
          refine jr_iald 138 C d_Mo_firstHops_138 zk_Mo_link ej14_ ?_
          refine jr_bipush 139 6 C d_Mo_firstHops_139 (by decide) ?_
          refine jr_ishr 141 C d_Mo_firstHops_141 ?_
          refine jr_iadd 142 C d_Mo_firstHops_142 ?_
          refine jr_icmp_ne 143 172 C d_Mo_firstHops_143 (by decide) (fun c15_ => ?_) (fun c15_ => ?_)
          · have h := jz_t c15_ h
            refine jr_sub [0, 1, 2, 3, 4, 5, 6, 7] rfl ?_
            exact t_Mo_firstHops_172 C k34 hk34 k43 hk43 (f_Mo_firstHops_62 k34 k43 fu) ih x1 x2 x3 x4 x5 x6 x11_ m h
          · have h := jz_f c15_ h
            refine jr_iload 146 C d_Mo_firstHops_146 rfl ?_
            refine jr_bipush 148 7 C d_Mo_firstHops_148 (by decide) ?_
            refine jr_iload_n 150 C d_Mo_firstHops_150 rfl ?_
            refine jr_imul 151 C d_Mo_firstHops_151 ?_
            refine jr_icmp_eq 152 172 C d_Mo_firstHops_152 (by decide) (fun c16_ => ?_) (fun c16_ => ?_)
            · have h := jz_t c16_ h
              refine jr_sub [0, 1, 2, 3, 4, 5, 6, 7] rfl ?_
              exact t_Mo_firstHops_172 C k34 hk34 k43 hk43 (f_Mo_firstHops_62 k34 k43 fu) ih x1 x2 x3 x4 x5 x6 x11_ m h
            · have h := jz_f c16_ h
              refine jr_aload_n 155 C d_Mo_firstHops_155 rfl ?_
              refine jr_iload_n 156 C d_Mo_firstHops_156 rfl ?_
              refine jr_iload_n 157 C d_Mo_firstHops_157 rfl ?_
              refine jr_iload 158 C d_Mo_firstHops_158 rfl ?_
              refine jr_iload 160 C d_Mo_firstHops_160 rfl ?_
              obtain ⟨v17_, ev17_, h⟩ := jz_b h
              refine jr_callV 162 [.int x1, .int x2, .int x11_, .int x4] C d_Mo_firstHops_162 (c_Mo_linksTo (xz_l X) C.2.2.2.2.2.2.1  ev17_) sz_Mo_linksTo tz_Mo_linksTo lk_Mo_180 oz_Mo rfl (by decide) rfl rfl (Nat.le_of_ble_eq_true rfl) rfl ?_
              refine jr_if_eq 165 172 C d_Mo_firstHops_165 (by decide) (fun c18_ => ?_) (fun c18_ => ?_)
              · have h := jz_t c18_ h
                refine jr_sub [0, 1, 2, 3, 4, 5, 6, 7] rfl ?_
                exact t_Mo_firstHops_172 C k34 hk34 k43 hk43 (f_Mo_firstHops_62 k34 k43 fu) ih x1 x2 x3 x4 x5 x6 x11_ m h
              · have h := jz_f c18_ h
                refine jr_iconst 168 1 C d_Mo_firstHops_168 (by decide) ?_
                refine jr_goto 169 173 C d_Mo_firstHops_169 (by decide) ?_
                refine jr_sub [0, 1, 2, 3, 4, 5, 6, 7] rfl ?_
                exact t_Mo_firstHops_173 C k34 hk34 k43 hk43 (f_Mo_firstHops_62 k34 k43 fu) ih x1 x2 x3 x4 x5 x6 x11_ 1 m h
def f_Mo_firstHops_43 (k34 : Int32 → Int32 → Int32 → jz_M → Option (jz_M)) : Nat → Int32 → Int32 → Int32 → Int32 → jz_M → Option (jz_M)
  | 0, _, _, _, _, _ => none
  | fu + 1, x1, x2, x3, x4, m =>
    if 42 ≤ x4 then
      k34 x1 x2 x3 m
    else
      (f_Mo_at x1 x2 x4 m).bind fun v2_ =>
      f_Mo_firstHops_62 k34 (f_Mo_firstHops_43 k34 fu) 1000000 x1 x2 x3 x4 v2_ 0 m
set_option maxHeartbeats 4000000 in
set_option maxRecDepth 100000 in
theorem t_Mo_firstHops_43 {Z : cz_Z} {X : jz_X} {r : jz_M} (C : jz_C X 10 b_Mo_firstHops R_Mo none rm_Mo_firstHops (mz_G Z)) (k34 : Int32 → Int32 → Int32 → jz_M → Option (jz_M)) (hk34 : ∀ (x1 : Int32) (x2 : Int32) (x3 : Int32) (m : jz_M), k34 x1 x2 x3 m = some r → jz_J X 10 (mz_G Z) (jz_q X (mz_G Z) none r) m [(0, .ref (gz_ad (mz_G Z) 0)), (1, .int x1), (2, .int x2), (3, .int x3)] 34 []) : ∀ (fu : Nat) (x1 : Int32) (x2 : Int32) (x3 : Int32) (x4 : Int32) (m : jz_M) , f_Mo_firstHops_43 k34 fu x1 x2 x3 x4 m = some r → jz_J X 10 (mz_G Z) (jz_q X (mz_G Z) none r) m [(0, .ref (gz_ad (mz_G Z) 0)), (1, .int x1), (2, .int x2), (3, .int x3), (4, .int x4)] 43 [] := by
  intro fu
  induction fu with
  | zero => intro x1 x2 x3 x4 m h; cases h
  | succ fu ih =>
    intro x1 x2 x3 x4 m h
    rw [f_Mo_firstHops_43] at h
    refine jr_iload 43 C d_Mo_firstHops_43 rfl ?_
    refine jr_bipush 45 42 C d_Mo_firstHops_45 (by decide) ?_
    refine jr_icmp_ge 47 255 C d_Mo_firstHops_47 (by decide) (fun c1_ => ?_) (fun c1_ => ?_)
    · have h := jz_t c1_ h
      refine jr_goto 255 34 C d_Mo_firstHops_255 (by decide) ?_
      refine jr_sub [0, 1, 2, 3] rfl ?_
      exact hk34 x1 x2 x3 m  h
    · have h := jz_f c1_ h
      refine jr_iload_n 50 C d_Mo_firstHops_50 rfl ?_
      refine jr_iload_n 51 C d_Mo_firstHops_51 rfl ?_
      refine jr_iload 52 C d_Mo_firstHops_52 rfl ?_
      obtain ⟨v2_, ev2_, h⟩ := jz_b h
      refine jr_callS 54 [.int x1, .int x2, .int x4] C d_Mo_firstHops_54 (c_Mo_at (xz_l X) C.2.2.2.2.2.2.1  ev2_) sz_Mo_at tz_Mo_at lk_Mo_133 (by decide) rfl rfl (Nat.le_of_ble_eq_true rfl) rfl ?_
      refine jr_istore 57 [(0, .ref (gz_ad (mz_G Z) 0)), (1, .int x1), (2, .int x2), (3, .int x3), (4, .int x4), (5, .int v2_)] C d_Mo_firstHops_57 rfl (by decide) rfl ?_
      refine jr_iconst 59 0 C d_Mo_firstHops_59 (by decide) ?_
      refine jr_istore 60 [(0, .ref (gz_ad (mz_G Z) 0)), (1, .int x1), (2, .int x2), (3, .int x3), (4, .int x4), (5, .int v2_), (6, .int 0)] C d_Mo_firstHops_60 rfl (by decide) rfl ?_
      refine jr_sub [0, 1, 2, 3, 4, 5, 6] rfl ?_
      exact t_Mo_firstHops_62 C k34 hk34 (f_Mo_firstHops_43 k34 fu) ih 1000000 x1 x2 x3 x4 v2_ 0 m h
def f_Mo_firstHops_34 : Nat → Int32 → Int32 → Int32 → jz_M → Option (jz_M)
  | 0, _, _, _, _ => none
  | fu + 1, x1, x2, x3, m =>
    if x3 = 0 then
      some m
    else
      f_Mo_firstHops_43 (f_Mo_firstHops_34 fu) 1000000 x1 x2 0 0 m
set_option maxHeartbeats 4000000 in
set_option maxRecDepth 100000 in
theorem t_Mo_firstHops_34 {Z : cz_Z} {X : jz_X} {r : jz_M} (C : jz_C X 10 b_Mo_firstHops R_Mo none rm_Mo_firstHops (mz_G Z)) : ∀ (fu : Nat) (x1 : Int32) (x2 : Int32) (x3 : Int32) (m : jz_M) , f_Mo_firstHops_34 fu x1 x2 x3 m = some r → jz_J X 10 (mz_G Z) (jz_q X (mz_G Z) none r) m [(0, .ref (gz_ad (mz_G Z) 0)), (1, .int x1), (2, .int x2), (3, .int x3)] 34 [] := by
  intro fu
  induction fu with
  | zero => intro x1 x2 x3 m h; cases h
  | succ fu ih =>
    intro x1 x2 x3 m h
    rw [f_Mo_firstHops_34] at h
    refine jr_iload_n 34 C d_Mo_firstHops_34 rfl ?_
    refine jr_if_eq 35 258 C d_Mo_firstHops_35 (by decide) (fun c1_ => ?_) (fun c1_ => ?_)
    · have h := jz_t c1_ h
      obtain rfl := Option.some.inj h
      exact jr_vret 258 C d_Mo_firstHops_258 rfl
    · have h := jz_f c1_ h
      refine jr_iconst 38 0 C d_Mo_firstHops_38 (by decide) ?_
      refine jr_istore_n 39 [(0, .ref (gz_ad (mz_G Z) 0)), (1, .int x1), (2, .int x2), (3, .int 0)] C d_Mo_firstHops_39 rfl (by decide) rfl ?_
      refine jr_iconst 40 0 C d_Mo_firstHops_40 (by decide) ?_
      refine jr_istore 41 [(0, .ref (gz_ad (mz_G Z) 0)), (1, .int x1), (2, .int x2), (3, .int 0), (4, .int 0)] C d_Mo_firstHops_41 rfl (by decide) rfl ?_
      refine jr_sub [0, 1, 2, 3, 4] rfl ?_
      exact t_Mo_firstHops_43 C (f_Mo_firstHops_34 fu) ih 1000000 x1 x2 0 0 m h
def f_Mo_firstHops_2 : Nat → Int32 → Int32 → Int32 → jz_M → Option (jz_M)
  | 0, _, _, _, _ => none
  | fu + 1, x1, x2, x3, m =>
    if 42 ≤ x3 then
      (jz_ix 42 ((7 : Int32) * x1)).bind fun j2_ =>
      jz_n (jz_up m 20 j2_ 64) fun m3_ =>
      f_Mo_firstHops_34 1000000 x1 x2 1 m3_
    else
      (jz_ix 42 x3).bind fun j4_ =>
      jz_n (jz_up m 20 j4_ 0) fun m5_ =>
      jz_n (x3 + 1) fun x6_ =>
      f_Mo_firstHops_2 fu x1 x2 x6_ m5_
set_option maxHeartbeats 4000000 in
set_option maxRecDepth 100000 in
theorem t_Mo_firstHops_2 {Z : cz_Z} {X : jz_X} {r : jz_M} (C : jz_C X 10 b_Mo_firstHops R_Mo none rm_Mo_firstHops (mz_G Z)) : ∀ (fu : Nat) (x1 : Int32) (x2 : Int32) (x3 : Int32) (m : jz_M) , f_Mo_firstHops_2 fu x1 x2 x3 m = some r → jz_J X 10 (mz_G Z) (jz_q X (mz_G Z) none r) m [(0, .ref (gz_ad (mz_G Z) 0)), (1, .int x1), (2, .int x2), (3, .int x3)] 2 [] := by
  intro fu
  induction fu with
  | zero => intro x1 x2 x3 m h; cases h
  | succ fu ih =>
    intro x1 x2 x3 m h
    rw [f_Mo_firstHops_2] at h
    refine jr_iload_n 2 C d_Mo_firstHops_2 rfl ?_
    refine jr_bipush 3 42 C d_Mo_firstHops_3 (by decide) ?_
    refine jr_icmp_ge 5 21 C d_Mo_firstHops_5 (by decide) (fun c1_ => ?_) (fun c1_ => ?_)
    · have h := jz_t c1_ h
      refine jr_aload_n 21 C d_Mo_firstHops_21 rfl ?_
      refine gf_Mo_68 22 C d_Mo_firstHops_22 ?_
      refine jr_bipush 25 7 C d_Mo_firstHops_25 (by decide) ?_
      refine jr_iload_n 27 C d_Mo_firstHops_27 rfl ?_
      refine jr_imul 28 C d_Mo_firstHops_28 ?_
      refine jr_bipush 29 64 C d_Mo_firstHops_29 (by decide) ?_
      obtain ⟨j2_, ej2_, h⟩ := jz_b h
      obtain ⟨m3_, em3_, h⟩ := jz_ne h
      refine jr_iast 31 C d_Mo_firstHops_31 zk_Mo_hops ej2_ ?_
      refine jr_mem em3_ ?_
      refine jr_iconst 32 1 C d_Mo_firstHops_32 (by decide) ?_
      refine jr_istore_n 33 [(0, .ref (gz_ad (mz_G Z) 0)), (1, .int x1), (2, .int x2), (3, .int 1)] C d_Mo_firstHops_33 rfl (by decide) rfl ?_
      refine jr_sub [0, 1, 2, 3] rfl ?_
      exact t_Mo_firstHops_34 C  1000000 x1 x2 1 m3_ h
    · have h := jz_f c1_ h
      refine jr_aload_n 8 C d_Mo_firstHops_8 rfl ?_
      refine gf_Mo_68 9 C d_Mo_firstHops_9 ?_
      refine jr_iload_n 12 C d_Mo_firstHops_12 rfl ?_
      refine jr_iconst 13 0 C d_Mo_firstHops_13 (by decide) ?_
      obtain ⟨j4_, ej4_, h⟩ := jz_b h
      obtain ⟨m5_, em5_, h⟩ := jz_ne h
      refine jr_iast 14 C d_Mo_firstHops_14 zk_Mo_hops ej4_ ?_
      refine jr_mem em5_ ?_
      obtain ⟨x6_, ex6_, h⟩ := jz_ne h
      refine jr_iinc 15 [(0, .ref (gz_ad (mz_G Z) 0)), (1, .int x1), (2, .int x2), (3, .int x6_)] C d_Mo_firstHops_15 rfl (by decide) rfl (by rw [ex6_]; rfl) rfl ?_
      refine jr_goto 18 2 C d_Mo_firstHops_18 (by decide) ?_
      refine jr_sub [0, 1, 2, 3] rfl ?_
      exact ih x1 x2 x6_ m5_  h
def f_Mo_firstHops (a1 : Int32) (a2 : Int32) (m : jz_M) : Option (jz_M) :=
  f_Mo_firstHops_2 1000000 a1 a2 0 m
set_option maxHeartbeats 4000000 in
set_option maxRecDepth 100000 in
theorem c_Mo_firstHops {Z : cz_Z} (l : Launch) (hI : jz_I (mz_G Z)) {a1 : Int32} {a2 : Int32} {m : jz_M} {r : jz_M} (h : f_Mo_firstHops a1 a2 m = some r) : jz_m l y_Mo_firstHops cd_Mo_firstHops rm_Mo_firstHops (mz_G Z) [.ref (gz_ad (mz_G Z) 0), .int a1, .int a2] m none r := by
  refine jz_met (own := R_Mo) (by decide) rfl hI (Nat.le_of_ble_eq_true rfl) (fun X hX C => ?_)
  subst hX
  show jz_J X 10 (mz_G Z) _ m [(0, .ref (gz_ad (mz_G Z) 0)), (1, .int a1), (2, .int a2)] 0 []
  unfold f_Mo_firstHops at h
  refine jr_iconst 0 0 C d_Mo_firstHops_0 (by decide) ?_
  refine jr_istore_n 1 [(0, .ref (gz_ad (mz_G Z) 0)), (1, .int a1), (2, .int a2), (3, .int 0)] C d_Mo_firstHops_1 rfl (by decide) rfl ?_
  refine jr_sub [0, 1, 2, 3] rfl ?_
  exact t_Mo_firstHops_2 C 1000000 a1 a2 0 m h
