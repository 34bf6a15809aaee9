abbrev rm_He_isHeard : Room := { frames := 0, cells := 0, slots := 0, locals := 0 }
abbrev cd_He_isHeard : Cond := .code y_He_isHeard b_He_isHeard 4 (some .boolean)
def f_He_isHeard (o0 : Nat) (a1 : Int32) (a2 : Int32) (a3 : Int32) (m : jz_M) : Option (Int32) :=
  (jz_ix 216 ((((a1 * 6) + a2) * 6) + a3)).bind fun j1_ =>
  if (m (o0 + 1) j1_) ≤ 0 then
    some 0
  else
    some 1
set_option maxHeartbeats 4000000 in
set_option maxRecDepth 100000 in
theorem c_He_isHeard {Z : cz_Z} (l : Launch) (hI : jz_I (cz_G Z)) {o0 : Nat} {a1 : Int32} {a2 : Int32} {a3 : Int32} {m : jz_M} {r : Int32} (ko0 : kz_He o0) (h : f_He_isHeard o0 a1 a2 a3 m = some r) : jz_m l y_He_isHeard cd_He_isHeard rm_He_isHeard (cz_G Z) [.ref (gz_ad (cz_G Z) o0), .int a1, .int a2, .int a3] m (some (.int r)) m := by
  refine jz_met (own := R_He) (by decide) rfl hI (Nat.le_of_ble_eq_true rfl) (fun X hX C => ?_)
  subst hX
  show jz_J X 4 (cz_G Z) _ m [(0, .ref (gz_ad (cz_G Z) o0)), (1, .int a1), (2, .int a2), (3, .int a3)] 0 []
  unfold f_He_isHeard at h
  refine jr_aload_n 0 C d_He_isHeard_0 rfl ?_
  refine gf_He_11 1 C d_He_isHeard_1 ko0 ?_
  refine jr_iload_n 4 C d_He_isHeard_4 rfl ?_
  refine jr_bipush 5 6 C d_He_isHeard_5 (by decide) ?_
  refine jr_imul 7 C d_He_isHeard_7 ?_
  refine jr_iload_n 8 C d_He_isHeard_8 rfl ?_
  refine jr_iadd 9 C d_He_isHeard_9 ?_
  refine jr_bipush 10 6 C d_He_isHeard_10 (by decide) ?_
  refine jr_imul 12 C d_He_isHeard_12 ?_
  refine jr_iload_n 13 C d_He_isHeard_13 rfl ?_
  refine jr_iadd 14 C d_He_isHeard_14 ?_
  obtain ⟨j1_, ej1_, h⟩ := jz_b h
  refine jr_iald 15 C d_He_isHeard_15 (zk_He_ticksLeft ko0) ej1_ ?_
  refine jr_if_le 16 23 C d_He_isHeard_16 (by decide) (fun c2_ => ?_) (fun c2_ => ?_)
  · have h := jz_t c2_ h
    refine jr_iconst 23 0 C d_He_isHeard_23 (by decide) ?_
    obtain rfl := Option.some.inj h
    exact jr_zret 24 (v := 0) C d_He_isHeard_24 rfl nb_0
  · have h := jz_f c2_ h
    refine jr_iconst 19 1 C d_He_isHeard_19 (by decide) ?_
    refine jr_goto 20 24 C d_He_isHeard_20 (by decide) ?_
    obtain rfl := Option.some.inj h
    exact jr_zret 24 (v := 1) C d_He_isHeard_24 rfl nb_1
abbrev rm_He_note : Room := { frames := 0, cells := 0, slots := 0, locals := 0 }
abbrev cd_He_note : Cond := .code y_He_note b_He_note 6 none
def f_He_note (o0 : Nat) (a1 : Int32) (a2 : Int32) (a3 : Int32) (a4 : Int32) (m : jz_M) : Option (jz_M) :=
  jz_n ((((a1 * 6) + a2) * 6) + a3) fun x1_ =>
  (jz_ix 216 x1_).bind fun j2_ =>
  jz_n (jz_up m (o0 + 1) j2_ 4) fun m3_ =>
  (jz_ix 216 x1_).bind fun j4_ =>
  jz_n (jz_up m3_ (o0 + 2) j4_ (vp_nar .boolean a4)) fun m5_ =>
  some m5_
set_option maxHeartbeats 4000000 in
set_option maxRecDepth 100000 in
theorem c_He_note {Z : cz_Z} (l : Launch) (hI : jz_I (cz_G Z)) {o0 : Nat} {a1 : Int32} {a2 : Int32} {a3 : Int32} {a4 : Int32} {m : jz_M} {r : jz_M} (ko0 : kz_He o0) (h : f_He_note o0 a1 a2 a3 a4 m = some r) : jz_m l y_He_note cd_He_note rm_He_note (cz_G Z) [.ref (gz_ad (cz_G Z) o0), .int a1, .int a2, .int a3, .int a4] m none r := by
  refine jz_met (own := R_He) (by decide) rfl hI (Nat.le_of_ble_eq_true rfl) (fun X hX C => ?_)
  subst hX
  show jz_J X 6 (cz_G Z) _ m [(0, .ref (gz_ad (cz_G Z) o0)), (1, .int a1), (2, .int a2), (3, .int a3), (4, .int a4)] 0 []
  unfold f_He_note at h
  refine jr_iload_n 0 C d_He_note_0 rfl ?_
  refine jr_bipush 1 6 C d_He_note_1 (by decide) ?_
  refine jr_imul 3 C d_He_note_3 ?_
  refine jr_iload_n 4 C d_He_note_4 rfl ?_
  refine jr_iadd 5 C d_He_note_5 ?_
  refine jr_bipush 6 6 C d_He_note_6 (by decide) ?_
  refine jr_imul 8 C d_He_note_8 ?_
  refine jr_iload_n 9 C d_He_note_9 rfl ?_
  refine jr_iadd 10 C d_He_note_10 ?_
  obtain ⟨x1_, ex1_, h⟩ := jz_ne h
  refine jr_top ex1_ ?_
  refine jr_istore 11 [(0, .ref (gz_ad (cz_G Z) o0)), (1, .int a1), (2, .int a2), (3, .int a3), (4, .int a4), (5, .int x1_)] C d_He_note_11 rfl (by decide) rfl ?_
  refine jr_aload_n 13 C d_He_note_13 rfl ?_
  refine gf_He_11 14 C d_He_note_14 ko0 ?_
  refine jr_iload 17 C d_He_note_17 rfl ?_
  refine jr_iconst 19 4 C d_He_note_19 (by decide) ?_
  obtain ⟨j2_, ej2_, h⟩ := jz_b h
  obtain ⟨m3_, em3_, h⟩ := jz_ne h
  refine jr_iast 20 C d_He_note_20 (zk_He_ticksLeft ko0) ej2_ ?_
  refine jr_mem em3_ ?_
  refine jr_aload_n 21 C d_He_note_21 rfl ?_
  refine gf_He_15 22 C d_He_note_22 ko0 ?_
  refine jr_iload 25 C d_He_note_25 rfl ?_
  refine jr_iload 27 C d_He_note_27 rfl ?_
  obtain ⟨j4_, ej4_, h⟩ := jz_b h
  obtain ⟨m5_, em5_, h⟩ := jz_ne h
  refine jr_zast 29 C d_He_note_29 (zk_He_named ko0) ej4_ ?_
  refine jr_mem em5_ ?_
  obtain rfl := Option.some.inj h
  exact jr_vret 30 C d_He_note_30 rfl
abbrev rm_AR_noteHello : Room := { frames := 2, cells := 0, slots := 0, locals := 42 }
abbrev cd_AR_noteHello : Cond := .code y_AR_noteHello b_AR_noteHello 7 none
def f_AR_noteHello_62 (k3 : Int32 → Int32 → Int32 → Int32 → jz_M → Option (jz_M)) (x1 : Int32) (x2 : Int32) (x3 : Int32) (x4 : Int32) (m : jz_M) : Option (jz_M) :=
  (f_AR_hearingAt x4 m).bind fun v1_ =>
  (f_He_isHeard v1_ x3 x2 x1 m).bind fun v2_ =>
  (f_He_note v1_ x1 x2 x3 v2_ m).bind fun v3_ =>
  jz_n (x4 + 1) fun x4_ =>
  k3 x1 x2 x3 x4_ v3_
set_option maxHeartbeats 4000000 in
set_option maxRecDepth 100000 in
theorem t_AR_noteHello_62 {Z : cz_Z} {X : jz_X} {r : jz_M} (C : jz_C X 7 b_AR_noteHello R_AR none rm_AR_noteHello (cz_G Z)) (k3 : Int32 → Int32 → Int32 → Int32 → jz_M → Option (jz_M)) (hk3 : ∀ (x1 : Int32) (x2 : Int32) (x3 : Int32) (x4 : Int32) (m : jz_M), k3 x1 x2 x3 x4 m = some r → jz_J X 7 (cz_G Z) (jz_q X (cz_G Z) none r) m [(0, .ref (gz_ad (cz_G Z) 0)), (1, .int x1), (2, .int x2), (3, .int x3), (4, .int x4)] 3 []) : ∀ (x1 : Int32) (x2 : Int32) (x3 : Int32) (x4 : Int32) (m : jz_M) , f_AR_noteHello_62 k3 x1 x2 x3 x4 m = some r → jz_J X 7 (cz_G Z) (jz_q X (cz_G Z) none r) m [(0, .ref (gz_ad (cz_G Z) 0)), (1, .int x1), (2, .int x2), (3, .int x3), (4, .int x4)] 62 [] := by
  intro x1 x2 x3 x4 m h
  unfold f_AR_noteHello_62 at h
  refine jr_aload_n 62 C d_AR_noteHello_62 rfl ?_
  refine jr_iload 63 C d_AR_noteHello_63 rfl ?_
  obtain ⟨v1_, ev1_, h⟩ := jz_b h
  refine jr_callV 65 [.int x4] C d_AR_noteHello_65 (c_AR_hearingAt (xz_l X) C.2.2.2.2.2.2.1 ev1_) sz_AR_hearingAt tz_AR_hearingAt lk_AR_150 oz_AR rfl (by decide) rfl rfl (Nat.le_of_ble_eq_true rfl) rfl ?_
  refine jr_astore 68 [(0, .ref (gz_ad (cz_G Z) 0)), (1, .int x1), (2, .int x2), (3, .int x3), (4, .int x4), (6, .ref (gz_ad (cz_G Z) v1_))] C d_AR_noteHello_68 rfl (by decide) rfl ?_
  refine jr_aload 70 C d_AR_noteHello_70 rfl ?_
  refine jr_iload_n 72 C d_AR_noteHello_72 rfl ?_
  refine jr_iload_n 73 C d_AR_noteHello_73 rfl ?_
  refine jr_iload_n 74 C d_AR_noteHello_74 rfl ?_
  refine jr_aload 75 C d_AR_noteHello_75 rfl ?_
  refine jr_iload_n 77 C d_AR_noteHello_77 rfl ?_
  refine jr_iload_n 78 C d_AR_noteHello_78 rfl ?_
  refine jr_iload_n 79 C d_AR_noteHello_79 rfl ?_
  obtain ⟨v2_, ev2_, h⟩ := jz_b h
  refine jr_callVN 80 [.int x3, .int x2, .int x1] C d_AR_noteHello_80 (c_He_isHeard (xz_l X) C.2.2.2.2.2.2.1 (kr_AR_hearingAt ev1_) ev2_) sz_He_isHeard tz_He_isHeard lk_AR_186 (oz_He (kr_AR_hearingAt ev1_)) rfl (by decide) rfl rfl (Nat.le_of_ble_eq_true rfl) rfl ?_
  obtain ⟨v3_, ev3_, h⟩ := jz_b h
  refine jr_callVN 83 [.int x1, .int x2, .int x3, .int v2_] C d_AR_noteHello_83 (c_He_note (xz_l X) C.2.2.2.2.2.2.1 (kr_AR_hearingAt ev1_) ev3_) sz_He_note tz_He_note lk_AR_189 (oz_He (kr_AR_hearingAt ev1_)) rfl (by decide) rfl rfl (Nat.le_of_ble_eq_true rfl) rfl ?_
  obtain ⟨x4_, ex4_, h⟩ := jz_ne h
  refine jr_iinc 86 [(0, .ref (gz_ad (cz_G Z) 0)), (1, .int x1), (2, .int x2), (3, .int x3), (4, .int x4_), (6, .ref (gz_ad (cz_G Z) v1_))] C d_AR_noteHello_86 rfl (by decide) rfl (by rw [ex4_]; rfl) rfl ?_
  refine jr_goto 89 3 C d_AR_noteHello_89 (by decide) ?_
  refine jr_sub [0, 1, 2, 3, 4] rfl ?_
  exact hk3 x1 x2 x3 x4_ v3_ h
def f_AR_noteHello_34 (k3 : Int32 → Int32 → Int32 → Int32 → jz_M → Option (jz_M)) (x1 : Int32) (x2 : Int32) (x3 : Int32) (x4 : Int32) (s0 : Int32) (m : jz_M) : Option (jz_M) :=
  if s0 = 0 then
    jz_n (x4 + 1) fun x2_ =>
    k3 x1 x2 x3 x2_ m
  else
    if x4 = 2 then
      f_AR_noteHello_62 k3 x1 x2 x3 x4 m
    else
      (jz_ix 6 x1).bind fun j4_ =>
      (jz_ix 6 x3).bind fun j5_ =>
      if ¬ (m 1 j4_) = (m 1 j5_) then
        jz_n (x4 + 1) fun x7_ =>
        k3 x1 x2 x3 x7_ m
      else
        f_AR_noteHello_62 k3 x1 x2 x3 x4 m
set_option maxHeartbeats 4000000 in
set_option maxRecDepth 100000 in
theorem t_AR_noteHello_34 {Z : cz_Z} {X : jz_X} {r : jz_M} (C : jz_C X 7 b_AR_noteHello R_AR none rm_AR_noteHello (cz_G Z)) (k3 : Int32 → Int32 → Int32 → Int32 → jz_M → Option (jz_M)) (hk3 : ∀ (x1 : Int32) (x2 : Int32) (x3 : Int32) (x4 : Int32) (m : jz_M), k3 x1 x2 x3 x4 m = some r → jz_J X 7 (cz_G Z) (jz_q X (cz_G Z) none r) m [(0, .ref (gz_ad (cz_G Z) 0)), (1, .int x1), (2, .int x2), (3, .int x3), (4, .int x4)] 3 []) : ∀ (x1 : Int32) (x2 : Int32) (x3 : Int32) (x4 : Int32) (s0 : Int32) (m : jz_M) , f_AR_noteHello_34 k3 x1 x2 x3 x4 s0 m = some r → jz_J X 7 (cz_G Z) (jz_q X (cz_G Z) none r) m [(0, .ref (gz_ad (cz_G Z) 0)), (1, .int x1), (2, .int x2), (3, .int x3), (4, .int x4)] 34 [.int s0] := by
  intro x1 x2 x3 x4 s0 m h
  unfold f_AR_noteHello_34 at h
  refine jr_istore 34 [(0, .ref (gz_ad (cz_G Z) 0)), (1, .int x1), (2, .int x2), (3, .int x3), (4, .int x4), (5, .int s0)] C d_AR_noteHello_34 rfl (by decide) rfl ?_
  refine jr_iload 36 C d_AR_noteHello_36 rfl ?_
  refine jr_if_eq 38 86 C d_AR_noteHello_38 (by decide) (fun c1_ => ?_) (fun c1_ => ?_)
  · have h := jz_t c1_ h
    obtain ⟨x2_, ex2_, h⟩ := jz_ne h
    refine jr_iinc 86 [(0, .ref (gz_ad (cz_G Z) 0)), (1, .int x1), (2, .int x2), (3, .int x3), (4, .int x2_), (5, .int s0)] C d_AR_noteHello_86 rfl (by decide) rfl (by rw [ex2_]; rfl) rfl ?_
    refine jr_goto 89 3 C d_AR_noteHello_89 (by decide) ?_
    refine jr_sub [0, 1, 2, 3, 4] rfl ?_
    exact hk3 x1 x2 x3 x2_ m  h
  · have h := jz_f c1_ h
    refine jr_iload 41 C d_AR_noteHello_41 rfl ?_
    refine jr_iconst 43 2 C d_AR_noteHello_43 (by decide) ?_
    refine jr_icmp_eq 44 62 C d_AR_noteHello_44 (by decide) (fun c3_ => ?_) (fun c3_ => ?_)
    · have h := jz_t c3_ h
      refine jr_sub [0, 1, 2, 3, 4] rfl ?_
      exact t_AR_noteHello_62 C k3 hk3 x1 x2 x3 x4 m h
    · have h := jz_f c3_ h
      refine jr_aload_n 47 C d_AR_noteHello_47 rfl ?_
      refine gf_AR_9 48 C d_AR_noteHello_48 ?_
      refine jr_iload_n 51 C d_AR_noteHello_51 rfl ?_
      obtain ⟨j4_, ej4_, h⟩ := jz_b h
      refine jr_iald 52 C d_AR_noteHello_52 zk_AR_areas ej4_ ?_
      refine jr_aload_n 53 C d_AR_noteHello_53 rfl ?_
      refine gf_AR_9 54 C d_AR_noteHello_54 ?_
      refine jr_iload_n 57 C d_AR_noteHello_57 rfl ?_
      obtain ⟨j5_, ej5_, h⟩ := jz_b h
      refine jr_iald 58 C d_AR_noteHello_58 zk_AR_areas ej5_ ?_
      refine jr_icmp_ne 59 86 C d_AR_noteHello_59 (by decide) (fun c6_ => ?_) (fun c6_ => ?_)
      · have h := jz_t c6_ h
        obtain ⟨x7_, ex7_, h⟩ := jz_ne h
        refine jr_iinc 86 [(0, .ref (gz_ad (cz_G Z) 0)), (1, .int x1), (2, .int x2), (3, .int x3), (4, .int x7_), (5, .int s0)] C d_AR_noteHello_86 rfl (by decide) rfl (by rw [ex7_]; rfl) rfl ?_
        refine jr_goto 89 3 C d_AR_noteHello_89 (by decide) ?_
        refine jr_sub [0, 1, 2, 3, 4] rfl ?_
        exact hk3 x1 x2 x3 x7_ m  h
      · have h := jz_f c6_ h
        refine jr_sub [0, 1, 2, 3, 4] rfl ?_
        exact t_AR_noteHello_62 C k3 hk3 x1 x2 x3 x4 m h
def f_AR_noteHello_33 (k3 : Int32 → Int32 → Int32 → Int32 → jz_M → Option (jz_M)) (x1 : Int32) (x2 : Int32) (x3 : Int32) (x4 : Int32) (m : jz_M) : Option (jz_M) :=
  f_AR_noteHello_34 k3 x1 x2 x3 x4 0 m
set_option maxHeartbeats 4000000 in
set_option maxRecDepth 100000 in
theorem t_AR_noteHello_33 {Z : cz_Z} {X : jz_X} {r : jz_M} (C : jz_C X 7 b_AR_noteHello R_AR none rm_AR_noteHello (cz_G Z)) (k3 : Int32 → Int32 → Int32 → Int32 → jz_M → Option (jz_M)) (hk3 : ∀ (x1 : Int32) (x2 : Int32) (x3 : Int32) (x4 : Int32) (m : jz_M), k3 x1 x2 x3 x4 m = some r → jz_J X 7 (cz_G Z) (jz_q X (cz_G Z) none r) m [(0, .ref (gz_ad (cz_G Z) 0)), (1, .int x1), (2, .int x2), (3, .int x3), (4, .int x4)] 3 []) : ∀ (x1 : Int32) (x2 : Int32) (x3 : Int32) (x4 : Int32) (m : jz_M) , f_AR_noteHello_33 k3 x1 x2 x3 x4 m = some r → jz_J X 7 (cz_G Z) (jz_q X (cz_G Z) none r) m [(0, .ref (gz_ad (cz_G Z) 0)), (1, .int x1), (2, .int x2), (3, .int x3), (4, .int x4)] 33 [] := by
  intro x1 x2 x3 x4 m h
  unfold f_AR_noteHello_33 at h
  refine jr_iconst 33 0 C d_AR_noteHello_33 (by decide) ?_
  refine jr_sub [0, 1, 2, 3, 4] rfl ?_
  exact t_AR_noteHello_34 C k3 hk3 x1 x2 x3 x4 0 m h
def f_AR_noteHello_3 : Nat → Int32 → Int32 → Int32 → Int32 → jz_M → Option (jz_M)
  | 0, _, _, _, _, _ => none
  | fu + 1, x1, x2, x3, x4, m =>
    if 2 < x4 then
      some m
    else
      (f_AR_hasLevel x1 x4 m).bind fun v2_ =>
      if v2_ = 0 then
        f_AR_noteHello_33 (f_AR_noteHello_3 fu) x1 x2 x3 x4 m
      else
        (f_AR_hasLevel x3 x4 m).bind fun v4_ =>
        if v4_ = 0 then
          f_AR_noteHello_33 (f_AR_noteHello_3 fu) x1 x2 x3 x4 m
        else
          f_AR_noteHello_34 (f_AR_noteHello_3 fu) x1 x2 x3 x4 1 m
set_option maxHeartbeats 4000000 in
set_option maxRecDepth 100000 in
theorem t_AR_noteHello_3 {Z : cz_Z} {X : jz_X} {r : jz_M} (C : jz_C X 7 b_AR_noteHello R_AR none rm_AR_noteHello (cz_G Z)) : ∀ (fu : Nat) (x1 : Int32) (x2 : Int32) (x3 : Int32) (x4 : Int32) (m : jz_M) , f_AR_noteHello_3 fu x1 x2 x3 x4 m = some r → jz_J X 7 (cz_G Z) (jz_q X (cz_G Z) none r) m [(0, .ref (gz_ad (cz_G Z) 0)), (1, .int x1), (2, .int x2), (3, .int x3), (4, .int x4)] 3 [] := by
  intro fu
  induction fu with
  | zero => intro x1 x2 x3 x4 m h; cases h
  | succ fu ih =>
    intro x1 x2 x3 x4 m h
    rw [f_AR_noteHello_3] at h
    refine jr_iload 3 C d_AR_noteHello_3 rfl ?_
    refine jr_iconst 5 2 C d_AR_noteHello_5 (by decide) ?_
    refine jr_icmp_gt 6 92 C d_AR_noteHello_6 (by decide) (fun c1_ => ?_) (fun c1_ => ?_)
    · have h := jz_t c1_ h
      obtain rfl := Option.some.inj h
      exact jr_vret 92 C d_AR_noteHello_92 rfl
    · have h := jz_f c1_ h
      refine jr_aload_n 9 C d_AR_noteHello_9 rfl ?_
      refine jr_iload_n 10 C d_AR_noteHello_10 rfl ?_
      refine jr_iload 11 C d_AR_noteHello_11 rfl ?_
      obtain ⟨v2_, ev2_, h⟩ := jz_b h
      refine jr_callV 13 [.int x1, .int x4] C d_AR_noteHello_13 (c_AR_hasLevel (xz_l X) C.2.2.2.2.2.2.1  ev2_) sz_AR_hasLevel tz_AR_hasLevel lk_AR_134 oz_AR rfl (by decide) rfl rfl (Nat.le_of_ble_eq_true rfl) rfl ?_
      refine jr_if_eq 16 33 C d_AR_noteHello_16 (by decide) (fun c3_ => ?_) (fun c3_ => ?_)
      · have h := jz_t c3_ h
        refine jr_sub [0, 1, 2, 3, 4] rfl ?_
        exact t_AR_noteHello_33 C (f_AR_noteHello_3 fu) ih x1 x2 x3 x4 m h
      · have h := jz_f c3_ h
        refine jr_aload_n 19 C d_AR_noteHello_19 rfl ?_
        refine jr_iload_n 20 C d_AR_noteHello_20 rfl ?_
        refine jr_iload 21 C d_AR_noteHello_21 rfl ?_
        obtain ⟨v4_, ev4_, h⟩ := jz_b h
        refine jr_callV 23 [.int x3, .int x4] C d_AR_noteHello_23 (c_AR_hasLevel (xz_l X) C.2.2.2.2.2.2.1  ev4_) sz_AR_hasLevel tz_AR_hasLevel lk_AR_134 oz_AR rfl (by decide) rfl rfl (Nat.le_of_ble_eq_true rfl) rfl ?_
        refine jr_if_eq 26 33 C d_AR_noteHello_26 (by decide) (fun c5_ => ?_) (fun c5_ => ?_)
        · have h := jz_t c5_ h
          refine jr_sub [0, 1, 2, 3, 4] rfl ?_
          exact t_AR_noteHello_33 C (f_AR_noteHello_3 fu) ih x1 x2 x3 x4 m h
        · have h := jz_f c5_ h
          refine jr_iconst 29 1 C d_AR_noteHello_29 (by decide) ?_
          refine jr_goto 30 34 C d_AR_noteHello_30 (by decide) ?_
          refine jr_sub [0, 1, 2, 3, 4] rfl ?_
          exact t_AR_noteHello_34 C (f_AR_noteHello_3 fu) ih x1 x2 x3 x4 1 m h
def f_AR_noteHello (a1 : Int32) (a2 : Int32) (a3 : Int32) (m : jz_M) : Option (jz_M) :=
  f_AR_noteHello_3 1000 a1 a2 a3 1 m
set_option maxHeartbeats 4000000 in
set_option maxRecDepth 100000 in
theorem c_AR_noteHello {Z : cz_Z} (l : Launch) (hI : jz_I (cz_G Z)) {a1 : Int32} {a2 : Int32} {a3 : Int32} {m : jz_M} {r : jz_M} (h : f_AR_noteHello a1 a2 a3 m = some r) : jz_m l y_AR_noteHello cd_AR_noteHello rm_AR_noteHello (cz_G Z) [.ref (gz_ad (cz_G Z) 0), .int a1, .int a2, .int a3] m none r := by
  refine jz_met (own := R_AR) (by decide) rfl hI (Nat.le_of_ble_eq_true rfl) (fun X hX C => ?_)
  subst hX
  show jz_J X 7 (cz_G Z) _ m [(0, .ref (gz_ad (cz_G Z) 0)), (1, .int a1), (2, .int a2), (3, .int a3)] 0 []
  unfold f_AR_noteHello at h
  refine jr_iconst 0 1 C d_AR_noteHello_0 (by decide) ?_
  refine jr_istore 1 [(0, .ref (gz_ad (cz_G Z) 0)), (1, .int a1), (2, .int a2), (3, .int a3), (4, .int 1)] C d_AR_noteHello_1 rfl (by decide) rfl ?_
  refine jr_sub [0, 1, 2, 3, 4] rfl ?_
  exact t_AR_noteHello_3 C 1000 a1 a2 a3 1 m h
abbrev rm_AR_hello : Room := { frames := 3, cells := 0, slots := 0, locals := 68 }
abbrev cd_AR_hello : Cond := .code y_AR_hello b_AR_hello 6 (some .int)
def f_AR_hello_12 : Nat → Int32 → Int32 → Int32 → Int32 → Int32 → jz_M → Option (Int32 × jz_M)
  | 0, _, _, _, _, _, _ => none
  | fu + 1, x1, x2, x3, x4, x5, m =>
    if 6 ≤ x5 then
      some (x4, m)
    else
      if x5 = x1 then
        jz_n (x5 + 1) fun x3_ =>
        f_AR_hello_12 fu x1 x2 x3 x4 x3_ m
      else
        (f_AR_isMeant x5 x3 m).bind fun v4_ =>
        if v4_ = 0 then
          jz_n (x5 + 1) fun x6_ =>
          f_AR_hello_12 fu x1 x2 x3 x4 x6_ m
        else
          (f_Wi_isAttached x5 x2 m).bind fun v7_ =>
          if v7_ = 0 then
            jz_n (x5 + 1) fun x9_ =>
            f_AR_hello_12 fu x1 x2 x3 x4 x9_ m
          else
            (f_AR_noteHello x5 x2 x1 m).bind fun v10_ =>
            jz_n (x4 + 1) fun x11_ =>
            jz_n (x5 + 1) fun x12_ =>
            f_AR_hello_12 fu x1 x2 x3 x11_ x12_ v10_
set_option maxHeartbeats 4000000 in
set_option maxRecDepth 100000 in
theorem t_AR_hello_12 {Z : cz_Z} {X : jz_X} {r : Int32 × jz_M} (C : jz_C X 6 b_AR_hello R_AR (some .int) rm_AR_hello (cz_G Z)) : ∀ (fu : Nat) (x1 : Int32) (x2 : Int32) (x3 : Int32) (x4 : Int32) (x5 : Int32) (m : jz_M) , f_AR_hello_12 fu x1 x2 x3 x4 x5 m = some r → jz_J X 6 (cz_G Z) (jz_q X (cz_G Z) (some (.int r.1)) r.2) m [(0, .ref (gz_ad (cz_G Z) 0)), (1, .int x1), (2, .int x2), (3, .int x3), (4, .int x4), (5, .int x5)] 12 [] := by
  intro fu
  induction fu with
  | zero => intro x1 x2 x3 x4 x5 m h; cases h
  | succ fu ih =>
    intro x1 x2 x3 x4 x5 m h
    rw [f_AR_hello_12] at h
    refine jr_iload 12 C d_AR_hello_12 rfl ?_
    refine jr_bipush 14 6 C d_AR_hello_14 (by decide) ?_
    refine jr_icmp_ge 16 64 C d_AR_hello_16 (by decide) (fun c1_ => ?_) (fun c1_ => ?_)
    · have h := jz_t c1_ h
      refine jr_iload 64 C d_AR_hello_64 rfl ?_
      obtain rfl := Option.some.inj h
      exact jr_iret 66 (v := x4) C d_AR_hello_66 rfl
    · have h := jz_f c1_ h
      refine jr_iload 19 C d_AR_hello_19 rfl ?_
      refine jr_iload_n 21 C d_AR_hello_21 rfl ?_
      refine jr_icmp_eq 22 58 C d_AR_hello_22 (by decide) (fun c2_ => ?_) (fun c2_ => ?_)
      · have h := jz_t c2_ h
        obtain ⟨x3_, ex3_, h⟩ := jz_ne h
        refine jr_iinc 58 [(0, .ref (gz_ad (cz_G Z) 0)), (1, .int x1), (2, .int x2), (3, .int x3), (4, .int x4), (5, .int x3_)] C d_AR_hello_58 rfl (by decide) rfl (by rw [ex3_]; rfl) rfl ?_
        refine jr_goto 61 12 C d_AR_hello_61 (by decide) ?_
        refine jr_sub [0, 1, 2, 3, 4, 5] rfl ?_
        exact ih x1 x2 x3 x4 x3_ m  h
      · have h := jz_f c2_ h
        refine jr_iload 25 C d_AR_hello_25 rfl ?_
        refine jr_iload_n 27 C d_AR_hello_27 rfl ?_
        obtain ⟨v4_, ev4_, h⟩ := jz_b h
        refine jr_callS 28 [.int x5, .int x3] C d_AR_hello_28 (c_AR_isMeant (xz_l X) C.2.2.2.2.2.2.1  ev4_) sz_AR_isMeant tz_AR_isMeant lk_AR_77 (by decide) rfl rfl (Nat.le_of_ble_eq_true rfl) rfl ?_
        refine jr_if_eq 31 58 C d_AR_hello_31 (by decide) (fun c5_ => ?_) (fun c5_ => ?_)
        · have h := jz_t c5_ h
          obtain ⟨x6_, ex6_, h⟩ := jz_ne h
          refine jr_iinc 58 [(0, .ref (gz_ad (cz_G Z) 0)), (1, .int x1), (2, .int x2), (3, .int x3), (4, .int x4), (5, .int x6_)] C d_AR_hello_58 rfl (by decide) rfl (by rw [ex6_]; rfl) rfl ?_
          refine jr_goto 61 12 C d_AR_hello_61 (by decide) ?_
          refine jr_sub [0, 1, 2, 3, 4, 5] rfl ?_
          exact ih x1 x2 x3 x4 x6_ m  h
        · have h := jz_f c5_ h
          refine jr_aload_n 34 C d_AR_hello_34 rfl ?_
          refine gf_AR_19 35 C d_AR_hello_35 ?_
          refine jr_iload 38 C d_AR_hello_38 rfl ?_
          refine jr_iload_n 40 C d_AR_hello_40 rfl ?_
          obtain ⟨v7_, ev7_, h⟩ := jz_b h
          refine jr_callVN 41 [.int x5, .int x2] C d_AR_hello_41 (c_Wi_isAttached (xz_l X) C.2.2.2.2.2.2.1  ev7_) sz_Wi_isAttached tz_Wi_isAttached lk_AR_62 oz_Wi rfl (by decide) rfl rfl (Nat.le_of_ble_eq_true rfl) rfl ?_
          refine jr_if_eq 44 58 C d_AR_hello_44 (by decide) (fun c8_ => ?_) (fun c8_ => ?_)
          · have h := jz_t c8_ h
            obtain ⟨x9_, ex9_, h⟩ := jz_ne h
            refine jr_iinc 58 [(0, .ref (gz_ad (cz_G Z) 0)), (1, .int x1), (2, .int x2), (3, .int x3), (4, .int x4), (5, .int x9_)] C d_AR_hello_58 rfl (by decide) rfl (by rw [ex9_]; rfl) rfl ?_
            refine jr_goto 61 12 C d_AR_hello_61 (by decide) ?_
            refine jr_sub [0, 1, 2, 3, 4, 5] rfl ?_
            exact ih x1 x2 x3 x4 x9_ m  h
          · have h := jz_f c8_ h
            refine jr_aload_n 47 C d_AR_hello_47 rfl ?_
            refine jr_iload 48 C d_AR_hello_48 rfl ?_
            refine jr_iload_n 50 C d_AR_hello_50 rfl ?_
            refine jr_iload_n 51 C d_AR_hello_51 rfl ?_
            obtain ⟨v10_, ev10_, h⟩ := jz_b h
            refine jr_callV 52 [.int x5, .int x2, .int x1] C d_AR_hello_52 (c_AR_noteHello (xz_l X) C.2.2.2.2.2.2.1  ev10_) sz_AR_noteHello tz_AR_noteHello lk_AR_80 oz_AR rfl (by decide) rfl rfl (Nat.le_of_ble_eq_true rfl) rfl ?_
            obtain ⟨x11_, ex11_, h⟩ := jz_ne h
            refine jr_iinc 55 [(0, .ref (gz_ad (cz_G Z) 0)), (1, .int x1), (2, .int x2), (3, .int x3), (4, .int x11_), (5, .int x5)] C d_AR_hello_55 rfl (by decide) rfl (by rw [ex11_]; rfl) rfl ?_
            obtain ⟨x12_, ex12_, h⟩ := jz_ne h
            refine jr_iinc 58 [(0, .ref (gz_ad (cz_G Z) 0)), (1, .int x1), (2, .int x2), (3, .int x3), (4, .int x11_), (5, .int x12_)] C d_AR_hello_58 rfl (by decide) rfl (by rw [ex12_]; rfl) rfl ?_
            refine jr_goto 61 12 C d_AR_hello_61 (by decide) ?_
            refine jr_sub [0, 1, 2, 3, 4, 5] rfl ?_
            exact ih x1 x2 x3 x11_ x12_ v10_  h
def f_AR_hello (a1 : Int32) (a2 : Int32) (a3 : Int32) (m : jz_M) : Option (Int32 × jz_M) :=
  (f_AR_checkSender a1 a2 m).bind fun v1_ =>
  f_AR_hello_12 1000 a1 a2 a3 0 0 m
set_option maxHeartbeats 4000000 in
set_option maxRecDepth 100000 in
theorem c_AR_hello {Z : cz_Z} (l : Launch) (hI : jz_I (cz_G Z)) {a1 : Int32} {a2 : Int32} {a3 : Int32} {m : jz_M} {r : Int32 × jz_M} (h : f_AR_hello a1 a2 a3 m = some r) : jz_m l y_AR_hello cd_AR_hello rm_AR_hello (cz_G Z) [.ref (gz_ad (cz_G Z) 0), .int a1, .int a2, .int a3] m (some (.int r.1)) r.2 := by
  refine jz_met (own := R_AR) (by decide) rfl hI (Nat.le_of_ble_eq_true rfl) (fun X hX C => ?_)
  subst hX
  show jz_J X 6 (cz_G Z) _ m [(0, .ref (gz_ad (cz_G Z) 0)), (1, .int a1), (2, .int a2), (3, .int a3)] 0 []
  unfold f_AR_hello at h
  refine jr_aload_n 0 C d_AR_hello_0 rfl ?_
  refine jr_iload_n 1 C d_AR_hello_1 rfl ?_
  refine jr_iload_n 2 C d_AR_hello_2 rfl ?_
  obtain ⟨v1_, ev1_, h⟩ := jz_b h
  refine jr_callV 3 [.int a1, .int a2] C d_AR_hello_3 (c_AR_checkSender (xz_l X) C.2.2.2.2.2.2.1 ev1_) sz_AR_checkSender tz_AR_checkSender lk_AR_73 oz_AR rfl (by decide) rfl rfl (Nat.le_of_ble_eq_true rfl) rfl ?_
  refine jr_iconst 6 0 C d_AR_hello_6 (by decide) ?_
  refine jr_istore 7 [(0, .ref (gz_ad (cz_G Z) 0)), (1, .int a1), (2, .int a2), (3, .int a3), (4, .int 0)] C d_AR_hello_7 rfl (by decide) rfl ?_
  refine jr_iconst 9 0 C d_AR_hello_9 (by decide) ?_
  refine jr_istore 10 [(0, .ref (gz_ad (cz_G Z) 0)), (1, .int a1), (2, .int a2), (3, .int a3), (4, .int 0), (5, .int 0)] C d_AR_hello_10 rfl (by decide) rfl ?_
  refine jr_sub [0, 1, 2, 3, 4, 5] rfl ?_
  exact t_AR_hello_12 C 1000 a1 a2 a3 0 0 m h
abbrev rm_AR_checkLevel : Room := { frames := 2, cells := 0, slots := 0, locals := 42 }
abbrev cd_AR_checkLevel : Cond := .code y_AR_checkLevel b_AR_checkLevel 3 none
def f_AR_checkLevel (a1 : Int32) (a2 : Int32) (m : jz_M) : Option (Unit) :=
  (f_AR_hasLevel a1 a2 m).bind fun v1_ =>
  if ¬ v1_ = 0 then
    some ()
  else
    none
set_option maxHeartbeats 4000000 in
set_option maxRecDepth 100000 in
theorem c_AR_checkLevel {Z : cz_Z} (l : Launch) (hI : jz_I (cz_G Z)) {a1 : Int32} {a2 : Int32} {m : jz_M} {r : Unit} (h : f_AR_checkLevel a1 a2 m = some r) : jz_m l y_AR_checkLevel cd_AR_checkLevel rm_AR_checkLevel (cz_G Z) [.ref (gz_ad (cz_G Z) 0), .int a1, .int a2] m none m := by
  refine jz_met (own := R_AR) (by decide) rfl hI (Nat.le_of_ble_eq_true rfl) (fun X hX C => ?_)
  subst hX
  show jz_J X 3 (cz_G Z) _ m [(0, .ref (gz_ad (cz_G Z) 0)), (1, .int a1), (2, .int a2)] 0 []
  unfold f_AR_checkLevel at h
  refine jr_aload_n 0 C d_AR_checkLevel_0 rfl ?_
  refine jr_iload_n 1 C d_AR_checkLevel_1 rfl ?_
  refine jr_iload_n 2 C d_AR_checkLevel_2 rfl ?_
  obtain ⟨v1_, ev1_, h⟩ := jz_b h
  refine jr_callV 3 [.int a1, .int a2] C d_AR_checkLevel_3 (c_AR_hasLevel (xz_l X) C.2.2.2.2.2.2.1 ev1_) sz_AR_hasLevel tz_AR_hasLevel lk_AR_134 oz_AR rfl (by decide) rfl rfl (Nat.le_of_ble_eq_true rfl) rfl ?_
  refine jr_if_ne 6 19 C d_AR_checkLevel_6 (by decide) (fun c2_ => ?_) (fun c2_ => ?_)
  · have h := jz_t c2_ h
    clear h
    exact jr_vret 19 C d_AR_checkLevel_19 rfl
  · have h := jz_f c2_ h
    cases h
abbrev rm_AR_baseOf : Room := { frames := 0, cells := 0, slots := 0, locals := 0 }
abbrev cd_AR_baseOf : Cond := .code y_AR_baseOf b_AR_baseOf 3 (some (.object "AreaRouters$Base"))
def f_AR_baseOf (a1 : Int32) (a2 : Int32) (m : jz_M) : Option (Nat) :=
  (jz_ix 12 (((a2 - 1) * 6) + a1)).bind fun j1_ =>
  some (14 + 11 * j1_)
set_option maxHeartbeats 4000000 in
set_option maxRecDepth 100000 in
theorem c_AR_baseOf {Z : cz_Z} (l : Launch) (hI : jz_I (cz_G Z)) {a1 : Int32} {a2 : Int32} {m : jz_M} {r : Nat} (h : f_AR_baseOf a1 a2 m = some r) : jz_m l y_AR_baseOf cd_AR_baseOf rm_AR_baseOf (cz_G Z) [.ref (gz_ad (cz_G Z) 0), .int a1, .int a2] m (some (.ref (gz_ad (cz_G Z) r))) m := by
  refine jz_met (own := R_AR) (by decide) rfl hI (Nat.le_of_ble_eq_true rfl) (fun X hX C => ?_)
  subst hX
  show jz_J X 3 (cz_G Z) _ m [(0, .ref (gz_ad (cz_G Z) 0)), (1, .int a1), (2, .int a2)] 0 []
  unfold f_AR_baseOf at h
  refine jr_aload_n 0 C d_AR_baseOf_0 rfl ?_
  refine gf_AR_32 1 C d_AR_baseOf_1 ?_
  refine jr_iload_n 4 C d_AR_baseOf_4 rfl ?_
  refine jr_iconst 5 1 C d_AR_baseOf_5 (by decide) ?_
  refine jr_isub 6 C d_AR_baseOf_6 ?_
  refine jr_bipush 7 6 C d_AR_baseOf_7 (by decide) ?_
  refine jr_imul 9 C d_AR_baseOf_9 ?_
  refine jr_iload_n 10 C d_AR_baseOf_10 rfl ?_
  refine jr_iadd 11 C d_AR_baseOf_11 ?_
  obtain ⟨j1_, ej1_, h⟩ := jz_b h
  refine jr_aald 12 C d_AR_baseOf_12 zk_AR_bases ej1_ ?_
  obtain rfl := Option.some.inj h
  exact jr_aret 13 C d_AR_baseOf_13 rfl (by first | exact Or.inl ⟨_, rfl⟩ | exact Or.inr ⟨_, rfl⟩)
theorem kr_AR_baseOf {a1 a2 : Int32} {m : jz_M} {r : Nat} (h : f_AR_baseOf a1 a2 m = some r) : kz_Ba r := by
  unfold f_AR_baseOf at h
  obtain ⟨j, e, h⟩ := jz_b h
  obtain rfl := Option.some.inj h
  exact ke_Ba e
abbrev rm_Ba_isDue : Room := { frames := 0, cells := 0, slots := 0, locals := 0 }
abbrev cd_Ba_isDue : Cond := .code y_Ba_isDue b_Ba_isDue 3 (some .boolean)
def f_Ba_isDue (o0 : Nat) (a1 : Int32) (a2 : Int32) (m : jz_M) : Option (Int32) :=
  (jz_ix 42 a1).bind fun j1_ =>
  if (((m (o0 + 9) j1_) >>> (a2 &&& 31)) &&& 1) = 0 then
    some 0
  else
    some 1
set_option maxHeartbeats 4000000 in
set_option maxRecDepth 100000 in
theorem c_Ba_isDue {Z : cz_Z} (l : Launch) (hI : jz_I (cz_G Z)) {o0 : Nat} {a1 : Int32} {a2 : Int32} {m : jz_M} {r : Int32} (ko0 : kz_Ba o0) (h : f_Ba_isDue o0 a1 a2 m = some r) : jz_m l y_Ba_isDue cd_Ba_isDue rm_Ba_isDue (cz_G Z) [.ref (gz_ad (cz_G Z) o0), .int a1, .int a2] m (some (.int r)) m := by
  refine jz_met (own := R_Ba) (by decide) rfl hI (Nat.le_of_ble_eq_true rfl) (fun X hX C => ?_)
  subst hX
  show jz_J X 3 (cz_G Z) _ m [(0, .ref (gz_ad (cz_G Z) o0)), (1, .int a1), (2, .int a2)] 0 []
  unfold f_Ba_isDue at h
  refine jr_aload_n 0 C d_Ba_isDue_0 rfl ?_
  refine gf_Ba_37 1 C d_Ba_isDue_1 ko0 ?_
  refine jr_iload_n 4 C d_Ba_isDue_4 rfl ?_
  obtain ⟨j1_, ej1_, h⟩ := jz_b h
  refine jr_iald 5 C d_Ba_isDue_5 (zk_Ba_due ko0) ej1_ ?_
  refine jr_iload_n 6 C d_Ba_isDue_6 rfl ?_
  refine jr_ishr 7 C d_Ba_isDue_7 ?_
  refine jr_iconst 8 1 C d_Ba_isDue_8 (by decide) ?_
  refine jr_iand 9 C d_Ba_isDue_9 ?_
  refine jr_if_eq 10 17 C d_Ba_isDue_10 (by decide) (fun c2_ => ?_) (fun c2_ => ?_)
  · have h := jz_t c2_ h
    refine jr_iconst 17 0 C d_Ba_isDue_17 (by decide) ?_
    obtain rfl := Option.some.inj h
    exact jr_zret 18 (v := 0) C d_Ba_isDue_18 rfl nb_0
  · have h := jz_f c2_ h
    refine jr_iconst 13 1 C d_Ba_isDue_13 (by decide) ?_
    refine jr_goto 14 18 C d_Ba_isDue_14 (by decide) ?_
    obtain rfl := Option.some.inj h
    exact jr_zret 18 (v := 1) C d_Ba_isDue_18 rfl nb_1
abbrev rm_He_isMutual : Room := { frames := 0, cells := 0, slots := 0, locals := 0 }
abbrev cd_He_isMutual : Cond := .code y_He_isMutual b_He_isMutual 5 (some .boolean)
def f_He_isMutual (o0 : Nat) (a1 : Int32) (a2 : Int32) (a3 : Int32) (m : jz_M) : Option (Int32) :=
  jz_n ((((a1 * 6) + a2) * 6) + a3) fun x1_ =>
  (jz_ix 216 x1_).bind fun j2_ =>
  if (m (o0 + 1) j2_) ≤ 0 then
    some 0
  else
    (jz_ix 216 x1_).bind fun j4_ =>
    if (m (o0 + 2) j4_) = 0 then
      some 0
    else
      some 1
set_option maxHeartbeats 4000000 in
set_option maxRecDepth 100000 in
theorem c_He_isMutual {Z : cz_Z} (l : Launch) (hI : jz_I (cz_G Z)) {o0 : Nat} {a1 : Int32} {a2 : Int32} {a3 : Int32} {m : jz_M} {r : Int32} (ko0 : kz_He o0) (h : f_He_isMutual o0 a1 a2 a3 m = some r) : jz_m l y_He_isMutual cd_He_isMutual rm_He_isMutual (cz_G Z) [.ref (gz_ad (cz_G Z) o0), .int a1, .int a2, .int a3] m (some (.int r)) m := by
  refine jz_met (own := R_He) (by decide) rfl hI (Nat.le_of_ble_eq_true rfl) (fun X hX C => ?_)
  subst hX
  show jz_J X 5 (cz_G Z) _ m [(0, .ref (gz_ad (cz_G Z) o0)), (1, .int a1), (2, .int a2), (3, .int a3)] 0 []
  unfold f_He_isMutual at h
  refine jr_iload_n 0 C d_He_isMutual_0 rfl ?_
  refine jr_bipush 1 6 C d_He_isMutual_1 (by decide) ?_
  refine jr_imul 3 C d_He_isMutual_3 ?_
  refine jr_iload_n 4 C d_He_isMutual_4 rfl ?_
  refine jr_iadd 5 C d_He_isMutual_5 ?_
  refine jr_bipush 6 6 C d_He_isMutual_6 (by decide) ?_
  refine jr_imul 8 C d_He_isMutual_8 ?_
  refine jr_iload_n 9 C d_He_isMutual_9 rfl ?_
  refine jr_iadd 10 C d_He_isMutual_10 ?_
  obtain ⟨x1_, ex1_, h⟩ := jz_ne h
  refine jr_top ex1_ ?_
  refine jr_istore 11 [(0, .ref (gz_ad (cz_G Z) o0)), (1, .int a1), (2, .int a2), (3, .int a3), (4, .int x1_)] C d_He_isMutual_11 rfl (by decide) rfl ?_
  refine jr_aload_n 13 C d_He_isMutual_13 rfl ?_
  refine gf_He_11 14 C d_He_isMutual_14 ko0 ?_
  refine jr_iload 17 C d_He_isMutual_17 rfl ?_
  obtain ⟨j2_, ej2_, h⟩ := jz_b h
  refine jr_iald 19 C d_He_isMutual_19 (zk_He_ticksLeft ko0) ej2_ ?_
  refine jr_if_le 20 37 C d_He_isMutual_20 (by decide) (fun c3_ => ?_) (fun c3_ => ?_)
  · have h := jz_t c3_ h
    refine jr_iconst 37 0 C d_He_isMutual_37 (by decide) ?_
    obtain rfl := Option.some.inj h
    exact jr_zret 38 (v := 0) C d_He_isMutual_38 rfl nb_0
  · have h := jz_f c3_ h
    refine jr_aload_n 23 C d_He_isMutual_23 rfl ?_
    refine gf_He_15 24 C d_He_isMutual_24 ko0 ?_
    refine jr_iload 27 C d_He_isMutual_27 rfl ?_
    obtain ⟨j4_, ej4_, h⟩ := jz_b h
    refine jr_zald 29 C d_He_isMutual_29 (zk_He_named ko0) ej4_ ?_
    refine jr_if_eq 30 37 C d_He_isMutual_30 (by decide) (fun c5_ => ?_) (fun c5_ => ?_)
    · have h := jz_t c5_ h
      refine jr_iconst 37 0 C d_He_isMutual_37 (by decide) ?_
      obtain rfl := Option.some.inj h
      exact jr_zret 38 (v := 0) C d_He_isMutual_38 rfl nb_0
    · have h := jz_f c5_ h
      refine jr_iconst 33 1 C d_He_isMutual_33 (by decide) ?_
      refine jr_goto 34 38 C d_He_isMutual_34 (by decide) ?_
      obtain rfl := Option.some.inj h
      exact jr_zret 38 (v := 1) C d_He_isMutual_38 rfl nb_1
abbrev rm_AR_isReached : Room := { frames := 1, cells := 0, slots := 0, locals := 24 }
abbrev cd_AR_isReached : Cond := .code y_AR_isReached b_AR_isReached 6 (some .boolean)
def f_AR_isReached (a1 : Int32) (a2 : Int32) (a3 : Int32) (a4 : Int32) (a5 : Int32) (m : jz_M) : Option (Int32) :=
  (f_AR_isMeant a1 a5 m).bind fun v1_ =>
  if v1_ = 0 then
    some 0
  else
    (f_AR_hearingAt a4 m).bind fun v3_ =>
    (f_He_isMutual v3_ a1 a3 a2 m).bind fun v4_ =>
    if v4_ = 0 then
      some 0
    else
      some 1
set_option maxHeartbeats 4000000 in
set_option maxRecDepth 100000 in
theorem c_AR_isReached {Z : cz_Z} (l : Launch) (hI : jz_I (cz_G Z)) {a1 : Int32} {a2 : Int32} {a3 : Int32} {a4 : Int32} {a5 : Int32} {m : jz_M} {r : Int32} (h : f_AR_isReached a1 a2 a3 a4 a5 m = some r) : jz_m l y_AR_isReached cd_AR_isReached rm_AR_isReached (cz_G Z) [.ref (gz_ad (cz_G Z) 0), .int a1, .int a2, .int a3, .int a4, .int a5] m (some (.int r)) m := by
  refine jz_met (own := R_AR) (by decide) rfl hI (Nat.le_of_ble_eq_true rfl) (fun X hX C => ?_)
  subst hX
  show jz_J X 6 (cz_G Z) _ m [(0, .ref (gz_ad (cz_G Z) 0)), (1, .int a1), (2, .int a2), (3, .int a3), (4, .int a4), (5, .int a5)] 0 []
  unfold f_AR_isReached at h
  refine jr_iload_n 0 C d_AR_isReached_0 rfl ?_
  refine jr_iload 1 C d_AR_isReached_1 rfl ?_
  obtain ⟨v1_, ev1_, h⟩ := jz_b h
  refine jr_callS 3 [.int a1, .int a5] C d_AR_isReached_3 (c_AR_isMeant (xz_l X) C.2.2.2.2.2.2.1 ev1_) sz_AR_isMeant tz_AR_isMeant lk_AR_77 (by decide) rfl rfl (Nat.le_of_ble_eq_true rfl) rfl ?_
  refine jr_if_eq 6 28 C d_AR_isReached_6 (by decide) (fun c2_ => ?_) (fun c2_ => ?_)
  · have h := jz_t c2_ h
    refine jr_iconst 28 0 C d_AR_isReached_28 (by decide) ?_
    obtain rfl := Option.some.inj h
    exact jr_zret 29 (v := 0) C d_AR_isReached_29 rfl nb_0
  · have h := jz_f c2_ h
    refine jr_aload_n 9 C d_AR_isReached_9 rfl ?_
    refine jr_iload 10 C d_AR_isReached_10 rfl ?_
    obtain ⟨v3_, ev3_, h⟩ := jz_b h
    refine jr_callV 12 [.int a4] C d_AR_isReached_12 (c_AR_hearingAt (xz_l X) C.2.2.2.2.2.2.1  ev3_) sz_AR_hearingAt tz_AR_hearingAt lk_AR_150 oz_AR rfl (by decide) rfl rfl (Nat.le_of_ble_eq_true rfl) rfl ?_
    refine jr_iload_n 15 C d_AR_isReached_15 rfl ?_
    refine jr_iload_n 16 C d_AR_isReached_16 rfl ?_
    refine jr_iload_n 17 C d_AR_isReached_17 rfl ?_
    obtain ⟨v4_, ev4_, h⟩ := jz_b h
    refine jr_callVN 18 [.int a1, .int a3, .int a2] C d_AR_isReached_18 (c_He_isMutual (xz_l X) C.2.2.2.2.2.2.1 (kr_AR_hearingAt ev3_) ev4_) sz_He_isMutual tz_He_isMutual lk_AR_154 (oz_He (kr_AR_hearingAt ev3_)) rfl (by decide) rfl rfl (Nat.le_of_ble_eq_true rfl) rfl ?_
    refine jr_if_eq 21 28 C d_AR_isReached_21 (by decide) (fun c5_ => ?_) (fun c5_ => ?_)
    · have h := jz_t c5_ h
      refine jr_iconst 28 0 C d_AR_isReached_28 (by decide) ?_
      obtain rfl := Option.some.inj h
      exact jr_zret 29 (v := 0) C d_AR_isReached_29 rfl nb_0
    · have h := jz_f c5_ h
      refine jr_iconst 24 1 C d_AR_isReached_24 (by decide) ?_
      refine jr_goto 25 29 C d_AR_isReached_25 (by decide) ?_
      obtain rfl := Option.some.inj h
      exact jr_zret 29 (v := 1) C d_AR_isReached_29 rfl nb_1
abbrev rm_Ba_isAlive : Room := { frames := 0, cells := 0, slots := 0, locals := 0 }
abbrev cd_Ba_isAlive : Cond := .code y_Ba_isAlive b_Ba_isAlive 2 (some .boolean)
def f_Ba_isAlive (o0 : Nat) (a1 : Int32) (m : jz_M) : Option (Int32) :=
  (jz_ix 42 a1).bind fun j1_ =>
  if (m (o0 + 3) j1_) ≤ 0 then
    some 0
  else
    some 1
set_option maxHeartbeats 4000000 in
set_option maxRecDepth 100000 in
theorem c_Ba_isAlive {Z : cz_Z} (l : Launch) (hI : jz_I (cz_G Z)) {o0 : Nat} {a1 : Int32} {m : jz_M} {r : Int32} (ko0 : kz_Ba o0) (h : f_Ba_isAlive o0 a1 m = some r) : jz_m l y_Ba_isAlive cd_Ba_isAlive rm_Ba_isAlive (cz_G Z) [.ref (gz_ad (cz_G Z) o0), .int a1] m (some (.int r)) m := by
  refine jz_met (own := R_Ba) (by decide) rfl hI (Nat.le_of_ble_eq_true rfl) (fun X hX C => ?_)
  subst hX
  show jz_J X 2 (cz_G Z) _ m [(0, .ref (gz_ad (cz_G Z) o0)), (1, .int a1)] 0 []
  unfold f_Ba_isAlive at h
  refine jr_aload_n 0 C d_Ba_isAlive_0 rfl ?_
  refine gf_Ba_18 1 C d_Ba_isAlive_1 ko0 ?_
  refine jr_iload_n 4 C d_Ba_isAlive_4 rfl ?_
  obtain ⟨j1_, ej1_, h⟩ := jz_b h
  refine jr_iald 5 C d_Ba_isAlive_5 (zk_Ba_lives ko0) ej1_ ?_
  refine jr_if_le 6 13 C d_Ba_isAlive_6 (by decide) (fun c2_ => ?_) (fun c2_ => ?_)
  · have h := jz_t c2_ h
    refine jr_iconst 13 0 C d_Ba_isAlive_13 (by decide) ?_
    obtain rfl := Option.some.inj h
    exact jr_zret 14 (v := 0) C d_Ba_isAlive_14 rfl nb_0
  · have h := jz_f c2_ h
    refine jr_iconst 9 1 C d_Ba_isAlive_9 (by decide) ?_
    refine jr_goto 10 14 C d_Ba_isAlive_10 (by decide) ?_
    obtain rfl := Option.some.inj h
    exact jr_zret 14 (v := 1) C d_Ba_isAlive_14 rfl nb_1
abbrev rm_Ba_orderAgainst : Room := { frames := 1, cells := 0, slots := 0, locals := 21 }
abbrev cd_Ba_orderAgainst : Cond := .code y_Ba_orderAgainst b_Ba_orderAgainst 3 (some .int)
def f_Ba_orderAgainst (o0 : Nat) (o1 : Nat) (a2 : Int32) (m : jz_M) : Option (Int32) :=
  (jz_ix 42 a2).bind fun j1_ =>
  (jz_ix 42 a2).bind fun j2_ =>
  if (m (o0 + 1) j1_) = (m (o1 + 1) j2_) then
    (f_Ba_isAlive o0 a2 m).bind fun v4_ =>
    (f_Ba_isAlive o1 a2 m).bind fun v5_ =>
    if ¬ v4_ = v5_ then
      (f_Ba_isAlive o0 a2 m).bind fun v7_ =>
      if v7_ = 0 then
        some 1
      else
        some (-1)
    else
      some 0
  else
    (jz_ix 42 a2).bind fun j9_ =>
    (jz_ix 42 a2).bind fun j10_ =>
    some ((m (o0 + 1) j9_) - (m (o1 + 1) j10_))
set_option maxHeartbeats 4000000 in
set_option maxRecDepth 100000 in
theorem c_Ba_orderAgainst {Z : cz_Z} (l : Launch) (hI : jz_I (cz_G Z)) {o0 : Nat} {o1 : Nat} {a2 : Int32} {m : jz_M} {r : Int32} (ko0 : kz_Ba o0) (ko1 : kz_Ba o1) (h : f_Ba_orderAgainst o0 o1 a2 m = some r) : jz_m l y_Ba_orderAgainst cd_Ba_orderAgainst rm_Ba_orderAgainst (cz_G Z) [.ref (gz_ad (cz_G Z) o0), .ref (gz_ad (cz_G Z) o1), .int a2] m (some (.int r)) m := by
  refine jz_met (own := R_Ba) (by decide) rfl hI (Nat.le_of_ble_eq_true rfl) (fun X hX C => ?_)
  subst hX
  show jz_J X 3 (cz_G Z) _ m [(0, .ref (gz_ad (cz_G Z) o0)), (1, .ref (gz_ad (cz_G Z) o1)), (2, .int a2)] 0 []
  unfold f_Ba_orderAgainst at h
  refine jr_aload_n 0 C d_Ba_orderAgainst_0 rfl ?_
  refine gf_Ba_9 1 C d_Ba_orderAgainst_1 ko0 ?_
  refine jr_iload_n 4 C d_Ba_orderAgainst_4 rfl ?_
  obtain ⟨j1_, ej1_, h⟩ := jz_b h
  refine jr_iald 5 C d_Ba_orderAgainst_5 (zk_Ba_sequences ko0) ej1_ ?_
  refine jr_aload_n 6 C d_Ba_orderAgainst_6 rfl ?_
  refine gf_Ba_9 7 C d_Ba_orderAgainst_7 ko1 ?_
  refine jr_iload_n 10 C d_Ba_orderAgainst_10 rfl ?_
  obtain ⟨j2_, ej2_, h⟩ := jz_b h
  refine jr_iald 11 C d_Ba_orderAgainst_11 (zk_Ba_sequences ko1) ej2_ ?_
  refine jr_icmp_eq 12 29 C d_Ba_orderAgainst_12 (by decide) (fun c3_ => ?_) (fun c3_ => ?_)
  · have h := jz_t c3_ h
    refine jr_aload_n 29 C d_Ba_orderAgainst_29 rfl ?_
    refine jr_iload_n 30 C d_Ba_orderAgainst_30 rfl ?_
    obtain ⟨v4_, ev4_, h⟩ := jz_b h
    refine jr_callV 31 [.int a2] C d_Ba_orderAgainst_31 (c_Ba_isAlive (xz_l X) C.2.2.2.2.2.2.1 ko0 ev4_) sz_Ba_isAlive tz_Ba_isAlive lk_Ba_51 (oz_Ba ko0) rfl (by decide) rfl rfl (Nat.le_of_ble_eq_true rfl) rfl ?_
    refine jr_aload_n 34 C d_Ba_orderAgainst_34 rfl ?_
    refine jr_iload_n 35 C d_Ba_orderAgainst_35 rfl ?_
    obtain ⟨v5_, ev5_, h⟩ := jz_b h
    refine jr_callV 36 [.int a2] C d_Ba_orderAgainst_36 (c_Ba_isAlive (xz_l X) C.2.2.2.2.2.2.1 ko1 ev5_) sz_Ba_isAlive tz_Ba_isAlive lk_Ba_51 (oz_Ba ko1) rfl (by decide) rfl rfl (Nat.le_of_ble_eq_true rfl) rfl ?_
    refine jr_icmp_ne 39 44 C d_Ba_orderAgainst_39 (by decide) (fun c6_ => ?_) (fun c6_ => ?_)
    · have h := jz_t c6_ h
      refine jr_aload_n 44 C d_Ba_orderAgainst_44 rfl ?_
      refine jr_iload_n 45 C d_Ba_orderAgainst_45 rfl ?_
      obtain ⟨v7_, ev7_, h⟩ := jz_b h
      refine jr_callV 46 [.int a2] C d_Ba_orderAgainst_46 (c_Ba_isAlive (xz_l X) C.2.2.2.2.2.2.1 ko0 ev7_) sz_Ba_isAlive tz_Ba_isAlive lk_Ba_51 (oz_Ba ko0) rfl (by decide) rfl rfl (Nat.le_of_ble_eq_true rfl) rfl ?_
      refine jr_if_eq 49 56 C d_Ba_orderAgainst_49 (by decide) (fun c8_ => ?_) (fun c8_ => ?_)
      · have h := jz_t c8_ h
        refine jr_iconst 56 1 C d_Ba_orderAgainst_56 (by decide) ?_
        obtain rfl := Option.some.inj h
        exact jr_iret 57 (v := 1) C d_Ba_orderAgainst_57 rfl
      · have h := jz_f c8_ h
        refine jr_iconst 52 (-1) C d_Ba_orderAgainst_52 (by decide) ?_
        refine jr_goto 53 57 C d_Ba_orderAgainst_53 (by decide) ?_
        obtain rfl := Option.some.inj h
        exact jr_iret 57 (v := (-1)) C d_Ba_orderAgainst_57 rfl
    · have h := jz_f c6_ h
      refine jr_iconst 42 0 C d_Ba_orderAgainst_42 (by decide) ?_
      obtain rfl := Option.some.inj h
      exact jr_iret 43 (v := 0) C d_Ba_orderAgainst_43 rfl
  · have h := jz_f c3_ h
    refine jr_aload_n 15 C d_Ba_orderAgainst_15 rfl ?_
    refine gf_Ba_9 16 C d_Ba_orderAgainst_16 ko0 ?_
    refine jr_iload_n 19 C d_Ba_orderAgainst_19 rfl ?_
    obtain ⟨j9_, ej9_, h⟩ := jz_b h
    refine jr_iald 20 C d_Ba_orderAgainst_20 (zk_Ba_sequences ko0) ej9_ ?_
    refine jr_aload_n 21 C d_Ba_orderAgainst_21 rfl ?_
    refine gf_Ba_9 22 C d_Ba_orderAgainst_22 ko1 ?_
    refine jr_iload_n 25 C d_Ba_orderAgainst_25 rfl ?_
    obtain ⟨j10_, ej10_, h⟩ := jz_b h
    refine jr_iald 26 C d_Ba_orderAgainst_26 (zk_Ba_sequences ko1) ej10_ ?_
    refine jr_isub 27 C d_Ba_orderAgainst_27 ?_
    obtain rfl := Option.some.inj h
    exact jr_iret 28 (v := ((m (o0 + 1) j9_) - (m (o1 + 1) j10_))) C d_Ba_orderAgainst_28 rfl
abbrev rm_Ba_setDue : Room := { frames := 0, cells := 0, slots := 0, locals := 0 }
abbrev cd_Ba_setDue : Cond := .code y_Ba_setDue b_Ba_setDue 4 none
def f_Ba_setDue (o0 : Nat) (a1 : Int32) (a2 : Int32) (a3 : Int32) (m : jz_M) : Option (jz_M) :=
  if a3 = 0 then
    (jz_ix 42 a1).bind fun j2_ =>
    (jz_ix 42 a1).bind fun j3_ =>
    jz_n (jz_up m (o0 + 9) j3_ ((m (o0 + 9) j2_) &&& (((1 : Int32) <<< (a2 &&& 31)) ^^^ (-1)))) fun m4_ =>
    some m4_
  else
    (jz_ix 42 a1).bind fun j5_ =>
    (jz_ix 42 a1).bind fun j6_ =>
    jz_n (jz_up m (o0 + 9) j6_ ((m (o0 + 9) j5_) ||| ((1 : Int32) <<< (a2 &&& 31)))) fun m7_ =>
    some m7_
set_option maxHeartbeats 4000000 in
set_option maxRecDepth 100000 in
theorem c_Ba_setDue {Z : cz_Z} (l : Launch) (hI : jz_I (cz_G Z)) {o0 : Nat} {a1 : Int32} {a2 : Int32} {a3 : Int32} {m : jz_M} {r : jz_M} (ko0 : kz_Ba o0) (h : f_Ba_setDue o0 a1 a2 a3 m = some r) : jz_m l y_Ba_setDue cd_Ba_setDue rm_Ba_setDue (cz_G Z) [.ref (gz_ad (cz_G Z) o0), .int a1, .int a2, .int a3] m none r := by
  refine jz_met (own := R_Ba) (by decide) rfl hI (Nat.le_of_ble_eq_true rfl) (fun X hX C => ?_)
  subst hX
  show jz_J X 4 (cz_G Z) _ m [(0, .ref (gz_ad (cz_G Z) o0)), (1, .int a1), (2, .int a2), (3, .int a3)] 0 []
  unfold f_Ba_setDue at h
  refine jr_aload_n 0 C d_Ba_setDue_0 rfl ?_
  refine gf_Ba_37 1 C d_Ba_setDue_1 ko0 ?_
  refine jr_iload_n 4 C d_Ba_setDue_4 rfl ?_
  refine jr_iload_n 5 C d_Ba_setDue_5 rfl ?_
  refine jr_if_eq 6 22 C d_Ba_setDue_6 (by decide) (fun c1_ => ?_) (fun c1_ => ?_)
  · have h := jz_t c1_ h
    refine jr_aload_n 22 C d_Ba_setDue_22 rfl ?_
    refine gf_Ba_37 23 C d_Ba_setDue_23 ko0 ?_
    refine jr_iload_n 26 C d_Ba_setDue_26 rfl ?_
    obtain ⟨j2_, ej2_, h⟩ := jz_b h
    refine jr_iald 27 C d_Ba_setDue_27 (zk_Ba_due ko0) ej2_ ?_
    refine jr_iconst 28 1 C d_Ba_setDue_28 (by decide) ?_
    refine jr_iload_n 29 C d_Ba_setDue_29 rfl ?_
    refine jr_ishl 30 C d_Ba_setDue_30 ?_
    refine jr_iconst 31 (-1) C d_Ba_setDue_31 (by decide) ?_
    refine jr_ixor 32 C d_Ba_setDue_32 ?_
    refine jr_iand 33 C d_Ba_setDue_33 ?_
    obtain ⟨j3_, ej3_, h⟩ := jz_b h
    obtain ⟨m4_, em4_, h⟩ := jz_ne h
    refine jr_iast 34 C d_Ba_setDue_34 (zk_Ba_due ko0) ej3_ ?_
    refine jr_mem em4_ ?_
    obtain rfl := Option.some.inj h
    exact jr_vret 35 C d_Ba_setDue_35 rfl
  · have h := jz_f c1_ h
    refine jr_aload_n 9 C d_Ba_setDue_9 rfl ?_
    refine gf_Ba_37 10 C d_Ba_setDue_10 ko0 ?_
    refine jr_iload_n 13 C d_Ba_setDue_13 rfl ?_
    obtain ⟨j5_, ej5_, h⟩ := jz_b h
    refine jr_iald 14 C d_Ba_setDue_14 (zk_Ba_due ko0) ej5_ ?_
    refine jr_iconst 15 1 C d_Ba_setDue_15 (by decide) ?_
    refine jr_iload_n 16 C d_Ba_setDue_16 rfl ?_
    refine jr_ishl 17 C d_Ba_setDue_17 ?_
    refine jr_ior 18 C d_Ba_setDue_18 ?_
    refine jr_goto 19 34 C d_Ba_setDue_19 (by decide) ?_
    obtain ⟨j6_, ej6_, h⟩ := jz_b h
    obtain ⟨m7_, em7_, h⟩ := jz_ne h
    refine jr_iast 34 C d_Ba_setDue_34 (zk_Ba_due ko0) ej6_ ?_
    refine jr_mem em7_ ?_
    obtain rfl := Option.some.inj h
    exact jr_vret 35 C d_Ba_setDue_35 rfl
