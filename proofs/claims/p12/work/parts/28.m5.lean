abbrev rm_Mo_spread : Room := { frames := 7, cells := 0, slots := 0, locals := 178 }
abbrev cd_Mo_spread : Cond := .code y_Mo_spread b_Mo_spread 11 (some .int)
def f_Mo_spread_86 (k39 : Int32 → Int32 → Int32 → Int32 → Int32 → Int32 → Int32 → jz_M → Option (Int32 × jz_M)) : Nat → Int32 → Int32 → Int32 → Int32 → Int32 → Int32 → Int32 → Int32 → Int32 → jz_M → Option (Int32 × jz_M)
  | 0, _, _, _, _, _, _, _, _, _, _ => none
  | fu + 1, x1, x2, x3, x4, x6, x7, x8, x9, x10, m =>
    if 6 ≤ x10 then
      if x7 = 0 then
        (jz_ix 504 x9).bind fun j3_ =>
        (jz_ix 504 x9).bind fun j4_ =>
        jz_n (jz_up m 16 j4_ (m 16 j3_)) fun m5_ =>
        jz_n (x8 + 1) fun x6_ =>
        k39 x1 x2 x3 x4 x6 x7 x6_ m5_
      else
        (jz_ix 504 x9).bind fun j7_ =>
        (jz_ix 504 x9).bind fun j8_ =>
        jz_n (jz_up m 16 j8_ ((m 16 j7_) &&& (((1 : Int32) <<< (x2 &&& 31)) ^^^ (-1)))) fun m9_ =>
        jz_n (x8 + 1) fun x10_ =>
        k39 x1 x2 x3 x4 x6 x7 x10_ m9_
    else
      (f_Mo_receives x10 x1 x2 x4 m).bind fun v11_ =>
      if v11_ = 0 then
        jz_n (x10 + 1) fun x13_ =>
        f_Mo_spread_86 k39 fu x1 x2 x3 x4 x6 x7 x8 x9 x13_ m
      else
        (f_Mo_near x10 x2 x3 x1 m).bind fun v14_ =>
        if v14_ = 0 then
          jz_n (x10 + 1) fun x16_ =>
          f_Mo_spread_86 k39 fu x1 x2 x3 x4 x6 x7 x8 x9 x16_ m
        else
          (f_Mo_take x10 x1 x2 x3 x8 m).bind fun v17_ =>
          jz_n (x10 + 1) fun x18_ =>
          f_Mo_spread_86 k39 fu x1 x2 x3 x4 x6 x7 x8 x9 x18_ v17_
set_option maxHeartbeats 4000000 in
set_option maxRecDepth 100000 in
theorem t_Mo_spread_86 {Z : cz_Z} {X : jz_X} {r : Int32 × jz_M} (C : jz_C X 11 b_Mo_spread R_Mo (some .int) rm_Mo_spread (mz_G Z)) (k39 : Int32 → Int32 → Int32 → Int32 → Int32 → Int32 → Int32 → jz_M → Option (Int32 × jz_M)) (hk39 : ∀ (x1 : Int32) (x2 : Int32) (x3 : Int32) (x4 : Int32) (x6 : Int32) (x7 : Int32) (x8 : Int32) (m : jz_M), k39 x1 x2 x3 x4 x6 x7 x8 m = some r → jz_J X 11 (mz_G Z) (jz_q X (mz_G Z) (some (.int r.1)) r.2) m [(0, .ref (gz_ad (mz_G Z) 0)), (1, .int x1), (2, .int x2), (3, .int x3), (4, .int x4), (6, .int x6), (7, .int x7), (8, .int x8)] 39 []) : ∀ (fu : Nat) (x1 : Int32) (x2 : Int32) (x3 : Int32) (x4 : Int32) (x6 : Int32) (x7 : Int32) (x8 : Int32) (x9 : Int32) (x10 : Int32) (m : jz_M) , f_Mo_spread_86 k39 fu x1 x2 x3 x4 x6 x7 x8 x9 x10 m = some r → jz_J X 11 (mz_G Z) (jz_q X (mz_G Z) (some (.int r.1)) r.2) m [(0, .ref (gz_ad (mz_G Z) 0)), (1, .int x1), (2, .int x2), (3, .int x3), (4, .int x4), (6, .int x6), (7, .int x7), (8, .int x8), (9, .int x9), (10, .int x10)] 86 [] := by
  intro fu
  induction fu with
  | zero => intro x1 x2 x3 x4 x6 x7 x8 x9 x10 m h; cases h
  | succ fu ih =>
    intro x1 x2 x3 x4 x6 x7 x8 x9 x10 m h
    rw [f_Mo_spread_86] at h
    refine jr_iload 86 C d_Mo_spread_86 rfl ?_
    refine jr_bipush 88 6 C d_Mo_spread_88 (by decide) ?_
    refine jr_icmp_ge 90 135 C d_Mo_spread_90 (by decide) (fun c1_ => ?_) (fun c1_ => ?_)
    · have h := jz_t c1_ h
      refine jr_aload_n 135 C d_Mo_spread_135 rfl ?_
      refine gf_Mo_56 136 C d_Mo_spread_136 ?_
      refine jr_iload 139 C d_Mo_spread_139 rfl ?_
      refine jr_iload 141 C d_Mo_spread_141 rfl ?_
      refine jr_if_eq 143 162 C d_Mo_spread_143 (by decide) (fun c2_ => ?_) (fun c2_ => ?_)
      · have h := jz_t c2_ h
        refine jr_aload_n 162 C d_Mo_spread_162 rfl ?_
        refine gf_Mo_56 163 C d_Mo_spread_163 ?_
        refine jr_iload 166 C d_Mo_spread_166 rfl ?_
        obtain ⟨j3_, ej3_, h⟩ := jz_b h
        refine jr_iald 168 C d_Mo_spread_168 zk_Mo_due ej3_ ?_
        obtain ⟨j4_, ej4_, h⟩ := jz_b h
        obtain ⟨m5_, em5_, h⟩ := jz_ne h
        refine jr_iast 169 C d_Mo_spread_169 zk_Mo_due ej4_ ?_
        refine jr_mem em5_ ?_
        obtain ⟨x6_, ex6_, h⟩ := jz_ne h
        refine jr_iinc 170 [(0, .ref (gz_ad (mz_G Z) 0)), (1, .int x1), (2, .int x2), (3, .int x3), (4, .int x4), (6, .int x6), (7, .int x7), (8, .int x6_), (9, .int x9), (10, .int x10)] C d_Mo_spread_170 rfl (by decide) rfl (by rw [ex6_]; rfl) rfl ?_
        refine jr_goto 173 39 C d_Mo_spread_173 (by decide) ?_
        refine jr_sub [0, 1, 2, 3, 4, 5, 6, 7] rfl ?_
        exact hk39 x1 x2 x3 x4 x6 x7 x6_ m5_  h
      · have h := jz_f c2_ h
        refine jr_aload_n 146 C d_Mo_spread_146 rfl ?_
        refine gf_Mo_56 147 C d_Mo_spread_147 ?_
        refine jr_iload 150 C d_Mo_spread_150 rfl ?_
        obtain ⟨j7_, ej7_, h⟩ := jz_b h
        refine jr_iald 152 C d_Mo_spread_152 zk_Mo_due ej7_ ?_
        refine jr_iconst 153 1 C d_Mo_spread_153 (by decide) ?_
        refine jr_iload_n 154 C d_Mo_spread_154 rfl ?_
        refine jr_ishl 155 C d_Mo_spread_155 ?_
        refine jr_iconst 156 (-1) C d_Mo_spread_156 (by decide) ?_
        refine jr_ixor 157 C d_Mo_spread_157 ?_
        refine jr_iand 158 C d_Mo_spread_158 ?_
        refine jr_goto 159 169 C d_Mo_spread_159 (by decide) ?_
        obtain ⟨j8_, ej8_, h⟩ := jz_b h
        obtain ⟨m9_, em9_, h⟩ := jz_ne h
        refine jr_iast 169 C d_Mo_spread_169 zk_Mo_due ej8_ ?_
        refine jr_mem em9_ ?_
        obtain ⟨x10_, ex10_, h⟩ := jz_ne h
        refine jr_iinc 170 [(0, .ref (gz_ad (mz_G Z) 0)), (1, .int x1), (2, .int x2), (3, .int x3), (4, .int x4), (6, .int x6), (7, .int x7), (8, .int x10_), (9, .int x9), (10, .int x10)] C d_Mo_spread_170 rfl (by decide) rfl (by rw [ex10_]; rfl) rfl ?_
        refine jr_goto 173 39 C d_Mo_spread_173 (by decide) ?_
        refine jr_sub [0, 1, 2, 3, 4, 5, 6, 7] rfl ?_
        exact hk39 x1 x2 x3 x4 x6 x7 x10_ m9_  h
    · have h := jz_f c1_ h
      refine jr_aload_n 93 C d_Mo_spread_93 rfl ?_
      refine jr_iload 94 C d_Mo_spread_94 rfl ?_
      refine jr_iload_n 96 C d_Mo_spread_96 rfl ?_
      refine jr_iload_n 97 C d_Mo_spread_97 rfl ?_
      refine jr_iload 98 C d_Mo_spread_98 rfl ?_
      obtain ⟨v11_, ev11_, h⟩ := jz_b h
      refine jr_callV 100 [.int x10, .int x1, .int x2, .int x4] C d_Mo_spread_100 (c_Mo_receives (xz_l X) C.2.2.2.2.2.2.1  ev11_) sz_Mo_receives tz_Mo_receives lk_Mo_105 oz_Mo rfl (by decide) rfl rfl (Nat.le_of_ble_eq_true rfl) rfl ?_
      refine jr_if_eq 103 129 C d_Mo_spread_103 (by decide) (fun c12_ => ?_) (fun c12_ => ?_)
      · have h := jz_t c12_ h
        obtain ⟨x13_, ex13_, h⟩ := jz_ne h
        refine jr_iinc 129 [(0, .ref (gz_ad (mz_G Z) 0)), (1, .int x1), (2, .int x2), (3, .int x3), (4, .int x4), (6, .int x6), (7, .int x7), (8, .int x8), (9, .int x9), (10, .int x13_)] C d_Mo_spread_129 rfl (by decide) rfl (by rw [ex13_]; rfl) rfl ?_
        refine jr_goto 132 86 C d_Mo_spread_132 (by decide) ?_
        refine jr_sub [0, 1, 2, 3, 4, 5, 6, 7, 8, 9] rfl ?_
        exact ih x1 x2 x3 x4 x6 x7 x8 x9 x13_ m  h
      · have h := jz_f c12_ h
        refine jr_aload_n 106 C d_Mo_spread_106 rfl ?_
        refine jr_iload 107 C d_Mo_spread_107 rfl ?_
        refine jr_iload_n 109 C d_Mo_spread_109 rfl ?_
        refine jr_iload_n 110 C d_Mo_spread_110 rfl ?_
        refine jr_iload_n 111 C d_Mo_spread_111 rfl ?_
        obtain ⟨v14_, ev14_, h⟩ := jz_b h
        refine jr_callV 112 [.int x10, .int x2, .int x3, .int x1] C d_Mo_spread_112 (c_Mo_near (xz_l X) C.2.2.2.2.2.2.1  ev14_) sz_Mo_near tz_Mo_near lk_Mo_87 oz_Mo rfl (by decide) rfl rfl (Nat.le_of_ble_eq_true rfl) rfl ?_
        refine jr_if_eq 115 129 C d_Mo_spread_115 (by decide) (fun c15_ => ?_) (fun c15_ => ?_)
        · have h := jz_t c15_ h
          obtain ⟨x16_, ex16_, h⟩ := jz_ne h
          refine jr_iinc 129 [(0, .ref (gz_ad (mz_G Z) 0)), (1, .int x1), (2, .int x2), (3, .int x3), (4, .int x4), (6, .int x6), (7, .int x7), (8, .int x8), (9, .int x9), (10, .int x16_)] C d_Mo_spread_129 rfl (by decide) rfl (by rw [ex16_]; rfl) rfl ?_
          refine jr_goto 132 86 C d_Mo_spread_132 (by decide) ?_
          refine jr_sub [0, 1, 2, 3, 4, 5, 6, 7, 8, 9] rfl ?_
          exact ih x1 x2 x3 x4 x6 x7 x8 x9 x16_ m  h
        · have h := jz_f c15_ h
          refine jr_aload_n 118 C d_Mo_spread_118 rfl ?_
          refine jr_iload 119 C d_Mo_spread_119 rfl ?_
          refine jr_iload_n 121 C d_Mo_spread_121 rfl ?_
          refine jr_iload_n 122 C d_Mo_spread_122 rfl ?_
          refine jr_iload_n 123 C d_Mo_spread_123 rfl ?_
          refine jr_iload 124 C d_Mo_spread_124 rfl ?_
          obtain ⟨v17_, ev17_, h⟩ := jz_b h
          refine jr_callV 126 [.int x10, .int x1, .int x2, .int x3, .int x8] C d_Mo_spread_126 (c_Mo_take (xz_l X) C.2.2.2.2.2.2.1  ev17_) sz_Mo_take tz_Mo_take lk_Mo_170 oz_Mo rfl (by decide) rfl rfl (Nat.le_of_ble_eq_true rfl) rfl ?_
          obtain ⟨x18_, ex18_, h⟩ := jz_ne h
          refine jr_iinc 129 [(0, .ref (gz_ad (mz_G Z) 0)), (1, .int x1), (2, .int x2), (3, .int x3), (4, .int x4), (6, .int x6), (7, .int x7), (8, .int x8), (9, .int x9), (10, .int x18_)] C d_Mo_spread_129 rfl (by decide) rfl (by rw [ex18_]; rfl) rfl ?_
          refine jr_goto 132 86 C d_Mo_spread_132 (by decide) ?_
          refine jr_sub [0, 1, 2, 3, 4, 5, 6, 7, 8, 9] rfl ?_
          exact ih x1 x2 x3 x4 x6 x7 x8 x9 x18_ v17_  h
def f_Mo_spread_39 : Nat → Int32 → Int32 → Int32 → Int32 → Int32 → Int32 → Int32 → jz_M → Option (Int32 × jz_M)
  | 0, _, _, _, _, _, _, _, _ => none
  | fu + 1, x1, x2, x3, x4, x6, x7, x8, m =>
    if 42 ≤ x8 then
      some (x6, m)
    else
      (f_Mo_at x1 x3 x8 m).bind fun v2_ =>
      (jz_ix 504 v2_).bind fun j3_ =>
      if (m 8 j3_) ≤ 0 then
        jz_n (x8 + 1) fun x5_ =>
        f_Mo_spread_39 fu x1 x2 x3 x4 x6 x7 x5_ m
      else
        (jz_ix 504 v2_).bind fun j6_ =>
        if ¬ (((m 16 j6_) >>> (x2 &&& 31)) &&& 1) = 1 then
          jz_n (x8 + 1) fun x8_ =>
          f_Mo_spread_39 fu x1 x2 x3 x4 x6 x7 x8_ m
        else
          jz_n (x6 + 1) fun x9_ =>
          f_Mo_spread_86 (f_Mo_spread_39 fu) 1000000 x1 x2 x3 x4 x9_ x7 x8 v2_ 0 m
set_option maxHeartbeats 4000000 in
set_option maxRecDepth 100000 in
theorem t_Mo_spread_39 {Z : cz_Z} {X : jz_X} {r : Int32 × jz_M} (C : jz_C X 11 b_Mo_spread R_Mo (some .int) rm_Mo_spread (mz_G Z)) : ∀ (fu : Nat) (x1 : Int32) (x2 : Int32) (x3 : Int32) (x4 : Int32) (x6 : Int32) (x7 : Int32) (x8 : Int32) (m : jz_M) , f_Mo_spread_39 fu x1 x2 x3 x4 x6 x7 x8 m = some r → jz_J X 11 (mz_G Z) (jz_q X (mz_G Z) (some (.int r.1)) r.2) m [(0, .ref (gz_ad (mz_G Z) 0)), (1, .int x1), (2, .int x2), (3, .int x3), (4, .int x4), (6, .int x6), (7, .int x7), (8, .int x8)] 39 [] := by
  intro fu
  induction fu with
  | zero => intro x1 x2 x3 x4 x6 x7 x8 m h; cases h
  | succ fu ih =>
    intro x1 x2 x3 x4 x6 x7 x8 m h
    rw [f_Mo_spread_39] at h
    refine jr_iload 39 C d_Mo_spread_39 rfl ?_
    refine jr_bipush 41 42 C d_Mo_spread_41 (by decide) ?_
    refine jr_icmp_ge 43 176 C d_Mo_spread_43 (by decide) (fun c1_ => ?_) (fun c1_ => ?_)
    · have h := jz_t c1_ h
      refine jr_iload 176 C d_Mo_spread_176 rfl ?_
      obtain rfl := Option.some.inj h
      exact jr_iret 178 (v := x6) C d_Mo_spread_178 rfl
    · have h := jz_f c1_ h
      refine jr_iload_n 46 C d_Mo_spread_46 rfl ?_
      refine jr_iload_n 47 C d_Mo_spread_47 rfl ?_
      refine jr_iload 48 C d_Mo_spread_48 rfl ?_
      obtain ⟨v2_, ev2_, h⟩ := jz_b h
      refine jr_callS 50 [.int x1, .int x3, .int x8] C d_Mo_spread_50 (c_Mo_at (xz_l X) C.2.2.2.2.2.2.1  ev2_) sz_Mo_at tz_Mo_at lk_Mo_133 (by decide) rfl rfl (Nat.le_of_ble_eq_true rfl) rfl ?_
      refine jr_istore 53 [(0, .ref (gz_ad (mz_G Z) 0)), (1, .int x1), (2, .int x2), (3, .int x3), (4, .int x4), (6, .int x6), (7, .int x7), (8, .int x8), (9, .int v2_)] C d_Mo_spread_53 rfl (by decide) rfl ?_
      refine jr_aload_n 55 C d_Mo_spread_55 rfl ?_
      refine gf_Mo_32 56 C d_Mo_spread_56 ?_
      refine jr_iload 59 C d_Mo_spread_59 rfl ?_
      obtain ⟨j3_, ej3_, h⟩ := jz_b h
      refine jr_iald 61 C d_Mo_spread_61 zk_Mo_sequence ej3_ ?_
      refine jr_if_le 62 170 C d_Mo_spread_62 (by decide) (fun c4_ => ?_) (fun c4_ => ?_)
      · have h := jz_t c4_ h
        obtain ⟨x5_, ex5_, h⟩ := jz_ne h
        refine jr_iinc 170 [(0, .ref (gz_ad (mz_G Z) 0)), (1, .int x1), (2, .int x2), (3, .int x3), (4, .int x4), (6, .int x6), (7, .int x7), (8, .int x5_), (9, .int v2_)] C d_Mo_spread_170 rfl (by decide) rfl (by rw [ex5_]; rfl) rfl ?_
        refine jr_goto 173 39 C d_Mo_spread_173 (by decide) ?_
        refine jr_sub [0, 1, 2, 3, 4, 5, 6, 7] rfl ?_
        exact ih x1 x2 x3 x4 x6 x7 x5_ m  h
      · have h := jz_f c4_ h
        refine jr_aload_n 65 C d_Mo_spread_65 rfl ?_
        refine gf_Mo_56 66 C d_Mo_spread_66 ?_
        refine jr_iload 69 C d_Mo_spread_69 rfl ?_
        obtain ⟨j6_, ej6_, h⟩ := jz_b h
        refine jr_iald 71 C d_Mo_spread_71 zk_Mo_due ej6_ ?_
        refine jr_iload_n 72 C d_Mo_spread_72 rfl ?_
        refine jr_ishr 73 C d_Mo_spread_73 ?_
        refine jr_iconst 74 1 C d_Mo_spread_74 (by decide) ?_
        refine jr_iand 75 C d_Mo_spread_75 ?_
        refine jr_iconst 76 1 C d_Mo_spread_76 (by decide) ?_
        refine jr_icmp_ne 77 170 C d_Mo_spread_77 (by decide) (fun c7_ => ?_) (fun c7_ => ?_)
        · have h := jz_t c7_ h
          obtain ⟨x8_, ex8_, h⟩ := jz_ne h
          refine jr_iinc 170 [(0, .ref (gz_ad (mz_G Z) 0)), (1, .int x1), (2, .int x2), (3, .int x3), (4, .int x4), (6, .int x6), (7, .int x7), (8, .int x8_), (9, .int v2_)] C d_Mo_spread_170 rfl (by decide) rfl (by rw [ex8_]; rfl) rfl ?_
          refine jr_goto 173 39 C d_Mo_spread_173 (by decide) ?_
          refine jr_sub [0, 1, 2, 3, 4, 5, 6, 7] rfl ?_
          exact ih x1 x2 x3 x4 x6 x7 x8_ m  h
        · have h := jz_f c7_ h
          obtain ⟨x9_, ex9_, h⟩ := jz_ne h
          refine jr_iinc 80 [(0, .ref (gz_ad (mz_G Z) 0)), (1, .int x1), (2, .int x2), (3, .int x3), (4, .int x4), (6, .int x9_), (7, .int x7), (8, .int x8), (9, .int v2_)] C d_Mo_spread_80 rfl (by decide) rfl (by rw [ex9_]; rfl) rfl ?_
          refine jr_iconst 83 0 C d_Mo_spread_83 (by decide) ?_
          refine jr_istore 84 [(0, .ref (gz_ad (mz_G Z) 0)), (1, .int x1), (2, .int x2), (3, .int x3), (4, .int x4), (6, .int x9_), (7, .int x7), (8, .int x8), (9, .int v2_), (10, .int 0)] C d_Mo_spread_84 rfl (by decide) rfl ?_
          refine jr_sub [0, 1, 2, 3, 4, 5, 6, 7, 8, 9] rfl ?_
          exact t_Mo_spread_86 C (f_Mo_spread_39 fu) ih 1000000 x1 x2 x3 x4 x9_ x7 x8 v2_ 0 m h
def f_Mo_spread (a1 : Int32) (a2 : Int32) (a3 : Int32) (a4 : Int32) (m : jz_M) : Option (Int32 × jz_M) :=
  (f_Mo_barredAt a1 a2 a3 m).bind fun v1_ =>
  if v1_ ≤ 0 then
    jz_n (jz_up m 0 0 0) fun m3_ =>
    (f_Mo_isShared a2 m3_).bind fun v4_ =>
    f_Mo_spread_39 1000000 a1 a2 a3 a4 0 v4_ 0 m3_
  else
    (f_Mo_raise v1_ m).bind fun v5_ =>
    some (v5_.1, v5_.2)
set_option maxHeartbeats 4000000 in
set_option maxRecDepth 100000 in
theorem c_Mo_spread {Z : cz_Z} (l : Launch) (hI : jz_I (mz_G Z)) {a1 : Int32} {a2 : Int32} {a3 : Int32} {a4 : Int32} {m : jz_M} {r : Int32 × jz_M} (h : f_Mo_spread a1 a2 a3 a4 m = some r) : jz_m l y_Mo_spread cd_Mo_spread rm_Mo_spread (mz_G Z) [.ref (gz_ad (mz_G Z) 0), .int a1, .int a2, .int a3, .int a4] m (some (.int r.1)) r.2 := by
  refine jz_met (own := R_Mo) (by decide) rfl hI (Nat.le_of_ble_eq_true rfl) (fun X hX C => ?_)
  subst hX
  show jz_J X 11 (mz_G Z) _ m [(0, .ref (gz_ad (mz_G Z) 0)), (1, .int a1), (2, .int a2), (3, .int a3), (4, .int a4)] 0 []
  unfold f_Mo_spread at h
  refine jr_aload_n 0 C d_Mo_spread_0 rfl ?_
  refine jr_iload_n 1 C d_Mo_spread_1 rfl ?_
  refine jr_iload_n 2 C d_Mo_spread_2 rfl ?_
  refine jr_iload_n 3 C d_Mo_spread_3 rfl ?_
  obtain ⟨v1_, ev1_, h⟩ := jz_b h
  refine jr_callV 4 [.int a1, .int a2, .int a3] C d_Mo_spread_4 (c_Mo_barredAt (xz_l X) C.2.2.2.2.2.2.1 ev1_) sz_Mo_barredAt tz_Mo_barredAt lk_Mo_167 oz_Mo rfl (by decide) rfl rfl (Nat.le_of_ble_eq_true rfl) rfl ?_
  refine jr_istore 7 [(0, .ref (gz_ad (mz_G Z) 0)), (1, .int a1), (2, .int a2), (3, .int a3), (4, .int a4), (5, .int v1_)] C d_Mo_spread_7 rfl (by decide) rfl ?_
  refine jr_iload 9 C d_Mo_spread_9 rfl ?_
  refine jr_if_le 11 21 C d_Mo_spread_11 (by decide) (fun c2_ => ?_) (fun c2_ => ?_)
  · have h := jz_t c2_ h
    refine jr_aload_n 21 C d_Mo_spread_21 rfl ?_
    refine jr_iconst 22 0 C d_Mo_spread_22 (by decide) ?_
    obtain ⟨m3_, em3_, h⟩ := jz_ne h
    refine pf_Mo_71 23 C d_Mo_spread_23 ?_
    refine jr_mem em3_ ?_
    refine jr_iconst 26 0 C d_Mo_spread_26 (by decide) ?_
    refine jr_istore 27 [(0, .ref (gz_ad (mz_G Z) 0)), (1, .int a1), (2, .int a2), (3, .int a3), (4, .int a4), (5, .int v1_), (6, .int 0)] C d_Mo_spread_27 rfl (by decide) rfl ?_
    refine jr_aload_n 29 C d_Mo_spread_29 rfl ?_
    refine jr_iload_n 30 C d_Mo_spread_30 rfl ?_
    obtain ⟨v4_, ev4_, h⟩ := jz_b h
    refine jr_callV 31 [.int a2] C d_Mo_spread_31 (c_Mo_isShared (xz_l X) C.2.2.2.2.2.2.1  ev4_) sz_Mo_isShared tz_Mo_isShared lk_Mo_111 oz_Mo rfl (by decide) rfl rfl (Nat.le_of_ble_eq_true rfl) rfl ?_
    refine jr_istore 34 [(0, .ref (gz_ad (mz_G Z) 0)), (1, .int a1), (2, .int a2), (3, .int a3), (4, .int a4), (5, .int v1_), (6, .int 0), (7, .int v4_)] C d_Mo_spread_34 rfl (by decide) rfl ?_
    refine jr_iconst 36 0 C d_Mo_spread_36 (by decide) ?_
    refine jr_istore 37 [(0, .ref (gz_ad (mz_G Z) 0)), (1, .int a1), (2, .int a2), (3, .int a3), (4, .int a4), (5, .int v1_), (6, .int 0), (7, .int v4_), (8, .int 0)] C d_Mo_spread_37 rfl (by decide) rfl ?_
    refine jr_sub [0, 1, 2, 3, 4, 6, 7, 8] rfl ?_
    exact t_Mo_spread_39 C  1000000 a1 a2 a3 a4 0 v4_ 0 m3_ h
  · have h := jz_f c2_ h
    refine jr_aload_n 14 C d_Mo_spread_14 rfl ?_
    refine jr_iload 15 C d_Mo_spread_15 rfl ?_
    obtain ⟨v5_, ev5_, h⟩ := jz_b h
    refine jr_callV 17 [.int v1_] C d_Mo_spread_17 (c_Mo_raise (xz_l X) C.2.2.2.2.2.2.1  ev5_) sz_Mo_raise tz_Mo_raise lk_Mo_102 oz_Mo rfl (by decide) rfl rfl (Nat.le_of_ble_eq_true rfl) rfl ?_
    obtain rfl := Option.some.inj h
    exact jr_iret 20 (v := v5_.1) C d_Mo_spread_20 rfl
abbrev rm_Mo_told : Room := { frames := 1, cells := 0, slots := 0, locals := 23 }
abbrev cd_Mo_told : Cond := .code y_Mo_told b_Mo_told 11 none
def f_Mo_told_179 (x6 : Int32) (x7 : Int32) (x8 : Int32) (m : jz_M) : Option (jz_M) :=
  (jz_ix 504 x7).bind fun j1_ =>
  if (m 8 j1_) ≤ 0 then
    some m
  else
    (jz_ix 504 x6).bind fun j3_ =>
    (jz_ix 504 x6).bind fun j4_ =>
    jz_n (jz_up m 16 j4_ ((m 16 j3_) &&& (x8 ^^^ (-1)))) fun m5_ =>
    (jz_ix 504 x6).bind fun j6_ =>
    (jz_ix 504 x6).bind fun j7_ =>
    jz_n (jz_up m5_ 17 j7_ ((m5_ 17 j6_) ||| x8)) fun m8_ =>
    some m8_
set_option maxHeartbeats 4000000 in
set_option maxRecDepth 100000 in
theorem t_Mo_told_179 {Z : cz_Z} {X : jz_X} {r : jz_M} (C : jz_C X 11 b_Mo_told R_Mo none rm_Mo_told (mz_G Z)) : ∀ (x6 : Int32) (x7 : Int32) (x8 : Int32) (m : jz_M) , f_Mo_told_179 x6 x7 x8 m = some r → jz_J X 11 (mz_G Z) (jz_q X (mz_G Z) none r) m [(0, .ref (gz_ad (mz_G Z) 0)), (6, .int x6), (7, .int x7), (8, .int x8)] 179 [] := by
  intro x6 x7 x8 m h
  unfold f_Mo_told_179 at h
  refine jr_aload_n 179 C d_Mo_told_179 rfl ?_
  refine gf_Mo_32 180 C d_Mo_told_180 ?_
  refine jr_iload 183 C d_Mo_told_183 rfl ?_
  obtain ⟨j1_, ej1_, h⟩ := jz_b h
  refine jr_iald 185 C d_Mo_told_185 zk_Mo_sequence ej1_ ?_
  refine jr_if_le 186 225 C d_Mo_told_186 (by decide) (fun c2_ => ?_) (fun c2_ => ?_)
  · have h := jz_t c2_ h
    obtain rfl := Option.some.inj h
    exact jr_vret 225 C d_Mo_told_225 rfl
  · have h := jz_f c2_ h
    refine jr_aload_n 189 C d_Mo_told_189 rfl ?_
    refine gf_Mo_56 190 C d_Mo_told_190 ?_
    refine jr_iload 193 C d_Mo_told_193 rfl ?_
    refine jr_aload_n 195 C d_Mo_told_195 rfl ?_
    refine gf_Mo_56 196 C d_Mo_told_196 ?_
    refine jr_iload 199 C d_Mo_told_199 rfl ?_
    obtain ⟨j3_, ej3_, h⟩ := jz_b h
    refine jr_iald 201 C d_Mo_told_201 zk_Mo_due ej3_ ?_
    refine jr_iload 202 C d_Mo_told_202 rfl ?_
    refine jr_iconst 204 (-1) C d_Mo_told_204 (by decide) ?_
    refine jr_ixor 205 C d_Mo_told_205 ?_
    refine jr_iand 206 C d_Mo_told_206 ?_
    obtain ⟨j4_, ej4_, h⟩ := jz_b h
    obtain ⟨m5_, em5_, h⟩ := jz_ne h
    refine jr_iast 207 C d_Mo_told_207 zk_Mo_due ej4_ ?_
    refine jr_mem em5_ ?_
    refine jr_aload_n 208 C d_Mo_told_208 rfl ?_
    refine gf_Mo_59 209 C d_Mo_told_209 ?_
    refine jr_iload 212 C d_Mo_told_212 rfl ?_
    refine jr_aload_n 214 C d_Mo_told_214 rfl ?_
    refine gf_Mo_59 215 C d_Mo_told_215 ?_
    refine jr_iload 218 C d_Mo_told_218 rfl ?_
    obtain ⟨j6_, ej6_, h⟩ := jz_b h
    refine jr_iald 220 C d_Mo_told_220 zk_Mo_asked ej6_ ?_
    refine jr_iload 221 C d_Mo_told_221 rfl ?_
    refine jr_ior 223 C d_Mo_told_223 ?_
    obtain ⟨j7_, ej7_, h⟩ := jz_b h
    obtain ⟨m8_, em8_, h⟩ := jz_ne h
    refine jr_iast 224 C d_Mo_told_224 zk_Mo_asked ej7_ ?_
    refine jr_mem em8_ ?_
    obtain rfl := Option.some.inj h
    exact jr_vret 225 C d_Mo_told_225 rfl
def f_Mo_told_123 (x6 : Int32) (x7 : Int32) (x8 : Int32) (x9 : Int32) (x10 : Int32) (m : jz_M) : Option (jz_M) :=
  (jz_ix 504 x6).bind fun j1_ =>
  if (m 8 j1_) ≤ 0 then
    f_Mo_told_179 x6 x7 x8 m
  else
    (jz_ix 504 x6).bind fun j3_ =>
    (jz_ix 504 x7).bind fun j4_ =>
    if ¬ (m 8 j3_) = (m 8 j4_) then
      f_Mo_told_179 x6 x7 x8 m
    else
      if ¬ x10 = x9 then
        f_Mo_told_179 x6 x7 x8 m
      else
        (jz_ix 504 x6).bind fun j7_ =>
        (jz_ix 504 x6).bind fun j8_ =>
        jz_n (jz_up m 16 j8_ ((m 16 j7_) &&& (x8 ^^^ (-1)))) fun m9_ =>
        some m9_
set_option maxHeartbeats 4000000 in
set_option maxRecDepth 100000 in
theorem t_Mo_told_123 {Z : cz_Z} {X : jz_X} {r : jz_M} (C : jz_C X 11 b_Mo_told R_Mo none rm_Mo_told (mz_G Z)) : ∀ (x6 : Int32) (x7 : Int32) (x8 : Int32) (x9 : Int32) (x10 : Int32) (m : jz_M) , f_Mo_told_123 x6 x7 x8 x9 x10 m = some r → jz_J X 11 (mz_G Z) (jz_q X (mz_G Z) none r) m [(0, .ref (gz_ad (mz_G Z) 0)), (6, .int x6), (7, .int x7), (8, .int x8), (9, .int x9), (10, .int x10)] 123 [] := by
  intro x6 x7 x8 x9 x10 m h
  unfold f_Mo_told_123 at h
  refine jr_aload_n 123 C d_Mo_told_123 rfl ?_
  refine gf_Mo_32 124 C d_Mo_told_124 ?_
  refine jr_iload 127 C d_Mo_told_127 rfl ?_
  obtain ⟨j1_, ej1_, h⟩ := jz_b h
  refine jr_iald 129 C d_Mo_told_129 zk_Mo_sequence ej1_ ?_
  refine jr_if_le 130 179 C d_Mo_told_130 (by decide) (fun c2_ => ?_) (fun c2_ => ?_)
  · have h := jz_t c2_ h
    refine jr_sub [0, 1, 2, 3] rfl ?_
    exact t_Mo_told_179 C  x6 x7 x8 m h
  · have h := jz_f c2_ h
    refine jr_aload_n 133 C d_Mo_told_133 rfl ?_
    refine gf_Mo_32 134 C d_Mo_told_134 ?_
    refine jr_iload 137 C d_Mo_told_137 rfl ?_
    obtain ⟨j3_, ej3_, h⟩ := jz_b h
    refine jr_iald 139 C d_Mo_told_139 zk_Mo_sequence ej3_ ?_
    refine jr_aload_n 140 C d_Mo_told_140 rfl ?_
    refine gf_Mo_32 141 C d_Mo_told_141 ?_
    refine jr_iload 144 C d_Mo_told_144 rfl ?_
    obtain ⟨j4_, ej4_, h⟩ := jz_b h
    refine jr_iald 146 C d_Mo_told_146 zk_Mo_sequence ej4_ ?_
    refine jr_icmp_ne 147 179 C d_Mo_told_147 (by decide) (fun c5_ => ?_) (fun c5_ => ?_)
    · have h := jz_t c5_ h
      refine jr_sub [0, 1, 2, 3] rfl ?_
      exact t_Mo_told_179 C  x6 x7 x8 m h
    · have h := jz_f c5_ h
      refine jr_iload 150 C d_Mo_told_150 rfl ?_
      refine jr_iload 152 C d_Mo_told_152 rfl ?_
      refine jr_icmp_ne 154 179 C d_Mo_told_154 (by decide) (fun c6_ => ?_) (fun c6_ => ?_)
      · have h := jz_t c6_ h
        refine jr_sub [0, 1, 2, 3] rfl ?_
        exact t_Mo_told_179 C  x6 x7 x8 m h
      · have h := jz_f c6_ h
        refine jr_aload_n 157 C d_Mo_told_157 rfl ?_
        refine gf_Mo_56 158 C d_Mo_told_158 ?_
        refine jr_iload 161 C d_Mo_told_161 rfl ?_
        refine jr_aload_n 163 C d_Mo_told_163 rfl ?_
        refine gf_Mo_56 164 C d_Mo_told_164 ?_
        refine jr_iload 167 C d_Mo_told_167 rfl ?_
        obtain ⟨j7_, ej7_, h⟩ := jz_b h
        refine jr_iald 169 C d_Mo_told_169 zk_Mo_due ej7_ ?_
        refine jr_iload 170 C d_Mo_told_170 rfl ?_
        refine jr_iconst 172 (-1) C d_Mo_told_172 (by decide) ?_
        refine jr_ixor 173 C d_Mo_told_173 ?_
        refine jr_iand 174 C d_Mo_told_174 ?_
        obtain ⟨j8_, ej8_, h⟩ := jz_b h
        obtain ⟨m9_, em9_, h⟩ := jz_ne h
        refine jr_iast 175 C d_Mo_told_175 zk_Mo_due ej8_ ?_
        refine jr_mem em9_ ?_
        refine jr_goto 176 225 C d_Mo_told_176 (by decide) ?_
        obtain rfl := Option.some.inj h
        exact jr_vret 225 C d_Mo_told_225 rfl
def f_Mo_told_67 (x6 : Int32) (x7 : Int32) (x8 : Int32) (x9 : Int32) (s0 : Int32) (m : jz_M) : Option (jz_M) :=
  (jz_ix 504 x6).bind fun j1_ =>
  if (m 8 j1_) ≤ 0 then
    f_Mo_told_123 x6 x7 x8 x9 s0 m
  else
    (jz_ix 504 x6).bind fun j3_ =>
    (jz_ix 504 x7).bind fun j4_ =>
    (f_Mo_newer (m 8 j3_) s0 (m 8 j4_) x9 m).bind fun v5_ =>
    if v5_ = 0 then
      f_Mo_told_123 x6 x7 x8 x9 s0 m
    else
      (jz_ix 504 x6).bind fun j7_ =>
      (jz_ix 504 x6).bind fun j8_ =>
      jz_n (jz_up m 16 j8_ ((m 16 j7_) ||| x8)) fun m9_ =>
      some m9_
set_option maxHeartbeats 4000000 in
set_option maxRecDepth 100000 in
theorem t_Mo_told_67 {Z : cz_Z} {X : jz_X} {r : jz_M} (C : jz_C X 11 b_Mo_told R_Mo none rm_Mo_told (mz_G Z)) : ∀ (x6 : Int32) (x7 : Int32) (x8 : Int32) (x9 : Int32) (s0 : Int32) (m : jz_M) , f_Mo_told_67 x6 x7 x8 x9 s0 m = some r → jz_J X 11 (mz_G Z) (jz_q X (mz_G Z) none r) m [(0, .ref (gz_ad (mz_G Z) 0)), (6, .int x6), (7, .int x7), (8, .int x8), (9, .int x9)] 67 [.int s0] := by
  intro x6 x7 x8 x9 s0 m h
  unfold f_Mo_told_67 at h
  refine jr_istore 67 [(0, .ref (gz_ad (mz_G Z) 0)), (6, .int x6), (7, .int x7), (8, .int x8), (9, .int x9), (10, .int s0)] C d_Mo_told_67 rfl (by decide) rfl ?_
  refine jr_aload_n 69 C d_Mo_told_69 rfl ?_
  refine gf_Mo_32 70 C d_Mo_told_70 ?_
  refine jr_iload 73 C d_Mo_told_73 rfl ?_
  obtain ⟨j1_, ej1_, h⟩ := jz_b h
  refine jr_iald 75 C d_Mo_told_75 zk_Mo_sequence ej1_ ?_
  refine jr_if_le 76 123 C d_Mo_told_76 (by decide) (fun c2_ => ?_) (fun c2_ => ?_)
  · have h := jz_t c2_ h
    refine jr_sub [0, 1, 2, 3, 4, 5] rfl ?_
    exact t_Mo_told_123 C  x6 x7 x8 x9 s0 m h
  · have h := jz_f c2_ h
    refine jr_aload_n 79 C d_Mo_told_79 rfl ?_
    refine gf_Mo_32 80 C d_Mo_told_80 ?_
    refine jr_iload 83 C d_Mo_told_83 rfl ?_
    obtain ⟨j3_, ej3_, h⟩ := jz_b h
    refine jr_iald 85 C d_Mo_told_85 zk_Mo_sequence ej3_ ?_
    refine jr_iload 86 C d_Mo_told_86 rfl ?_
    refine jr_aload_n 88 C d_Mo_told_88 rfl ?_
    refine gf_Mo_32 89 C d_Mo_told_89 ?_
    refine jr_iload 92 C d_Mo_told_92 rfl ?_
    obtain ⟨j4_, ej4_, h⟩ := jz_b h
    refine jr_iald 94 C d_Mo_told_94 zk_Mo_sequence ej4_ ?_
    refine jr_iload 95 C d_Mo_told_95 rfl ?_
    obtain ⟨v5_, ev5_, h⟩ := jz_b h
    refine jr_callS 97 [.int (m 8 j3_), .int s0, .int (m 8 j4_), .int x9] C d_Mo_told_97 (c_Mo_newer (xz_l X) C.2.2.2.2.2.2.1  ev5_) sz_Mo_newer tz_Mo_newer lk_Mo_157 (by decide) rfl rfl (Nat.le_of_ble_eq_true rfl) rfl ?_
    refine jr_if_eq 100 123 C d_Mo_told_100 (by decide) (fun c6_ => ?_) (fun c6_ => ?_)
    · have h := jz_t c6_ h
      refine jr_sub [0, 1, 2, 3, 4, 5] rfl ?_
      exact t_Mo_told_123 C  x6 x7 x8 x9 s0 m h
    · have h := jz_f c6_ h
      refine jr_aload_n 103 C d_Mo_told_103 rfl ?_
      refine gf_Mo_56 104 C d_Mo_told_104 ?_
      refine jr_iload 107 C d_Mo_told_107 rfl ?_
      refine jr_aload_n 109 C d_Mo_told_109 rfl ?_
      refine gf_Mo_56 110 C d_Mo_told_110 ?_
      refine jr_iload 113 C d_Mo_told_113 rfl ?_
      obtain ⟨j7_, ej7_, h⟩ := jz_b h
      refine jr_iald 115 C d_Mo_told_115 zk_Mo_due ej7_ ?_
      refine jr_iload 116 C d_Mo_told_116 rfl ?_
      refine jr_ior 118 C d_Mo_told_118 ?_
      obtain ⟨j8_, ej8_, h⟩ := jz_b h
      obtain ⟨m9_, em9_, h⟩ := jz_ne h
      refine jr_iast 119 C d_Mo_told_119 zk_Mo_due ej8_ ?_
      refine jr_mem em9_ ?_
      refine jr_goto 120 225 C d_Mo_told_120 (by decide) ?_
      obtain rfl := Option.some.inj h
      exact jr_vret 225 C d_Mo_told_225 rfl
def f_Mo_told_50 (x6 : Int32) (x7 : Int32) (x8 : Int32) (s0 : Int32) (m : jz_M) : Option (jz_M) :=
  (jz_ix 504 x6).bind fun j1_ =>
  if ¬ (m 10 j1_) = 0 then
    f_Mo_told_67 x6 x7 x8 s0 0 m
  else
    f_Mo_told_67 x6 x7 x8 s0 1 m
set_option maxHeartbeats 4000000 in
set_option maxRecDepth 100000 in
theorem t_Mo_told_50 {Z : cz_Z} {X : jz_X} {r : jz_M} (C : jz_C X 11 b_Mo_told R_Mo none rm_Mo_told (mz_G Z)) : ∀ (x6 : Int32) (x7 : Int32) (x8 : Int32) (s0 : Int32) (m : jz_M) , f_Mo_told_50 x6 x7 x8 s0 m = some r → jz_J X 11 (mz_G Z) (jz_q X (mz_G Z) none r) m [(0, .ref (gz_ad (mz_G Z) 0)), (6, .int x6), (7, .int x7), (8, .int x8)] 50 [.int s0] := by
  intro x6 x7 x8 s0 m h
  unfold f_Mo_told_50 at h
  refine jr_istore 50 [(0, .ref (gz_ad (mz_G Z) 0)), (6, .int x6), (7, .int x7), (8, .int x8), (9, .int s0)] C d_Mo_told_50 rfl (by decide) rfl ?_
  refine jr_aload_n 52 C d_Mo_told_52 rfl ?_
  refine gf_Mo_38 53 C d_Mo_told_53 ?_
  refine jr_iload 56 C d_Mo_told_56 rfl ?_
  obtain ⟨j1_, ej1_, h⟩ := jz_b h
  refine jr_iald 58 C d_Mo_told_58 zk_Mo_life ej1_ ?_
  refine jr_if_ne 59 66 C d_Mo_told_59 (by decide) (fun c2_ => ?_) (fun c2_ => ?_)
  · have h := jz_t c2_ h
    refine jr_iconst 66 0 C d_Mo_told_66 (by decide) ?_
    refine jr_sub [0, 1, 2, 3, 4] rfl ?_
    exact t_Mo_told_67 C  x6 x7 x8 s0 0 m h
  · have h := jz_f c2_ h
    refine jr_iconst 62 1 C d_Mo_told_62 (by decide) ?_
    refine jr_goto 63 67 C d_Mo_told_63 (by decide) ?_
    refine jr_sub [0, 1, 2, 3, 4] rfl ?_
    exact t_Mo_told_67 C  x6 x7 x8 s0 1 m h
def f_Mo_told_49 (x6 : Int32) (x7 : Int32) (x8 : Int32) (m : jz_M) : Option (jz_M) :=
  f_Mo_told_50 x6 x7 x8 0 m
set_option maxHeartbeats 4000000 in
set_option maxRecDepth 100000 in
theorem t_Mo_told_49 {Z : cz_Z} {X : jz_X} {r : jz_M} (C : jz_C X 11 b_Mo_told R_Mo none rm_Mo_told (mz_G Z)) : ∀ (x6 : Int32) (x7 : Int32) (x8 : Int32) (m : jz_M) , f_Mo_told_49 x6 x7 x8 m = some r → jz_J X 11 (mz_G Z) (jz_q X (mz_G Z) none r) m [(0, .ref (gz_ad (mz_G Z) 0)), (6, .int x6), (7, .int x7), (8, .int x8)] 49 [] := by
  intro x6 x7 x8 m h
  unfold f_Mo_told_49 at h
  refine jr_iconst 49 0 C d_Mo_told_49 (by decide) ?_
  refine jr_sub [0, 1, 2, 3] rfl ?_
  exact t_Mo_told_50 C x6 x7 x8 0 m h
def f_Mo_told (a1 : Int32) (a2 : Int32) (a3 : Int32) (a4 : Int32) (a5 : Int32) (m : jz_M) : Option (jz_M) :=
  (f_Mo_at a1 a4 a5 m).bind fun v1_ =>
  (f_Mo_at a2 a4 a5 m).bind fun v2_ =>
  jz_n ((1 : Int32) <<< (a3 &&& 31)) fun x3_ =>
  (jz_ix 504 v2_).bind fun j4_ =>
  if (m 8 j4_) ≤ 0 then
    f_Mo_told_49 v1_ v2_ x3_ m
  else
    (jz_ix 504 v2_).bind fun j6_ =>
    if ¬ (m 10 j6_) = 0 then
      f_Mo_told_49 v1_ v2_ x3_ m
    else
      f_Mo_told_50 v1_ v2_ x3_ 1 m
set_option maxHeartbeats 4000000 in
set_option maxRecDepth 100000 in
theorem c_Mo_told {Z : cz_Z} (l : Launch) (hI : jz_I (mz_G Z)) {a1 : Int32} {a2 : Int32} {a3 : Int32} {a4 : Int32} {a5 : Int32} {m : jz_M} {r : jz_M} (h : f_Mo_told a1 a2 a3 a4 a5 m = some r) : jz_m l y_Mo_told cd_Mo_told rm_Mo_told (mz_G Z) [.ref (gz_ad (mz_G Z) 0), .int a1, .int a2, .int a3, .int a4, .int a5] m none r := by
  refine jz_met (own := R_Mo) (by decide) rfl hI (Nat.le_of_ble_eq_true rfl) (fun X hX C => ?_)
  subst hX
  show jz_J X 11 (mz_G Z) _ m [(0, .ref (gz_ad (mz_G Z) 0)), (1, .int a1), (2, .int a2), (3, .int a3), (4, .int a4), (5, .int a5)] 0 []
  unfold f_Mo_told at h
  refine jr_iload_n 0 C d_Mo_told_0 rfl ?_
  refine jr_iload 1 C d_Mo_told_1 rfl ?_
  refine jr_iload 3 C d_Mo_told_3 rfl ?_
  obtain ⟨v1_, ev1_, h⟩ := jz_b h
  refine jr_callS 5 [.int a1, .int a4, .int a5] C d_Mo_told_5 (c_Mo_at (xz_l X) C.2.2.2.2.2.2.1 ev1_) sz_Mo_at tz_Mo_at lk_Mo_133 (by decide) rfl rfl (Nat.le_of_ble_eq_true rfl) rfl ?_
  refine jr_istore 8 [(0, .ref (gz_ad (mz_G Z) 0)), (1, .int a1), (2, .int a2), (3, .int a3), (4, .int a4), (5, .int a5), (6, .int v1_)] C d_Mo_told_8 rfl (by decide) rfl ?_
  refine jr_iload_n 10 C d_Mo_told_10 rfl ?_
  refine jr_iload 11 C d_Mo_told_11 rfl ?_
  refine jr_iload 13 C d_Mo_told_13 rfl ?_
  obtain ⟨v2_, ev2_, h⟩ := jz_b h
  refine jr_callS 15 [.int a2, .int a4, .int a5] C d_Mo_told_15 (c_Mo_at (xz_l X) C.2.2.2.2.2.2.1 ev2_) sz_Mo_at tz_Mo_at lk_Mo_133 (by decide) rfl rfl (Nat.le_of_ble_eq_true rfl) rfl ?_
  refine jr_istore 18 [(0, .ref (gz_ad (mz_G Z) 0)), (1, .int a1), (2, .int a2), (3, .int a3), (4, .int a4), (5, .int a5), (6, .int v1_), (7, .int v2_)] C d_Mo_told_18 rfl (by decide) rfl ?_
  refine jr_iconst 20 1 C d_Mo_told_20 (by decide) ?_
  refine jr_iload_n 21 C d_Mo_told_21 rfl ?_
  refine jr_ishl 22 C d_Mo_told_22 ?_
  obtain ⟨x3_, ex3_, h⟩ := jz_ne h
  refine jr_top ex3_ ?_
  refine jr_istore 23 [(0, .ref (gz_ad (mz_G Z) 0)), (1, .int a1), (2, .int a2), (3, .int a3), (4, .int a4), (5, .int a5), (6, .int v1_), (7, .int v2_), (8, .int x3_)] C d_Mo_told_23 rfl (by decide) rfl ?_
  refine jr_aload_n 25 C d_Mo_told_25 rfl ?_
  refine gf_Mo_32 26 C d_Mo_told_26 ?_
  refine jr_iload 29 C d_Mo_told_29 rfl ?_
  obtain ⟨j4_, ej4_, h⟩ := jz_b h
  refine jr_iald 31 C d_Mo_told_31 zk_Mo_sequence ej4_ ?_
  refine jr_if_le 32 49 C d_Mo_told_32 (by decide) (fun c5_ => ?_) (fun c5_ => ?_)
  · have h := jz_t c5_ h
    refine jr_sub [0, 6, 7, 8] rfl ?_
    exact t_Mo_told_49 C  v1_ v2_ x3_ m h
  · have h := jz_f c5_ h
    refine jr_aload_n 35 C d_Mo_told_35 rfl ?_
    refine gf_Mo_38 36 C d_Mo_told_36 ?_
    refine jr_iload 39 C d_Mo_told_39 rfl ?_
    obtain ⟨j6_, ej6_, h⟩ := jz_b h
    refine jr_iald 41 C d_Mo_told_41 zk_Mo_life ej6_ ?_
    refine jr_if_ne 42 49 C d_Mo_told_42 (by decide) (fun c7_ => ?_) (fun c7_ => ?_)
    · have h := jz_t c7_ h
      refine jr_sub [0, 6, 7, 8] rfl ?_
      exact t_Mo_told_49 C  v1_ v2_ x3_ m h
    · have h := jz_f c7_ h
      refine jr_iconst 45 1 C d_Mo_told_45 (by decide) ?_
      refine jr_goto 46 50 C d_Mo_told_46 (by decide) ?_
      refine jr_sub [0, 6, 7, 8] rfl ?_
      exact t_Mo_told_50 C  v1_ v2_ x3_ 1 m h
abbrev rm_Mo_summary : Room := { frames := 3, cells := 0, slots := 0, locals := 68 }
abbrev cd_Mo_summary : Cond := .code y_Mo_summary b_Mo_summary 10 (some .int)
def f_Mo_summary_108 (k73 : Int32 → Int32 → Int32 → Int32 → Int32 → Int32 → jz_M → Option (Int32 × jz_M)) : Nat → Int32 → Int32 → Int32 → Int32 → Int32 → Int32 → Int32 → jz_M → Option (Int32 × jz_M)
  | 0, _, _, _, _, _, _, _, _ => none
  | fu + 1, x1, x2, x3, x4, x6, x7, x8, m =>
    if 42 ≤ x8 then
      jz_n (x7 + 1) fun x2_ =>
      k73 x1 x2 x3 x4 x6 x2_ m
    else
      (f_Mo_at x7 x3 x8 m).bind fun v3_ =>
      (f_Mo_at x1 x3 x8 m).bind fun v4_ =>
      (jz_ix 504 v4_).bind fun j5_ =>
      if (m 8 j5_) ≤ 0 then
        (jz_ix 504 v3_).bind fun j7_ =>
        if (m 8 j7_) ≤ 0 then
          jz_n (x8 + 1) fun x9_ =>
          f_Mo_summary_108 k73 fu x1 x2 x3 x4 x6 x7 x9_ m
        else
          (jz_ix 504 v3_).bind fun j10_ =>
          if (m 10 j10_) ≤ 0 then
            jz_n (x8 + 1) fun x12_ =>
            f_Mo_summary_108 k73 fu x1 x2 x3 x4 x6 x7 x12_ m
          else
            (jz_ix 504 v3_).bind fun j13_ =>
            (jz_ix 504 v3_).bind fun j14_ =>
            jz_n (jz_up m 16 j14_ ((m 16 j13_) ||| ((1 : Int32) <<< (x2 &&& 31)))) fun m15_ =>
            jz_n (x8 + 1) fun x16_ =>
            f_Mo_summary_108 k73 fu x1 x2 x3 x4 x6 x7 x16_ m15_
      else
        (f_Mo_told x7 x1 x2 x3 x8 m).bind fun v17_ =>
        jz_n (x8 + 1) fun x18_ =>
        f_Mo_summary_108 k73 fu x1 x2 x3 x4 x6 x7 x18_ v17_
set_option maxHeartbeats 4000000 in
set_option maxRecDepth 100000 in
theorem t_Mo_summary_108 {Z : cz_Z} {X : jz_X} {r : Int32 × jz_M} (C : jz_C X 10 b_Mo_summary R_Mo (some .int) rm_Mo_summary (mz_G Z)) (k73 : Int32 → Int32 → Int32 → Int32 → Int32 → Int32 → jz_M → Option (Int32 × jz_M)) (hk73 : ∀ (x1 : Int32) (x2 : Int32) (x3 : Int32) (x4 : Int32) (x6 : Int32) (x7 : Int32) (m : jz_M), k73 x1 x2 x3 x4 x6 x7 m = some r → jz_J X 10 (mz_G Z) (jz_q X (mz_G Z) (some (.int r.1)) r.2) m [(0, .ref (gz_ad (mz_G Z) 0)), (1, .int x1), (2, .int x2), (3, .int x3), (4, .int x4), (6, .int x6), (7, .int x7)] 73 []) : ∀ (fu : Nat) (x1 : Int32) (x2 : Int32) (x3 : Int32) (x4 : Int32) (x6 : Int32) (x7 : Int32) (x8 : Int32) (m : jz_M) , f_Mo_summary_108 k73 fu x1 x2 x3 x4 x6 x7 x8 m = some r → jz_J X 10 (mz_G Z) (jz_q X (mz_G Z) (some (.int r.1)) r.2) m [(0, .ref (gz_ad (mz_G Z) 0)), (1, .int x1), (2, .int x2), (3, .int x3), (4, .int x4), (6, .int x6), (7, .int x7), (8, .int x8)] 108 [] := by
  intro fu
  induction fu with
  | zero => intro x1 x2 x3 x4 x6 x7 x8 m h; cases h
  | succ fu ih =>
    intro x1 x2 x3 x4 x6 x7 x8 m h
    rw [f_Mo_summary_108] at h
    refine jr_iload 108 C d_Mo_summary_108 rfl ?_
    refine jr_bipush 110 42 C d_Mo_summary_110 (by decide) ?_
    refine jr_icmp_ge 112 198 C d_Mo_summary_112 (by decide) (fun c1_ => ?_) (fun c1_ => ?_)
    · have h := jz_t c1_ h
      obtain ⟨x2_, ex2_, h⟩ := jz_ne h
      refine jr_iinc 198 [(0, .ref (gz_ad (mz_G Z) 0)), (1, .int x1), (2, .int x2), (3, .int x3), (4, .int x4), (6, .int x6), (7, .int x2_), (8, .int x8)] C d_Mo_summary_198 rfl (by decide) rfl (by rw [ex2_]; rfl) rfl ?_
      refine jr_goto 201 73 C d_Mo_summary_201 (by decide) ?_
      refine jr_sub [0, 1, 2, 3, 4, 5, 6] rfl ?_
      exact hk73 x1 x2 x3 x4 x6 x2_ m  h
    · have h := jz_f c1_ h
      refine jr_iload 115 C d_Mo_summary_115 rfl ?_
      refine jr_iload_n 117 C d_Mo_summary_117 rfl ?_
      refine jr_iload 118 C d_Mo_summary_118 rfl ?_
      obtain ⟨v3_, ev3_, h⟩ := jz_b h
      refine jr_callS 120 [.int x7, .int x3, .int x8] C d_Mo_summary_120 (c_Mo_at (xz_l X) C.2.2.2.2.2.2.1  ev3_) sz_Mo_at tz_Mo_at lk_Mo_133 (by decide) rfl rfl (Nat.le_of_ble_eq_true rfl) rfl ?_
      refine jr_istore 123 [(0, .ref (gz_ad (mz_G Z) 0)), (1, .int x1), (2, .int x2), (3, .int x3), (4, .int x4), (6, .int x6), (7, .int x7), (8, .int x8), (9, .int v3_)] C d_Mo_summary_123 rfl (by decide) rfl ?_
      refine jr_aload_n 125 C d_Mo_summary_125 rfl ?_
      refine gf_Mo_32 126 C d_Mo_summary_126 ?_
      refine jr_iload_n 129 C d_Mo_summary_129 rfl ?_
      refine jr_iload_n 130 C d_Mo_summary_130 rfl ?_
      refine jr_iload 131 C d_Mo_summary_131 rfl ?_
      obtain ⟨v4_, ev4_, h⟩ := jz_b h
      refine jr_callS 133 [.int x1, .int x3, .int x8] C d_Mo_summary_133 (c_Mo_at (xz_l X) C.2.2.2.2.2.2.1  ev4_) sz_Mo_at tz_Mo_at lk_Mo_133 (by decide) rfl rfl (Nat.le_of_ble_eq_true rfl) rfl ?_
      obtain ⟨j5_, ej5_, h⟩ := jz_b h
      refine jr_iald 136 C d_Mo_summary_136 zk_Mo_sequence ej5_ ?_
      refine jr_if_le 137 154 C d_Mo_summary_137 (by decide) (fun c6_ => ?_) (fun c6_ => ?_)
      · have h := jz_t c6_ h
        refine jr_aload_n 154 C d_Mo_summary_154 rfl ?_
        refine gf_Mo_32 155 C d_Mo_summary_155 ?_
        refine jr_iload 158 C d_Mo_summary_158 rfl ?_
        obtain ⟨j7_, ej7_, h⟩ := jz_b h
        refine jr_iald 160 C d_Mo_summary_160 zk_Mo_sequence ej7_ ?_
        refine jr_if_le 161 192 C d_Mo_summary_161 (by decide) (fun c8_ => ?_) (fun c8_ => ?_)
        · have h := jz_t c8_ h
          obtain ⟨x9_, ex9_, h⟩ := jz_ne h
          refine jr_iinc 192 [(0, .ref (gz_ad (mz_G Z) 0)), (1, .int x1), (2, .int x2), (3, .int x3), (4, .int x4), (6, .int x6), (7, .int x7), (8, .int x9_), (9, .int v3_)] C d_Mo_summary_192 rfl (by decide) rfl (by rw [ex9_]; rfl) rfl ?_
          refine jr_goto 195 108 C d_Mo_summary_195 (by decide) ?_
          refine jr_sub [0, 1, 2, 3, 4, 5, 6, 7] rfl ?_
          exact ih x1 x2 x3 x4 x6 x7 x9_ m  h
        · have h := jz_f c8_ h
          refine jr_aload_n 164 C d_Mo_summary_164 rfl ?_
          refine gf_Mo_38 165 C d_Mo_summary_165 ?_
          refine jr_iload 168 C d_Mo_summary_168 rfl ?_
          obtain ⟨j10_, ej10_, h⟩ := jz_b h
          refine jr_iald 170 C d_Mo_summary_170 zk_Mo_life ej10_ ?_
          refine jr_if_le 171 192 C d_Mo_summary_171 (by decide) (fun c11_ => ?_) (fun c11_ => ?_)
          · have h := jz_t c11_ h
            obtain ⟨x12_, ex12_, h⟩ := jz_ne h
            refine jr_iinc 192 [(0, .ref (gz_ad (mz_G Z) 0)), (1, .int x1), (2, .int x2), (3, .int x3), (4, .int x4), (6, .int x6), (7, .int x7), (8, .int x12_), (9, .int v3_)] C d_Mo_summary_192 rfl (by decide) rfl (by rw [ex12_]; rfl) rfl ?_
            refine jr_goto 195 108 C d_Mo_summary_195 (by decide) ?_
            refine jr_sub [0, 1, 2, 3, 4, 5, 6, 7] rfl ?_
            exact ih x1 x2 x3 x4 x6 x7 x12_ m  h
          · have h := jz_f c11_ h
            refine jr_aload_n 174 C d_Mo_summary_174 rfl ?_
            refine gf_Mo_56 175 C d_Mo_summary_175 ?_
            refine jr_iload 178 C d_Mo_summary_178 rfl ?_
            refine jr_aload_n 180 C d_Mo_summary_180 rfl ?_
            refine gf_Mo_56 181 C d_Mo_summary_181 ?_
            refine jr_iload 184 C d_Mo_summary_184 rfl ?_
            obtain ⟨j13_, ej13_, h⟩ := jz_b h
            refine jr_iald 186 C d_Mo_summary_186 zk_Mo_due ej13_ ?_
            refine jr_iconst 187 1 C d_Mo_summary_187 (by decide) ?_
            refine jr_iload_n 188 C d_Mo_summary_188 rfl ?_
            refine jr_ishl 189 C d_Mo_summary_189 ?_
            refine jr_ior 190 C d_Mo_summary_190 ?_
            obtain ⟨j14_, ej14_, h⟩ := jz_b h
            obtain ⟨m15_, em15_, h⟩ := jz_ne h
            refine jr_iast 191 C d_Mo_summary_191 zk_Mo_due ej14_ ?_
            refine jr_mem em15_ ?_
            obtain ⟨x16_, ex16_, h⟩ := jz_ne h
            refine jr_iinc 192 [(0, .ref (gz_ad (mz_G Z) 0)), (1, .int x1), (2, .int x2), (3, .int x3), (4, .int x4), (6, .int x6), (7, .int x7), (8, .int x16_), (9, .int v3_)] C d_Mo_summary_192 rfl (by decide) rfl (by rw [ex16_]; rfl) rfl ?_
            refine jr_goto 195 108 C d_Mo_summary_195 (by decide) ?_
            refine jr_sub [0, 1, 2, 3, 4, 5, 6, 7] rfl ?_
            exact ih x1 x2 x3 x4 x6 x7 x16_ m15_  h
      · have h := jz_f c6_ h
        refine jr_aload_n 140 C d_Mo_summary_140 rfl ?_
        refine jr_iload 141 C d_Mo_summary_141 rfl ?_
        refine jr_iload_n 143 C d_Mo_summary_143 rfl ?_
        refine jr_iload_n 144 C d_Mo_summary_144 rfl ?_
        refine jr_iload_n 145 C d_Mo_summary_145 rfl ?_
        refine jr_iload 146 C d_Mo_summary_146 rfl ?_
        obtain ⟨v17_, ev17_, h⟩ := jz_b h
        refine jr_callV 148 [.int x7, .int x1, .int x2, .int x3, .int x8] C d_Mo_summary_148 (c_Mo_told (xz_l X) C.2.2.2.2.2.2.1  ev17_) sz_Mo_told tz_Mo_told lk_Mo_174 oz_Mo rfl (by decide) rfl rfl (Nat.le_of_ble_eq_true rfl) rfl ?_
        refine jr_goto 151 192 C d_Mo_summary_151 (by decide) ?_
        obtain ⟨x18_, ex18_, h⟩ := jz_ne h
        refine jr_iinc 192 [(0, .ref (gz_ad (mz_G Z) 0)), (1, .int x1), (2, .int x2), (3, .int x3), (4, .int x4), (6, .int x6), (7, .int x7), (8, .int x18_), (9, .int v3_)] C d_Mo_summary_192 rfl (by decide) rfl (by rw [ex18_]; rfl) rfl ?_
        refine jr_goto 195 108 C d_Mo_summary_195 (by decide) ?_
        refine jr_sub [0, 1, 2, 3, 4, 5, 6, 7] rfl ?_
        exact ih x1 x2 x3 x4 x6 x7 x18_ v17_  h
def f_Mo_summary_73 : Nat → Int32 → Int32 → Int32 → Int32 → Int32 → Int32 → jz_M → Option (Int32 × jz_M)
  | 0, _, _, _, _, _, _, _ => none
  | fu + 1, x1, x2, x3, x4, x6, x7, m =>
    if 6 ≤ x7 then
      some (x6, m)
    else
      (f_Mo_receives x7 x1 x2 x4 m).bind fun v2_ =>
      if v2_ = 0 then
        jz_n (x7 + 1) fun x4_ =>
        f_Mo_summary_73 fu x1 x2 x3 x4 x6 x4_ m
      else
        (f_Mo_near x7 x2 x3 x1 m).bind fun v5_ =>
        if v5_ = 0 then
          jz_n (x7 + 1) fun x7_ =>
          f_Mo_summary_73 fu x1 x2 x3 x4 x6 x7_ m
        else
          f_Mo_summary_108 (f_Mo_summary_73 fu) 1000000 x1 x2 x3 x4 x6 x7 0 m
set_option maxHeartbeats 4000000 in
set_option maxRecDepth 100000 in
theorem t_Mo_summary_73 {Z : cz_Z} {X : jz_X} {r : Int32 × jz_M} (C : jz_C X 10 b_Mo_summary R_Mo (some .int) rm_Mo_summary (mz_G Z)) : ∀ (fu : Nat) (x1 : Int32) (x2 : Int32) (x3 : Int32) (x4 : Int32) (x6 : Int32) (x7 : Int32) (m : jz_M) , f_Mo_summary_73 fu x1 x2 x3 x4 x6 x7 m = some r → jz_J X 10 (mz_G Z) (jz_q X (mz_G Z) (some (.int r.1)) r.2) m [(0, .ref (gz_ad (mz_G Z) 0)), (1, .int x1), (2, .int x2), (3, .int x3), (4, .int x4), (6, .int x6), (7, .int x7)] 73 [] := by
  intro fu
  induction fu with
  | zero => intro x1 x2 x3 x4 x6 x7 m h; cases h
  | succ fu ih =>
    intro x1 x2 x3 x4 x6 x7 m h
    rw [f_Mo_summary_73] at h
    refine jr_iload 73 C d_Mo_summary_73 rfl ?_
    refine jr_bipush 75 6 C d_Mo_summary_75 (by decide) ?_
    refine jr_icmp_ge 77 204 C d_Mo_summary_77 (by decide) (fun c1_ => ?_) (fun c1_ => ?_)
    · have h := jz_t c1_ h
      refine jr_iload 204 C d_Mo_summary_204 rfl ?_
      obtain rfl := Option.some.inj h
      exact jr_iret 206 (v := x6) C d_Mo_summary_206 rfl
    · have h := jz_f c1_ h
      refine jr_aload_n 80 C d_Mo_summary_80 rfl ?_
      refine jr_iload 81 C d_Mo_summary_81 rfl ?_
      refine jr_iload_n 83 C d_Mo_summary_83 rfl ?_
      refine jr_iload_n 84 C d_Mo_summary_84 rfl ?_
      refine jr_iload 85 C d_Mo_summary_85 rfl ?_
      obtain ⟨v2_, ev2_, h⟩ := jz_b h
      refine jr_callV 87 [.int x7, .int x1, .int x2, .int x4] C d_Mo_summary_87 (c_Mo_receives (xz_l X) C.2.2.2.2.2.2.1  ev2_) sz_Mo_receives tz_Mo_receives lk_Mo_105 oz_Mo rfl (by decide) rfl rfl (Nat.le_of_ble_eq_true rfl) rfl ?_
      refine jr_if_eq 90 198 C d_Mo_summary_90 (by decide) (fun c3_ => ?_) (fun c3_ => ?_)
      · have h := jz_t c3_ h
        obtain ⟨x4_, ex4_, h⟩ := jz_ne h
        refine jr_iinc 198 [(0, .ref (gz_ad (mz_G Z) 0)), (1, .int x1), (2, .int x2), (3, .int x3), (4, .int x4), (6, .int x6), (7, .int x4_)] C d_Mo_summary_198 rfl (by decide) rfl (by rw [ex4_]; rfl) rfl ?_
        refine jr_goto 201 73 C d_Mo_summary_201 (by decide) ?_
        refine jr_sub [0, 1, 2, 3, 4, 5, 6] rfl ?_
        exact ih x1 x2 x3 x4 x6 x4_ m  h
      · have h := jz_f c3_ h
        refine jr_aload_n 93 C d_Mo_summary_93 rfl ?_
        refine jr_iload 94 C d_Mo_summary_94 rfl ?_
        refine jr_iload_n 96 C d_Mo_summary_96 rfl ?_
        refine jr_iload_n 97 C d_Mo_summary_97 rfl ?_
        refine jr_iload_n 98 C d_Mo_summary_98 rfl ?_
        obtain ⟨v5_, ev5_, h⟩ := jz_b h
        refine jr_callV 99 [.int x7, .int x2, .int x3, .int x1] C d_Mo_summary_99 (c_Mo_near (xz_l X) C.2.2.2.2.2.2.1  ev5_) sz_Mo_near tz_Mo_near lk_Mo_87 oz_Mo rfl (by decide) rfl rfl (Nat.le_of_ble_eq_true rfl) rfl ?_
        refine jr_if_eq 102 198 C d_Mo_summary_102 (by decide) (fun c6_ => ?_) (fun c6_ => ?_)
        · have h := jz_t c6_ h
          obtain ⟨x7_, ex7_, h⟩ := jz_ne h
          refine jr_iinc 198 [(0, .ref (gz_ad (mz_G Z) 0)), (1, .int x1), (2, .int x2), (3, .int x3), (4, .int x4), (6, .int x6), (7, .int x7_)] C d_Mo_summary_198 rfl (by decide) rfl (by rw [ex7_]; rfl) rfl ?_
          refine jr_goto 201 73 C d_Mo_summary_201 (by decide) ?_
          refine jr_sub [0, 1, 2, 3, 4, 5, 6] rfl ?_
          exact ih x1 x2 x3 x4 x6 x7_ m  h
        · have h := jz_f c6_ h
          refine jr_iconst 105 0 C d_Mo_summary_105 (by decide) ?_
          refine jr_istore 106 [(0, .ref (gz_ad (mz_G Z) 0)), (1, .int x1), (2, .int x2), (3, .int x3), (4, .int x4), (6, .int x6), (7, .int x7), (8, .int 0)] C d_Mo_summary_106 rfl (by decide) rfl ?_
          refine jr_sub [0, 1, 2, 3, 4, 5, 6, 7] rfl ?_
          exact t_Mo_summary_108 C (f_Mo_summary_73 fu) ih 1000000 x1 x2 x3 x4 x6 x7 0 m h
def f_Mo_summary_32 : Nat → Int32 → Int32 → Int32 → Int32 → Int32 → Int32 → jz_M → Option (Int32 × jz_M)
  | 0, _, _, _, _, _, _, _ => none
  | fu + 1, x1, x2, x3, x4, x6, x7, m =>
    if 42 ≤ x7 then
      f_Mo_summary_73 1000000 x1 x2 x3 x4 x6 0 m
    else
      (f_Mo_at x1 x3 x7 m).bind fun v2_ =>
      (jz_ix 504 v2_).bind fun j3_ =>
      if (m 8 j3_) ≤ 0 then
        jz_n (x6 + 0) fun x5_ =>
        jz_n (x7 + 1) fun x6_ =>
        f_Mo_summary_32 fu x1 x2 x3 x4 x5_ x6_ m
      else
        jz_n (x6 + 1) fun x7_ =>
        jz_n (x7 + 1) fun x8_ =>
        f_Mo_summary_32 fu x1 x2 x3 x4 x7_ x8_ m
set_option maxHeartbeats 4000000 in
set_option maxRecDepth 100000 in
theorem t_Mo_summary_32 {Z : cz_Z} {X : jz_X} {r : Int32 × jz_M} (C : jz_C X 10 b_Mo_summary R_Mo (some .int) rm_Mo_summary (mz_G Z)) : ∀ (fu : Nat) (x1 : Int32) (x2 : Int32) (x3 : Int32) (x4 : Int32) (x6 : Int32) (x7 : Int32) (m : jz_M) , f_Mo_summary_32 fu x1 x2 x3 x4 x6 x7 m = some r → jz_J X 10 (mz_G Z) (jz_q X (mz_G Z) (some (.int r.1)) r.2) m [(0, .ref (gz_ad (mz_G Z) 0)), (1, .int x1), (2, .int x2), (3, .int x3), (4, .int x4), (6, .int x6), (7, .int x7)] 32 [] := by
  intro fu
  induction fu with
  | zero => intro x1 x2 x3 x4 x6 x7 m h; cases h
  | succ fu ih =>
    intro x1 x2 x3 x4 x6 x7 m h
    rw [f_Mo_summary_32] at h
    refine jr_iload 32 C d_Mo_summary_32 rfl ?_
    refine jr_bipush 34 42 C d_Mo_summary_34 (by decide) ?_
    refine jr_icmp_ge 36 70 C d_Mo_summary_36 (by decide) (fun c1_ => ?_) (fun c1_ => ?_)
    · have h := jz_t c1_ h
      refine jr_iconst 70 0 C d_Mo_summary_70 (by decide) ?_
      refine jr_istore 71 [(0, .ref (gz_ad (mz_G Z) 0)), (1, .int x1), (2, .int x2), (3, .int x3), (4, .int x4), (6, .int x6), (7, .int 0)] C d_Mo_summary_71 rfl (by decide) rfl ?_
      refine jr_sub [0, 1, 2, 3, 4, 5, 6] rfl ?_
      exact t_Mo_summary_73 C  1000000 x1 x2 x3 x4 x6 0 m h
    · have h := jz_f c1_ h
      refine jr_iload 39 C d_Mo_summary_39 rfl ?_
      refine jr_aload_n 41 C d_Mo_summary_41 rfl ?_
      refine gf_Mo_32 42 C d_Mo_summary_42 ?_
      refine jr_iload_n 45 C d_Mo_summary_45 rfl ?_
      refine jr_iload_n 46 C d_Mo_summary_46 rfl ?_
      refine jr_iload 47 C d_Mo_summary_47 rfl ?_
      obtain ⟨v2_, ev2_, h⟩ := jz_b h
      refine jr_callS 49 [.int x1, .int x3, .int x7] C d_Mo_summary_49 (c_Mo_at (xz_l X) C.2.2.2.2.2.2.1  ev2_) sz_Mo_at tz_Mo_at lk_Mo_133 (by decide) rfl rfl (Nat.le_of_ble_eq_true rfl) rfl ?_
      obtain ⟨j3_, ej3_, h⟩ := jz_b h
      refine jr_iald 52 C d_Mo_summary_52 zk_Mo_sequence ej3_ ?_
      refine jr_if_le 53 60 C d_Mo_summary_53 (by decide) (fun c4_ => ?_) (fun c4_ => ?_)
      · have h := jz_t c4_ h
        refine jr_iconst 60 0 C d_Mo_summary_60 (by decide) ?_
        refine jr_iadd 61 C d_Mo_summary_61 ?_
        obtain ⟨x5_, ex5_, h⟩ := jz_ne h
        refine jr_top ex5_ ?_
        refine jr_istore 62 [(0, .ref (gz_ad (mz_G Z) 0)), (1, .int x1), (2, .int x2), (3, .int x3), (4, .int x4), (6, .int x5_), (7, .int x7)] C d_Mo_summary_62 rfl (by decide) rfl ?_
        obtain ⟨x6_, ex6_, h⟩ := jz_ne h
        refine jr_iinc 64 [(0, .ref (gz_ad (mz_G Z) 0)), (1, .int x1), (2, .int x2), (3, .int x3), (4, .int x4), (6, .int x5_), (7, .int x6_)] C d_Mo_summary_64 rfl (by decide) rfl (by rw [ex6_]; rfl) rfl ?_
        refine jr_goto 67 32 C d_Mo_summary_67 (by decide) ?_
        refine jr_sub [0, 1, 2, 3, 4, 5, 6] rfl ?_
        exact ih x1 x2 x3 x4 x5_ x6_ m  h
      · have h := jz_f c4_ h
        refine jr_iconst 56 1 C d_Mo_summary_56 (by decide) ?_
        refine jr_goto 57 61 C d_Mo_summary_57 (by decide) ?_
        refine jr_iadd 61 C d_Mo_summary_61 ?_
        obtain ⟨x7_, ex7_, h⟩ := jz_ne h
        refine jr_top ex7_ ?_
        refine jr_istore 62 [(0, .ref (gz_ad (mz_G Z) 0)), (1, .int x1), (2, .int x2), (3, .int x3), (4, .int x4), (6, .int x7_), (7, .int x7)] C d_Mo_summary_62 rfl (by decide) rfl ?_
        obtain ⟨x8_, ex8_, h⟩ := jz_ne h
        refine jr_iinc 64 [(0, .ref (gz_ad (mz_G Z) 0)), (1, .int x1), (2, .int x2), (3, .int x3), (4, .int x4), (6, .int x7_), (7, .int x8_)] C d_Mo_summary_64 rfl (by decide) rfl (by rw [ex8_]; rfl) rfl ?_
        refine jr_goto 67 32 C d_Mo_summary_67 (by decide) ?_
        refine jr_sub [0, 1, 2, 3, 4, 5, 6] rfl ?_
        exact ih x1 x2 x3 x4 x7_ x8_ m  h
def f_Mo_summary (a1 : Int32) (a2 : Int32) (a3 : Int32) (a4 : Int32) (m : jz_M) : Option (Int32 × jz_M) :=
  (f_Mo_barredAt a1 a2 a3 m).bind fun v1_ =>
  if v1_ ≤ 0 then
    jz_n (jz_up m 0 0 0) fun m3_ =>
    f_Mo_summary_32 1000000 a1 a2 a3 a4 0 0 m3_
  else
    (f_Mo_raise v1_ m).bind fun v4_ =>
    some (v4_.1, v4_.2)
set_option maxHeartbeats 4000000 in
set_option maxRecDepth 100000 in
theorem c_Mo_summary {Z : cz_Z} (l : Launch) (hI : jz_I (mz_G Z)) {a1 : Int32} {a2 : Int32} {a3 : Int32} {a4 : Int32} {m : jz_M} {r : Int32 × jz_M} (h : f_Mo_summary a1 a2 a3 a4 m = some r) : jz_m l y_Mo_summary cd_Mo_summary rm_Mo_summary (mz_G Z) [.ref (gz_ad (mz_G Z) 0), .int a1, .int a2, .int a3, .int a4] m (some (.int r.1)) r.2 := by
  refine jz_met (own := R_Mo) (by decide) rfl hI (Nat.le_of_ble_eq_true rfl) (fun X hX C => ?_)
  subst hX
  show jz_J X 10 (mz_G Z) _ m [(0, .ref (gz_ad (mz_G Z) 0)), (1, .int a1), (2, .int a2), (3, .int a3), (4, .int a4)] 0 []
  unfold f_Mo_summary at h
  refine jr_aload_n 0 C d_Mo_summary_0 rfl ?_
  refine jr_iload_n 1 C d_Mo_summary_1 rfl ?_
  refine jr_iload_n 2 C d_Mo_summary_2 rfl ?_
  refine jr_iload_n 3 C d_Mo_summary_3 rfl ?_
  obtain ⟨v1_, ev1_, h⟩ := jz_b h
  refine jr_callV 4 [.int a1, .int a2, .int a3] C d_Mo_summary_4 (c_Mo_barredAt (xz_l X) C.2.2.2.2.2.2.1 ev1_) sz_Mo_barredAt tz_Mo_barredAt lk_Mo_167 oz_Mo rfl (by decide) rfl rfl (Nat.le_of_ble_eq_true rfl) rfl ?_
  refine jr_istore 7 [(0, .ref (gz_ad (mz_G Z) 0)), (1, .int a1), (2, .int a2), (3, .int a3), (4, .int a4), (5, .int v1_)] C d_Mo_summary_7 rfl (by decide) rfl ?_
  refine jr_iload 9 C d_Mo_summary_9 rfl ?_
  refine jr_if_le 11 21 C d_Mo_summary_11 (by decide) (fun c2_ => ?_) (fun c2_ => ?_)
  · have h := jz_t c2_ h
    refine jr_aload_n 21 C d_Mo_summary_21 rfl ?_
    refine jr_iconst 22 0 C d_Mo_summary_22 (by decide) ?_
    obtain ⟨m3_, em3_, h⟩ := jz_ne h
    refine pf_Mo_71 23 C d_Mo_summary_23 ?_
    refine jr_mem em3_ ?_
    refine jr_iconst 26 0 C d_Mo_summary_26 (by decide) ?_
    refine jr_istore 27 [(0, .ref (gz_ad (mz_G Z) 0)), (1, .int a1), (2, .int a2), (3, .int a3), (4, .int a4), (5, .int v1_), (6, .int 0)] C d_Mo_summary_27 rfl (by decide) rfl ?_
    refine jr_iconst 29 0 C d_Mo_summary_29 (by decide) ?_
    refine jr_istore 30 [(0, .ref (gz_ad (mz_G Z) 0)), (1, .int a1), (2, .int a2), (3, .int a3), (4, .int a4), (5, .int v1_), (6, .int 0), (7, .int 0)] C d_Mo_summary_30 rfl (by decide) rfl ?_
    refine jr_sub [0, 1, 2, 3, 4, 6, 7] rfl ?_
    exact t_Mo_summary_32 C  1000000 a1 a2 a3 a4 0 0 m3_ h
  · have h := jz_f c2_ h
    refine jr_aload_n 14 C d_Mo_summary_14 rfl ?_
    refine jr_iload 15 C d_Mo_summary_15 rfl ?_
    obtain ⟨v4_, ev4_, h⟩ := jz_b h
    refine jr_callV 17 [.int v1_] C d_Mo_summary_17 (c_Mo_raise (xz_l X) C.2.2.2.2.2.2.1  ev4_) sz_Mo_raise tz_Mo_raise lk_Mo_102 oz_Mo rfl (by decide) rfl rfl (Nat.le_of_ble_eq_true rfl) rfl ?_
    obtain rfl := Option.some.inj h
    exact jr_iret 20 (v := v4_.1) C d_Mo_summary_20 rfl
