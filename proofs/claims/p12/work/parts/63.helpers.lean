/-! the law's five helpers -/
abbrev b_Lw_hello : ByteArray := method_3_code
abbrev y_Lw_hello : MethodName := ⟨"AreaRoutersLaw", "hello", "(LAreaRouters;III[J)I"⟩
abbrev cd_Lw_hello : Cond := .codeWith y_Lw_hello b_Lw_hello 6 (some .int) [(0, 12, 15, 13), (0, 12, 19, 15)]
abbrev rm_Lw_hello : Room := { frames := 8, cells := 1, slots := 6, locals := 147 }
theorem d_Lw_hello_0 : decode b_Lw_hello 0 = .ok (.aload 4, 2) := by decide +kernel
theorem d_Lw_hello_2 : decode b_Lw_hello 2 = .ok (.iconst 0, 1) := by decide +kernel
theorem d_Lw_hello_3 : decode b_Lw_hello 3 = .ok (.aload_n 0, 1) := by decide +kernel
theorem d_Lw_hello_4 : decode b_Lw_hello 4 = .ok (.iload_n 1, 1) := by decide +kernel
theorem d_Lw_hello_5 : decode b_Lw_hello 5 = .ok (.iload_n 2, 1) := by decide +kernel
theorem d_Lw_hello_6 : decode b_Lw_hello 6 = .ok (.iload_n 3, 1) := by decide +kernel
theorem d_Lw_hello_7 : decode b_Lw_hello 7 = .ok (.invokevirtual 7, 3) := by decide +kernel
theorem d_Lw_hello_10 : decode b_Lw_hello 10 = .ok (.i2l, 1) := by decide +kernel
theorem d_Lw_hello_11 : decode b_Lw_hello 11 = .ok (.lastore, 1) := by decide +kernel
theorem d_Lw_hello_12 : decode b_Lw_hello 12 = .ok (.goto 11, 3) := by decide +kernel
theorem d_Lw_hello_15 : decode b_Lw_hello 15 = .ok (.astore 5, 2) := by decide +kernel
theorem d_Lw_hello_17 : decode b_Lw_hello 17 = .ok (.iconst 1, 1) := by decide +kernel
theorem d_Lw_hello_18 : decode b_Lw_hello 18 = .ok (.ireturn, 1) := by decide +kernel
theorem d_Lw_hello_19 : decode b_Lw_hello 19 = .ok (.astore 5, 2) := by decide +kernel
theorem d_Lw_hello_21 : decode b_Lw_hello 21 = .ok (.iconst 2, 1) := by decide +kernel
theorem d_Lw_hello_22 : decode b_Lw_hello 22 = .ok (.ireturn, 1) := by decide +kernel
theorem d_Lw_hello_23 : decode b_Lw_hello 23 = .ok (.iconst 0, 1) := by decide +kernel
theorem d_Lw_hello_24 : decode b_Lw_hello 24 = .ok (.ireturn, 1) := by decide +kernel
theorem lk_Lw_hello : Cond.methodLink R_Lw 7 y_AR_hello ∈ lw_tbl := lt_2 (i := 100) (by set_option maxRecDepth 100000 in exact rfl)
set_option maxHeartbeats 4000000 in
set_option maxRecDepth 100000 in
theorem lh0_hello {Z : cz_Z} (l : Launch) (hI : jz_I (lz_G Z)) {a1 : Int32} {a2 : Int32} {a3 : Int32} {mc : jz_M} (mm : jz_M) (v : Int32) {r : Int32 × jz_M} (h : f_AR_hello a1 a2 a3 mc = some r) : lh_m l y_Lw_hello cd_Lw_hello rm_Lw_hello (lz_G Z) [.ref (gz_ad (lz_G Z) 0), .int a1, .int a2, .int a3, .ref (gz_ad (lz_G Z) 173)] (lm_ mc mm v) 0 (lm_ r.2 mm r.1) := by
  refine lh_met (own := R_Lw) (hh := [(0, 12, 15, 13), (0, 12, 19, 15)]) (by decide) rfl hI (Nat.le_of_ble_eq_true rfl) (fun X hX C hx hn htab ls hl => ?_)
  subst hX
  have hJ : jz_J X 6 (lz_G Z) (lh_q X (lz_G Z) 0 (lm_ r.2 mm r.1)) (lm_ mc mm v) [(0, .ref (gz_ad (lz_G Z) 0)), (1, .int a1), (2, .int a2), (3, .int a3), (4, .ref (gz_ad (lz_G Z) 173))] 0 [] := by
    refine jr_aload 0 C.1 d_Lw_hello_0 rfl ?_
    refine jr_iconst 2 0 C.1 d_Lw_hello_2 (by decide) ?_
    refine jr_aload_n 3 C.1 d_Lw_hello_3 rfl ?_
    refine jr_iload_n 4 C.1 d_Lw_hello_4 rfl ?_
    refine jr_iload_n 5 C.1 d_Lw_hello_5 rfl ?_
    refine jr_iload_n 6 C.1 d_Lw_hello_6 rfl ?_
    refine jr_callV 7 [.int a1, .int a2, .int a3] C.1 d_Lw_hello_7 (lf_C hI mm v (c_AR_hello (xz_l X) (jz_I_sub lz_subC hI) h)) sz_AR_hello tz_AR_hello lk_Lw_hello lo_AR rfl (by decide) rfl rfl (Nat.le_of_ble_eq_true rfl) rfl ?_
    refine jr_i2l 10 C.1 d_Lw_hello_10 ?_
    refine jr_last 11 C.1 d_Lw_hello_11 ?_
    refine jr_mem (lm_up _ _ _ _).symm ?_
    refine jr_goto 12 23 C.1 d_Lw_hello_12 (by decide) ?_
    refine jr_iconst 23 0 C.1 d_Lw_hello_23 (by decide) ?_
    exact jr_iretW 24 C.1 d_Lw_hello_24 rfl
  exact hJ _ [] ls C.2 va_S.rf hl
set_option maxHeartbeats 4000000 in
set_option maxRecDepth 100000 in
theorem lh1_hello {Z : cz_Z} (l : Launch) (hl0 : l.stackTraces = false) (hI : jz_I (lz_G Z)) {a1 : Int32} {a2 : Int32} {a3 : Int32} {mc : jz_M} (mm : jz_M) (v : Int32) (h : fx_AR_checkSender a1 a2 mc = some 1) : lh_m l y_Lw_hello cd_Lw_hello rm_Lw_hello (lz_G Z) [.ref (gz_ad (lz_G Z) 0), .int a1, .int a2, .int a3, .ref (gz_ad (lz_G Z) 173)] (lm_ mc mm v) 1 (lm_ mc mm v) := by
  refine lh_met (own := R_Lw) (hh := [(0, 12, 15, 13), (0, 12, 19, 15)]) (by decide) rfl hI (Nat.le_of_ble_eq_true rfl) (fun X hX C hx hn htab => ?_)
  subst hX
  show jp_J X 6 (lh_q X (lz_G Z) 1 (lm_ mc mm v)) [(0, .ref (gz_ad (lz_G Z) 0)), (1, .int a1), (2, .int a2), (3, .int a3), (4, .ref (gz_ad (lz_G Z) 173))] 0 []
  refine jp_aload 0 C d_Lw_hello_0 rfl ?_
  refine jp_iconst 2 0 C d_Lw_hello_2 (by decide) ?_
  refine jp_aload_n 3 C d_Lw_hello_3 rfl ?_
  refine jp_iload_n 4 C d_Lw_hello_4 rfl ?_
  refine jp_iload_n 5 C d_Lw_hello_5 rfl ?_
  refine jp_iload_n 6 C d_Lw_hello_6 rfl ?_
  refine jp_catch 7 [.int a1, .int a2, .int a3] C d_Lw_hello_7 (lf_X mm v (x1_AR_hello (xz_l X) hl0 (jz_I_sub lz_subC hI) h)) sz_AR_hello tz_AR_hello lk_Lw_hello lo_AR rfl (by decide) rfl rfl (Nat.le_of_ble_eq_true rfl) hx [] (xh_e (0, 12, 15, 13), xz_io) [xh_e (0, 12, 19, 15)] htab (fun cl hcl => ?_) (fun a H1 hsz hold ls hl => ?_)
  · have hcl : (xz_s X).vm.findClass xz_io = some cl := hcl
    obtain ⟨cc9, tt9, e9, f9, g9⟩ := Cond.castable_spec (hx.1 (.castable xz_io xz_io) (by decide +kernel) #[])
    cases hcl.symm.trans e9
    cases hcl.symm.trans f9
    exact ⟨fun q hq => absurd hq List.not_mem_nil, ⟨rfl, by decide, C.1.2.2.2.2.1 _ (gw_in (lt_2 (i := 98) (by set_option maxRecDepth 100000 in exact rfl)) (by first | rfl | simp [gw_ok, Cond.onTables, Cond.keeps, Cond.steady])), _, hcl, g9⟩⟩
  · refine lv_astore C.1.1 C.1.2.1 d_Lw_hello_15 hl (by decide) rfl (fun ls2 hl2 => ?_)
    refine lv_iconst (v := 1) C.1.1 C.1.2.1 d_Lw_hello_17 (by decide) ?_
    exact W.iret C.1.1 C.1.2.1 C.1.2.2.2.2.2.2.2.2.1 (fun t ht hW => ⟨rfl, ⟨by rw [ht]; exact C.2.kept (fun q x hx => hold x.1 (C.2 q x hx).lt), va_K.moved hW.alike C.1.2.2.2.2.2.1, nw_ok.warm hW C.1.2.2.2.2.2.2.2.2.2.2⟩, by rw [ht]; exact hsz, fun q h1 _ => by rw [ht]; exact hold q h1⟩) (fun _ h => by cases h) d_Lw_hello_18 C.1.2.2.2.2.2.2.2.1
set_option maxHeartbeats 4000000 in
set_option maxRecDepth 100000 in
theorem lh2_hello {Z : cz_Z} (l : Launch) (hl0 : l.stackTraces = false) (hI : jz_I (lz_G Z)) {a1 : Int32} {a2 : Int32} {a3 : Int32} {mc : jz_M} (mm : jz_M) (v : Int32) (h : fx_AR_checkSender a1 a2 mc = some 2) : lh_m l y_Lw_hello cd_Lw_hello rm_Lw_hello (lz_G Z) [.ref (gz_ad (lz_G Z) 0), .int a1, .int a2, .int a3, .ref (gz_ad (lz_G Z) 173)] (lm_ mc mm v) 2 (lm_ mc mm v) := by
  refine lh_met (own := R_Lw) (hh := [(0, 12, 15, 13), (0, 12, 19, 15)]) (by decide) rfl hI (Nat.le_of_ble_eq_true rfl) (fun X hX C hx hn htab => ?_)
  subst hX
  show jp_J X 6 (lh_q X (lz_G Z) 2 (lm_ mc mm v)) [(0, .ref (gz_ad (lz_G Z) 0)), (1, .int a1), (2, .int a2), (3, .int a3), (4, .ref (gz_ad (lz_G Z) 173))] 0 []
  refine jp_aload 0 C d_Lw_hello_0 rfl ?_
  refine jp_iconst 2 0 C d_Lw_hello_2 (by decide) ?_
  refine jp_aload_n 3 C d_Lw_hello_3 rfl ?_
  refine jp_iload_n 4 C d_Lw_hello_4 rfl ?_
  refine jp_iload_n 5 C d_Lw_hello_5 rfl ?_
  refine jp_iload_n 6 C d_Lw_hello_6 rfl ?_
  refine jp_catch 7 [.int a1, .int a2, .int a3] C d_Lw_hello_7 (lf_X mm v (x1_AR_hello (xz_l X) hl0 (jz_I_sub lz_subC hI) h)) sz_AR_hello tz_AR_hello lk_Lw_hello lo_AR rfl (by decide) rfl rfl (Nat.le_of_ble_eq_true rfl) hx [(xh_e (0, 12, 15, 13), xz_io)] (xh_e (0, 12, 19, 15), xz_is) [] htab (fun cl hcl => ?_) (fun a H1 hsz hold ls hl => ?_)
  · have hcl : (xz_s X).vm.findClass xz_is = some cl := hcl
    obtain ⟨c0, t0, e0, f0, g0⟩ := hn.1
    cases hcl.symm.trans e0
    obtain ⟨cc9, tt9, e9, f9, g9⟩ := Cond.castable_spec (hx.1 (.castable xz_is xz_is) (by decide +kernel) #[])
    cases hcl.symm.trans e9
    cases hcl.symm.trans f9
    refine ⟨fun q hq => ?_, ⟨rfl, by decide, C.1.2.2.2.2.1 _ (gw_in (lt_2 (i := 99) (by set_option maxRecDepth 100000 in exact rfl)) (by first | rfl | simp [gw_ok, Cond.onTables, Cond.keeps, Cond.steady])), _, hcl, g9⟩⟩
    simp only [List.mem_cons, List.not_mem_nil, or_false] at hq
    rcases hq with rfl
    · exact ⟨rfl, by decide, C.1.2.2.2.2.1 _ (gw_in (lt_2 (i := 98) (by set_option maxRecDepth 100000 in exact rfl)) (by first | rfl | simp [gw_ok, Cond.onTables, Cond.keeps, Cond.steady])), _, f0, g0⟩
  · refine lv_astore C.1.1 C.1.2.1 d_Lw_hello_19 hl (by decide) rfl (fun ls2 hl2 => ?_)
    refine lv_iconst (v := 2) C.1.1 C.1.2.1 d_Lw_hello_21 (by decide) ?_
    exact W.iret C.1.1 C.1.2.1 C.1.2.2.2.2.2.2.2.2.1 (fun t ht hW => ⟨rfl, ⟨by rw [ht]; exact C.2.kept (fun q x hx => hold x.1 (C.2 q x hx).lt), va_K.moved hW.alike C.1.2.2.2.2.2.1, nw_ok.warm hW C.1.2.2.2.2.2.2.2.2.2.2⟩, by rw [ht]; exact hsz, fun q h1 _ => by rw [ht]; exact hold q h1⟩) (fun _ h => by cases h) d_Lw_hello_22 C.1.2.2.2.2.2.2.2.1
abbrev b_Lw_spread : ByteArray := method_4_code
abbrev y_Lw_spread : MethodName := ⟨"AreaRoutersLaw", "spread", "(LAreaRouters;IIII[J)I"⟩
abbrev cd_Lw_spread : Cond := .codeWith y_Lw_spread b_Lw_spread 7 (some .int) [(0, 14, 17, 13), (0, 14, 21, 15), (0, 14, 25, 21)]
abbrev rm_Lw_spread : Room := { frames := 8, cells := 1, slots := 6, locals := 193 }
theorem d_Lw_spread_0 : decode b_Lw_spread 0 = .ok (.aload 5, 2) := by decide +kernel
theorem d_Lw_spread_2 : decode b_Lw_spread 2 = .ok (.iconst 0, 1) := by decide +kernel
theorem d_Lw_spread_3 : decode b_Lw_spread 3 = .ok (.aload_n 0, 1) := by decide +kernel
theorem d_Lw_spread_4 : decode b_Lw_spread 4 = .ok (.iload_n 1, 1) := by decide +kernel
theorem d_Lw_spread_5 : decode b_Lw_spread 5 = .ok (.iload_n 2, 1) := by decide +kernel
theorem d_Lw_spread_6 : decode b_Lw_spread 6 = .ok (.iload_n 3, 1) := by decide +kernel
theorem d_Lw_spread_7 : decode b_Lw_spread 7 = .ok (.iload 4, 2) := by decide +kernel
theorem d_Lw_spread_9 : decode b_Lw_spread 9 = .ok (.invokevirtual 17, 3) := by decide +kernel
theorem d_Lw_spread_12 : decode b_Lw_spread 12 = .ok (.i2l, 1) := by decide +kernel
theorem d_Lw_spread_13 : decode b_Lw_spread 13 = .ok (.lastore, 1) := by decide +kernel
theorem d_Lw_spread_14 : decode b_Lw_spread 14 = .ok (.goto 15, 3) := by decide +kernel
theorem d_Lw_spread_17 : decode b_Lw_spread 17 = .ok (.astore 6, 2) := by decide +kernel
theorem d_Lw_spread_19 : decode b_Lw_spread 19 = .ok (.iconst 1, 1) := by decide +kernel
theorem d_Lw_spread_20 : decode b_Lw_spread 20 = .ok (.ireturn, 1) := by decide +kernel
theorem d_Lw_spread_21 : decode b_Lw_spread 21 = .ok (.astore 6, 2) := by decide +kernel
theorem d_Lw_spread_23 : decode b_Lw_spread 23 = .ok (.iconst 2, 1) := by decide +kernel
theorem d_Lw_spread_24 : decode b_Lw_spread 24 = .ok (.ireturn, 1) := by decide +kernel
theorem d_Lw_spread_25 : decode b_Lw_spread 25 = .ok (.astore 6, 2) := by decide +kernel
theorem d_Lw_spread_27 : decode b_Lw_spread 27 = .ok (.iconst 3, 1) := by decide +kernel
theorem d_Lw_spread_28 : decode b_Lw_spread 28 = .ok (.ireturn, 1) := by decide +kernel
theorem d_Lw_spread_29 : decode b_Lw_spread 29 = .ok (.iconst 0, 1) := by decide +kernel
theorem d_Lw_spread_30 : decode b_Lw_spread 30 = .ok (.ireturn, 1) := by decide +kernel
theorem lk_Lw_spread : Cond.methodLink R_Lw 17 y_AR_spread ∈ lw_tbl := lt_2 (i := 211) (by set_option maxRecDepth 100000 in exact rfl)
set_option maxHeartbeats 4000000 in
set_option maxRecDepth 100000 in
theorem lh0_spread {Z : cz_Z} (l : Launch) (hI : jz_I (lz_G Z)) {a1 : Int32} {a2 : Int32} {a3 : Int32} {a4 : Int32} {mc : jz_M} (mm : jz_M) (v : Int32) {r : Int32 × jz_M} (h : f_AR_spread a1 a2 a3 a4 mc = some r) : lh_m l y_Lw_spread cd_Lw_spread rm_Lw_spread (lz_G Z) [.ref (gz_ad (lz_G Z) 0), .int a1, .int a2, .int a3, .int a4, .ref (gz_ad (lz_G Z) 173)] (lm_ mc mm v) 0 (lm_ r.2 mm r.1) := by
  refine lh_met (own := R_Lw) (hh := [(0, 14, 17, 13), (0, 14, 21, 15), (0, 14, 25, 21)]) (by decide) rfl hI (Nat.le_of_ble_eq_true rfl) (fun X hX C hx hn htab ls hl => ?_)
  subst hX
  have hJ : jz_J X 7 (lz_G Z) (lh_q X (lz_G Z) 0 (lm_ r.2 mm r.1)) (lm_ mc mm v) [(0, .ref (gz_ad (lz_G Z) 0)), (1, .int a1), (2, .int a2), (3, .int a3), (4, .int a4), (5, .ref (gz_ad (lz_G Z) 173))] 0 [] := by
    refine jr_aload 0 C.1 d_Lw_spread_0 rfl ?_
    refine jr_iconst 2 0 C.1 d_Lw_spread_2 (by decide) ?_
    refine jr_aload_n 3 C.1 d_Lw_spread_3 rfl ?_
    refine jr_iload_n 4 C.1 d_Lw_spread_4 rfl ?_
    refine jr_iload_n 5 C.1 d_Lw_spread_5 rfl ?_
    refine jr_iload_n 6 C.1 d_Lw_spread_6 rfl ?_
    refine jr_iload 7 C.1 d_Lw_spread_7 rfl ?_
    refine jr_callV 9 [.int a1, .int a2, .int a3, .int a4] C.1 d_Lw_spread_9 (lf_C hI mm v (c_AR_spread (xz_l X) (jz_I_sub lz_subC hI) h)) sz_AR_spread tz_AR_spread lk_Lw_spread lo_AR rfl (by decide) rfl rfl (Nat.le_of_ble_eq_true rfl) rfl ?_
    refine jr_i2l 12 C.1 d_Lw_spread_12 ?_
    refine jr_last 13 C.1 d_Lw_spread_13 ?_
    refine jr_mem (lm_up _ _ _ _).symm ?_
    refine jr_goto 14 29 C.1 d_Lw_spread_14 (by decide) ?_
    refine jr_iconst 29 0 C.1 d_Lw_spread_29 (by decide) ?_
    exact jr_iretW 30 C.1 d_Lw_spread_30 rfl
  exact hJ _ [] ls C.2 va_S.rf hl
set_option maxHeartbeats 4000000 in
set_option maxRecDepth 100000 in
theorem lh1_spread {Z : cz_Z} (l : Launch) (hl0 : l.stackTraces = false) (hI : jz_I (lz_G Z)) {a1 : Int32} {a2 : Int32} {a3 : Int32} {a4 : Int32} {mc : jz_M} (mm : jz_M) (v : Int32) (h : fx_AR_checkSender a1 a2 mc = some 1) : lh_m l y_Lw_spread cd_Lw_spread rm_Lw_spread (lz_G Z) [.ref (gz_ad (lz_G Z) 0), .int a1, .int a2, .int a3, .int a4, .ref (gz_ad (lz_G Z) 173)] (lm_ mc mm v) 1 (lm_ mc mm v) := by
  refine lh_met (own := R_Lw) (hh := [(0, 14, 17, 13), (0, 14, 21, 15), (0, 14, 25, 21)]) (by decide) rfl hI (Nat.le_of_ble_eq_true rfl) (fun X hX C hx hn htab => ?_)
  subst hX
  show jp_J X 7 (lh_q X (lz_G Z) 1 (lm_ mc mm v)) [(0, .ref (gz_ad (lz_G Z) 0)), (1, .int a1), (2, .int a2), (3, .int a3), (4, .int a4), (5, .ref (gz_ad (lz_G Z) 173))] 0 []
  refine jp_aload 0 C d_Lw_spread_0 rfl ?_
  refine jp_iconst 2 0 C d_Lw_spread_2 (by decide) ?_
  refine jp_aload_n 3 C d_Lw_spread_3 rfl ?_
  refine jp_iload_n 4 C d_Lw_spread_4 rfl ?_
  refine jp_iload_n 5 C d_Lw_spread_5 rfl ?_
  refine jp_iload_n 6 C d_Lw_spread_6 rfl ?_
  refine jp_iload 7 C d_Lw_spread_7 rfl ?_
  refine jp_catch 9 [.int a1, .int a2, .int a3, .int a4] C d_Lw_spread_9 (lf_X mm v (x1_AR_spread (xz_l X) hl0 (jz_I_sub lz_subC hI) h)) sz_AR_spread tz_AR_spread lk_Lw_spread lo_AR rfl (by decide) rfl rfl (Nat.le_of_ble_eq_true rfl) hx [] (xh_e (0, 14, 17, 13), xz_io) [xh_e (0, 14, 21, 15), xh_e (0, 14, 25, 21)] htab (fun cl hcl => ?_) (fun a H1 hsz hold ls hl => ?_)
  · have hcl : (xz_s X).vm.findClass xz_io = some cl := hcl
    obtain ⟨cc9, tt9, e9, f9, g9⟩ := Cond.castable_spec (hx.1 (.castable xz_io xz_io) (by decide +kernel) #[])
    cases hcl.symm.trans e9
    cases hcl.symm.trans f9
    exact ⟨fun q hq => absurd hq List.not_mem_nil, ⟨rfl, by decide, C.1.2.2.2.2.1 _ (gw_in (lt_2 (i := 98) (by set_option maxRecDepth 100000 in exact rfl)) (by first | rfl | simp [gw_ok, Cond.onTables, Cond.keeps, Cond.steady])), _, hcl, g9⟩⟩
  · refine lv_astore C.1.1 C.1.2.1 d_Lw_spread_17 hl (by decide) rfl (fun ls2 hl2 => ?_)
    refine lv_iconst (v := 1) C.1.1 C.1.2.1 d_Lw_spread_19 (by decide) ?_
    exact W.iret C.1.1 C.1.2.1 C.1.2.2.2.2.2.2.2.2.1 (fun t ht hW => ⟨rfl, ⟨by rw [ht]; exact C.2.kept (fun q x hx => hold x.1 (C.2 q x hx).lt), va_K.moved hW.alike C.1.2.2.2.2.2.1, nw_ok.warm hW C.1.2.2.2.2.2.2.2.2.2.2⟩, by rw [ht]; exact hsz, fun q h1 _ => by rw [ht]; exact hold q h1⟩) (fun _ h => by cases h) d_Lw_spread_20 C.1.2.2.2.2.2.2.2.1
set_option maxHeartbeats 4000000 in
set_option maxRecDepth 100000 in
theorem lh2_spread {Z : cz_Z} (l : Launch) (hl0 : l.stackTraces = false) (hI : jz_I (lz_G Z)) {a1 : Int32} {a2 : Int32} {a3 : Int32} {a4 : Int32} {mc : jz_M} (mm : jz_M) (v : Int32) (h : fx_AR_checkSender a1 a2 mc = some 2) : lh_m l y_Lw_spread cd_Lw_spread rm_Lw_spread (lz_G Z) [.ref (gz_ad (lz_G Z) 0), .int a1, .int a2, .int a3, .int a4, .ref (gz_ad (lz_G Z) 173)] (lm_ mc mm v) 2 (lm_ mc mm v) := by
  refine lh_met (own := R_Lw) (hh := [(0, 14, 17, 13), (0, 14, 21, 15), (0, 14, 25, 21)]) (by decide) rfl hI (Nat.le_of_ble_eq_true rfl) (fun X hX C hx hn htab => ?_)
  subst hX
  show jp_J X 7 (lh_q X (lz_G Z) 2 (lm_ mc mm v)) [(0, .ref (gz_ad (lz_G Z) 0)), (1, .int a1), (2, .int a2), (3, .int a3), (4, .int a4), (5, .ref (gz_ad (lz_G Z) 173))] 0 []
  refine jp_aload 0 C d_Lw_spread_0 rfl ?_
  refine jp_iconst 2 0 C d_Lw_spread_2 (by decide) ?_
  refine jp_aload_n 3 C d_Lw_spread_3 rfl ?_
  refine jp_iload_n 4 C d_Lw_spread_4 rfl ?_
  refine jp_iload_n 5 C d_Lw_spread_5 rfl ?_
  refine jp_iload_n 6 C d_Lw_spread_6 rfl ?_
  refine jp_iload 7 C d_Lw_spread_7 rfl ?_
  refine jp_catch 9 [.int a1, .int a2, .int a3, .int a4] C d_Lw_spread_9 (lf_X mm v (x1_AR_spread (xz_l X) hl0 (jz_I_sub lz_subC hI) h)) sz_AR_spread tz_AR_spread lk_Lw_spread lo_AR rfl (by decide) rfl rfl (Nat.le_of_ble_eq_true rfl) hx [(xh_e (0, 14, 17, 13), xz_io)] (xh_e (0, 14, 21, 15), xz_is) [xh_e (0, 14, 25, 21)] htab (fun cl hcl => ?_) (fun a H1 hsz hold ls hl => ?_)
  · have hcl : (xz_s X).vm.findClass xz_is = some cl := hcl
    obtain ⟨c0, t0, e0, f0, g0⟩ := hn.1
    cases hcl.symm.trans e0
    obtain ⟨cc9, tt9, e9, f9, g9⟩ := Cond.castable_spec (hx.1 (.castable xz_is xz_is) (by decide +kernel) #[])
    cases hcl.symm.trans e9
    cases hcl.symm.trans f9
    refine ⟨fun q hq => ?_, ⟨rfl, by decide, C.1.2.2.2.2.1 _ (gw_in (lt_2 (i := 99) (by set_option maxRecDepth 100000 in exact rfl)) (by first | rfl | simp [gw_ok, Cond.onTables, Cond.keeps, Cond.steady])), _, hcl, g9⟩⟩
    simp only [List.mem_cons, List.not_mem_nil, or_false] at hq
    rcases hq with rfl
    · exact ⟨rfl, by decide, C.1.2.2.2.2.1 _ (gw_in (lt_2 (i := 98) (by set_option maxRecDepth 100000 in exact rfl)) (by first | rfl | simp [gw_ok, Cond.onTables, Cond.keeps, Cond.steady])), _, f0, g0⟩
  · refine lv_astore C.1.1 C.1.2.1 d_Lw_spread_21 hl (by decide) rfl (fun ls2 hl2 => ?_)
    refine lv_iconst (v := 2) C.1.1 C.1.2.1 d_Lw_spread_23 (by decide) ?_
    exact W.iret C.1.1 C.1.2.1 C.1.2.2.2.2.2.2.2.2.1 (fun t ht hW => ⟨rfl, ⟨by rw [ht]; exact C.2.kept (fun q x hx => hold x.1 (C.2 q x hx).lt), va_K.moved hW.alike C.1.2.2.2.2.2.1, nw_ok.warm hW C.1.2.2.2.2.2.2.2.2.2.2⟩, by rw [ht]; exact hsz, fun q h1 _ => by rw [ht]; exact hold q h1⟩) (fun _ h => by cases h) d_Lw_spread_24 C.1.2.2.2.2.2.2.2.1
set_option maxHeartbeats 4000000 in
set_option maxRecDepth 100000 in
theorem lh3_spread {Z : cz_Z} (l : Launch) (hl0 : l.stackTraces = false) (hI : jz_I (lz_G Z)) {a1 : Int32} {a2 : Int32} {a3 : Int32} {a4 : Int32} {mc : jz_M} (mm : jz_M) (v : Int32) (h0 : f_AR_checkSender a1 a2 mc = some ()) (h : fx_AR_checkLevel a1 a3 mc = some 3) : lh_m l y_Lw_spread cd_Lw_spread rm_Lw_spread (lz_G Z) [.ref (gz_ad (lz_G Z) 0), .int a1, .int a2, .int a3, .int a4, .ref (gz_ad (lz_G Z) 173)] (lm_ mc mm v) 3 (lm_ mc mm v) := by
  refine lh_met (own := R_Lw) (hh := [(0, 14, 17, 13), (0, 14, 21, 15), (0, 14, 25, 21)]) (by decide) rfl hI (Nat.le_of_ble_eq_true rfl) (fun X hX C hx hn htab => ?_)
  subst hX
  show jp_J X 7 (lh_q X (lz_G Z) 3 (lm_ mc mm v)) [(0, .ref (gz_ad (lz_G Z) 0)), (1, .int a1), (2, .int a2), (3, .int a3), (4, .int a4), (5, .ref (gz_ad (lz_G Z) 173))] 0 []
  refine jp_aload 0 C d_Lw_spread_0 rfl ?_
  refine jp_iconst 2 0 C d_Lw_spread_2 (by decide) ?_
  refine jp_aload_n 3 C d_Lw_spread_3 rfl ?_
  refine jp_iload_n 4 C d_Lw_spread_4 rfl ?_
  refine jp_iload_n 5 C d_Lw_spread_5 rfl ?_
  refine jp_iload_n 6 C d_Lw_spread_6 rfl ?_
  refine jp_iload 7 C d_Lw_spread_7 rfl ?_
  refine jp_catch 9 [.int a1, .int a2, .int a3, .int a4] C d_Lw_spread_9 (lf_X mm v (x2_AR_spread (xz_l X) hl0 (jz_I_sub lz_subC hI) h0 h)) sz_AR_spread tz_AR_spread lk_Lw_spread lo_AR rfl (by decide) rfl rfl (Nat.le_of_ble_eq_true rfl) hx [(xh_e (0, 14, 17, 13), xz_io), (xh_e (0, 14, 21, 15), xz_is)] (xh_e (0, 14, 25, 21), xz_ia) [] htab (fun cl hcl => ?_) (fun a H1 hsz hold ls hl => ?_)
  · have hcl : (xz_s X).vm.findClass xz_ia = some cl := hcl
    obtain ⟨c0, t0, e0, f0, g0⟩ := hn.2.1
    cases hcl.symm.trans e0
    obtain ⟨c1, t1, e1, f1, g1⟩ := hn.2.2
    cases hcl.symm.trans e1
    obtain ⟨cc9, tt9, e9, f9, g9⟩ := Cond.castable_spec (hx.1 (.castable xz_ia xz_ia) (by decide +kernel) #[])
    cases hcl.symm.trans e9
    cases hcl.symm.trans f9
    refine ⟨fun q hq => ?_, ⟨rfl, by decide, C.1.2.2.2.2.1 _ (gw_in (lt_2 (i := 210) (by set_option maxRecDepth 100000 in exact rfl)) (by first | rfl | simp [gw_ok, Cond.onTables, Cond.keeps, Cond.steady])), _, hcl, g9⟩⟩
    simp only [List.mem_cons, List.not_mem_nil, or_false] at hq
    rcases hq with rfl | rfl
    · exact ⟨rfl, by decide, C.1.2.2.2.2.1 _ (gw_in (lt_2 (i := 98) (by set_option maxRecDepth 100000 in exact rfl)) (by first | rfl | simp [gw_ok, Cond.onTables, Cond.keeps, Cond.steady])), _, f0, g0⟩
    · exact ⟨rfl, by decide, C.1.2.2.2.2.1 _ (gw_in (lt_2 (i := 99) (by set_option maxRecDepth 100000 in exact rfl)) (by first | rfl | simp [gw_ok, Cond.onTables, Cond.keeps, Cond.steady])), _, f1, g1⟩
  · refine lv_astore C.1.1 C.1.2.1 d_Lw_spread_25 hl (by decide) rfl (fun ls2 hl2 => ?_)
    refine lv_iconst (v := 3) C.1.1 C.1.2.1 d_Lw_spread_27 (by decide) ?_
    exact W.iret C.1.1 C.1.2.1 C.1.2.2.2.2.2.2.2.2.1 (fun t ht hW => ⟨rfl, ⟨by rw [ht]; exact C.2.kept (fun q x hx => hold x.1 (C.2 q x hx).lt), va_K.moved hW.alike C.1.2.2.2.2.2.1, nw_ok.warm hW C.1.2.2.2.2.2.2.2.2.2.2⟩, by rw [ht]; exact hsz, fun q h1 _ => by rw [ht]; exact hold q h1⟩) (fun _ h => by cases h) d_Lw_spread_28 C.1.2.2.2.2.2.2.2.1
abbrev b_Lw_summary : ByteArray := method_5_code
abbrev y_Lw_summary : MethodName := ⟨"AreaRoutersLaw", "summary", "(LAreaRouters;IIII[J)I"⟩
abbrev cd_Lw_summary : Cond := .codeWith y_Lw_summary b_Lw_summary 7 (some .int) [(0, 14, 17, 13), (0, 14, 21, 15), (0, 14, 25, 21)]
abbrev rm_Lw_summary : Room := { frames := 8, cells := 1, slots := 6, locals := 148 }
theorem d_Lw_summary_0 : decode b_Lw_summary 0 = .ok (.aload 5, 2) := by decide +kernel
theorem d_Lw_summary_2 : decode b_Lw_summary 2 = .ok (.iconst 0, 1) := by decide +kernel
theorem d_Lw_summary_3 : decode b_Lw_summary 3 = .ok (.aload_n 0, 1) := by decide +kernel
theorem d_Lw_summary_4 : decode b_Lw_summary 4 = .ok (.iload_n 1, 1) := by decide +kernel
theorem d_Lw_summary_5 : decode b_Lw_summary 5 = .ok (.iload_n 2, 1) := by decide +kernel
theorem d_Lw_summary_6 : decode b_Lw_summary 6 = .ok (.iload_n 3, 1) := by decide +kernel
theorem d_Lw_summary_7 : decode b_Lw_summary 7 = .ok (.iload 4, 2) := by decide +kernel
theorem d_Lw_summary_9 : decode b_Lw_summary 9 = .ok (.invokevirtual 23, 3) := by decide +kernel
theorem d_Lw_summary_12 : decode b_Lw_summary 12 = .ok (.i2l, 1) := by decide +kernel
theorem d_Lw_summary_13 : decode b_Lw_summary 13 = .ok (.lastore, 1) := by decide +kernel
theorem d_Lw_summary_14 : decode b_Lw_summary 14 = .ok (.goto 15, 3) := by decide +kernel
theorem d_Lw_summary_17 : decode b_Lw_summary 17 = .ok (.astore 6, 2) := by decide +kernel
theorem d_Lw_summary_19 : decode b_Lw_summary 19 = .ok (.iconst 1, 1) := by decide +kernel
theorem d_Lw_summary_20 : decode b_Lw_summary 20 = .ok (.ireturn, 1) := by decide +kernel
theorem d_Lw_summary_21 : decode b_Lw_summary 21 = .ok (.astore 6, 2) := by decide +kernel
theorem d_Lw_summary_23 : decode b_Lw_summary 23 = .ok (.iconst 2, 1) := by decide +kernel
theorem d_Lw_summary_24 : decode b_Lw_summary 24 = .ok (.ireturn, 1) := by decide +kernel
theorem d_Lw_summary_25 : decode b_Lw_summary 25 = .ok (.astore 6, 2) := by decide +kernel
theorem d_Lw_summary_27 : decode b_Lw_summary 27 = .ok (.iconst 3, 1) := by decide +kernel
theorem d_Lw_summary_28 : decode b_Lw_summary 28 = .ok (.ireturn, 1) := by decide +kernel
theorem d_Lw_summary_29 : decode b_Lw_summary 29 = .ok (.iconst 0, 1) := by decide +kernel
theorem d_Lw_summary_30 : decode b_Lw_summary 30 = .ok (.ireturn, 1) := by decide +kernel
theorem lk_Lw_summary : Cond.methodLink R_Lw 23 y_AR_summary ∈ lw_tbl := lt_3 (i := 91) (by set_option maxRecDepth 100000 in exact rfl)
set_option maxHeartbeats 4000000 in
set_option maxRecDepth 100000 in
theorem lh0_summary {Z : cz_Z} (l : Launch) (hI : jz_I (lz_G Z)) {a1 : Int32} {a2 : Int32} {a3 : Int32} {a4 : Int32} {mc : jz_M} (mm : jz_M) (v : Int32) {r : Int32 × jz_M} (h : f_AR_summary a1 a2 a3 a4 mc = some r) : lh_m l y_Lw_summary cd_Lw_summary rm_Lw_summary (lz_G Z) [.ref (gz_ad (lz_G Z) 0), .int a1, .int a2, .int a3, .int a4, .ref (gz_ad (lz_G Z) 173)] (lm_ mc mm v) 0 (lm_ r.2 mm r.1) := by
  refine lh_met (own := R_Lw) (hh := [(0, 14, 17, 13), (0, 14, 21, 15), (0, 14, 25, 21)]) (by decide) rfl hI (Nat.le_of_ble_eq_true rfl) (fun X hX C hx hn htab ls hl => ?_)
  subst hX
  have hJ : jz_J X 7 (lz_G Z) (lh_q X (lz_G Z) 0 (lm_ r.2 mm r.1)) (lm_ mc mm v) [(0, .ref (gz_ad (lz_G Z) 0)), (1, .int a1), (2, .int a2), (3, .int a3), (4, .int a4), (5, .ref (gz_ad (lz_G Z) 173))] 0 [] := by
    refine jr_aload 0 C.1 d_Lw_summary_0 rfl ?_
    refine jr_iconst 2 0 C.1 d_Lw_summary_2 (by decide) ?_
    refine jr_aload_n 3 C.1 d_Lw_summary_3 rfl ?_
    refine jr_iload_n 4 C.1 d_Lw_summary_4 rfl ?_
    refine jr_iload_n 5 C.1 d_Lw_summary_5 rfl ?_
    refine jr_iload_n 6 C.1 d_Lw_summary_6 rfl ?_
    refine jr_iload 7 C.1 d_Lw_summary_7 rfl ?_
    refine jr_callV 9 [.int a1, .int a2, .int a3, .int a4] C.1 d_Lw_summary_9 (lf_C hI mm v (c_AR_summary (xz_l X) (jz_I_sub lz_subC hI) h)) sz_AR_summary tz_AR_summary lk_Lw_summary lo_AR rfl (by decide) rfl rfl (Nat.le_of_ble_eq_true rfl) rfl ?_
    refine jr_i2l 12 C.1 d_Lw_summary_12 ?_
    refine jr_last 13 C.1 d_Lw_summary_13 ?_
    refine jr_mem (lm_up _ _ _ _).symm ?_
    refine jr_goto 14 29 C.1 d_Lw_summary_14 (by decide) ?_
    refine jr_iconst 29 0 C.1 d_Lw_summary_29 (by decide) ?_
    exact jr_iretW 30 C.1 d_Lw_summary_30 rfl
  exact hJ _ [] ls C.2 va_S.rf hl
set_option maxHeartbeats 4000000 in
set_option maxRecDepth 100000 in
theorem lh1_summary {Z : cz_Z} (l : Launch) (hl0 : l.stackTraces = false) (hI : jz_I (lz_G Z)) {a1 : Int32} {a2 : Int32} {a3 : Int32} {a4 : Int32} {mc : jz_M} (mm : jz_M) (v : Int32) (h : fx_AR_checkSender a1 a2 mc = some 1) : lh_m l y_Lw_summary cd_Lw_summary rm_Lw_summary (lz_G Z) [.ref (gz_ad (lz_G Z) 0), .int a1, .int a2, .int a3, .int a4, .ref (gz_ad (lz_G Z) 173)] (lm_ mc mm v) 1 (lm_ mc mm v) := by
  refine lh_met (own := R_Lw) (hh := [(0, 14, 17, 13), (0, 14, 21, 15), (0, 14, 25, 21)]) (by decide) rfl hI (Nat.le_of_ble_eq_true rfl) (fun X hX C hx hn htab => ?_)
  subst hX
  show jp_J X 7 (lh_q X (lz_G Z) 1 (lm_ mc mm v)) [(0, .ref (gz_ad (lz_G Z) 0)), (1, .int a1), (2, .int a2), (3, .int a3), (4, .int a4), (5, .ref (gz_ad (lz_G Z) 173))] 0 []
  refine jp_aload 0 C d_Lw_summary_0 rfl ?_
  refine jp_iconst 2 0 C d_Lw_summary_2 (by decide) ?_
  refine jp_aload_n 3 C d_Lw_summary_3 rfl ?_
  refine jp_iload_n 4 C d_Lw_summary_4 rfl ?_
  refine jp_iload_n 5 C d_Lw_summary_5 rfl ?_
  refine jp_iload_n 6 C d_Lw_summary_6 rfl ?_
  refine jp_iload 7 C d_Lw_summary_7 rfl ?_
  refine jp_catch 9 [.int a1, .int a2, .int a3, .int a4] C d_Lw_summary_9 (lf_X mm v (x1_AR_summary (xz_l X) hl0 (jz_I_sub lz_subC hI) h)) sz_AR_summary tz_AR_summary lk_Lw_summary lo_AR rfl (by decide) rfl rfl (Nat.le_of_ble_eq_true rfl) hx [] (xh_e (0, 14, 17, 13), xz_io) [xh_e (0, 14, 21, 15), xh_e (0, 14, 25, 21)] htab (fun cl hcl => ?_) (fun a H1 hsz hold ls hl => ?_)
  · have hcl : (xz_s X).vm.findClass xz_io = some cl := hcl
    obtain ⟨cc9, tt9, e9, f9, g9⟩ := Cond.castable_spec (hx.1 (.castable xz_io xz_io) (by decide +kernel) #[])
    cases hcl.symm.trans e9
    cases hcl.symm.trans f9
    exact ⟨fun q hq => absurd hq List.not_mem_nil, ⟨rfl, by decide, C.1.2.2.2.2.1 _ (gw_in (lt_2 (i := 98) (by set_option maxRecDepth 100000 in exact rfl)) (by first | rfl | simp [gw_ok, Cond.onTables, Cond.keeps, Cond.steady])), _, hcl, g9⟩⟩
  · refine lv_astore C.1.1 C.1.2.1 d_Lw_summary_17 hl (by decide) rfl (fun ls2 hl2 => ?_)
    refine lv_iconst (v := 1) C.1.1 C.1.2.1 d_Lw_summary_19 (by decide) ?_
    exact W.iret C.1.1 C.1.2.1 C.1.2.2.2.2.2.2.2.2.1 (fun t ht hW => ⟨rfl, ⟨by rw [ht]; exact C.2.kept (fun q x hx => hold x.1 (C.2 q x hx).lt), va_K.moved hW.alike C.1.2.2.2.2.2.1, nw_ok.warm hW C.1.2.2.2.2.2.2.2.2.2.2⟩, by rw [ht]; exact hsz, fun q h1 _ => by rw [ht]; exact hold q h1⟩) (fun _ h => by cases h) d_Lw_summary_20 C.1.2.2.2.2.2.2.2.1
set_option maxHeartbeats 4000000 in
set_option maxRecDepth 100000 in
theorem lh2_summary {Z : cz_Z} (l : Launch) (hl0 : l.stackTraces = false) (hI : jz_I (lz_G Z)) {a1 : Int32} {a2 : Int32} {a3 : Int32} {a4 : Int32} {mc : jz_M} (mm : jz_M) (v : Int32) (h : fx_AR_checkSender a1 a2 mc = some 2) : lh_m l y_Lw_summary cd_Lw_summary rm_Lw_summary (lz_G Z) [.ref (gz_ad (lz_G Z) 0), .int a1, .int a2, .int a3, .int a4, .ref (gz_ad (lz_G Z) 173)] (lm_ mc mm v) 2 (lm_ mc mm v) := by
  refine lh_met (own := R_Lw) (hh := [(0, 14, 17, 13), (0, 14, 21, 15), (0, 14, 25, 21)]) (by decide) rfl hI (Nat.le_of_ble_eq_true rfl) (fun X hX C hx hn htab => ?_)
  subst hX
  show jp_J X 7 (lh_q X (lz_G Z) 2 (lm_ mc mm v)) [(0, .ref (gz_ad (lz_G Z) 0)), (1, .int a1), (2, .int a2), (3, .int a3), (4, .int a4), (5, .ref (gz_ad (lz_G Z) 173))] 0 []
  refine jp_aload 0 C d_Lw_summary_0 rfl ?_
  refine jp_iconst 2 0 C d_Lw_summary_2 (by decide) ?_
  refine jp_aload_n 3 C d_Lw_summary_3 rfl ?_
  refine jp_iload_n 4 C d_Lw_summary_4 rfl ?_
  refine jp_iload_n 5 C d_Lw_summary_5 rfl ?_
  refine jp_iload_n 6 C d_Lw_summary_6 rfl ?_
  refine jp_iload 7 C d_Lw_summary_7 rfl ?_
  refine jp_catch 9 [.int a1, .int a2, .int a3, .int a4] C d_Lw_summary_9 (lf_X mm v (x1_AR_summary (xz_l X) hl0 (jz_I_sub lz_subC hI) h)) sz_AR_summary tz_AR_summary lk_Lw_summary lo_AR rfl (by decide) rfl rfl (Nat.le_of_ble_eq_true rfl) hx [(xh_e (0, 14, 17, 13), xz_io)] (xh_e (0, 14, 21, 15), xz_is) [xh_e (0, 14, 25, 21)] htab (fun cl hcl => ?_) (fun a H1 hsz hold ls hl => ?_)
  · have hcl : (xz_s X).vm.findClass xz_is = some cl := hcl
    obtain ⟨c0, t0, e0, f0, g0⟩ := hn.1
    cases hcl.symm.trans e0
    obtain ⟨cc9, tt9, e9, f9, g9⟩ := Cond.castable_spec (hx.1 (.castable xz_is xz_is) (by decide +kernel) #[])
    cases hcl.symm.trans e9
    cases hcl.symm.trans f9
    refine ⟨fun q hq => ?_, ⟨rfl, by decide, C.1.2.2.2.2.1 _ (gw_in (lt_2 (i := 99) (by set_option maxRecDepth 100000 in exact rfl)) (by first | rfl | simp [gw_ok, Cond.onTables, Cond.keeps, Cond.steady])), _, hcl, g9⟩⟩
    simp only [List.mem_cons, List.not_mem_nil, or_false] at hq
    rcases hq with rfl
    · exact ⟨rfl, by decide, C.1.2.2.2.2.1 _ (gw_in (lt_2 (i := 98) (by set_option maxRecDepth 100000 in exact rfl)) (by first | rfl | simp [gw_ok, Cond.onTables, Cond.keeps, Cond.steady])), _, f0, g0⟩
  · refine lv_astore C.1.1 C.1.2.1 d_Lw_summary_21 hl (by decide) rfl (fun ls2 hl2 => ?_)
    refine lv_iconst (v := 2) C.1.1 C.1.2.1 d_Lw_summary_23 (by decide) ?_
    exact W.iret C.1.1 C.1.2.1 C.1.2.2.2.2.2.2.2.2.1 (fun t ht hW => ⟨rfl, ⟨by rw [ht]; exact C.2.kept (fun q x hx => hold x.1 (C.2 q x hx).lt), va_K.moved hW.alike C.1.2.2.2.2.2.1, nw_ok.warm hW C.1.2.2.2.2.2.2.2.2.2.2⟩, by rw [ht]; exact hsz, fun q h1 _ => by rw [ht]; exact hold q h1⟩) (fun _ h => by cases h) d_Lw_summary_24 C.1.2.2.2.2.2.2.2.1
set_option maxHeartbeats 4000000 in
set_option maxRecDepth 100000 in
theorem lh3_summary {Z : cz_Z} (l : Launch) (hl0 : l.stackTraces = false) (hI : jz_I (lz_G Z)) {a1 : Int32} {a2 : Int32} {a3 : Int32} {a4 : Int32} {mc : jz_M} (mm : jz_M) (v : Int32) (h0 : f_AR_checkSender a1 a2 mc = some ()) (h : fx_AR_checkLevel a1 a3 mc = some 3) : lh_m l y_Lw_summary cd_Lw_summary rm_Lw_summary (lz_G Z) [.ref (gz_ad (lz_G Z) 0), .int a1, .int a2, .int a3, .int a4, .ref (gz_ad (lz_G Z) 173)] (lm_ mc mm v) 3 (lm_ mc mm v) := by
  refine lh_met (own := R_Lw) (hh := [(0, 14, 17, 13), (0, 14, 21, 15), (0, 14, 25, 21)]) (by decide) rfl hI (Nat.le_of_ble_eq_true rfl) (fun X hX C hx hn htab => ?_)
  subst hX
  show jp_J X 7 (lh_q X (lz_G Z) 3 (lm_ mc mm v)) [(0, .ref (gz_ad (lz_G Z) 0)), (1, .int a1), (2, .int a2), (3, .int a3), (4, .int a4), (5, .ref (gz_ad (lz_G Z) 173))] 0 []
  refine jp_aload 0 C d_Lw_summary_0 rfl ?_
  refine jp_iconst 2 0 C d_Lw_summary_2 (by decide) ?_
  refine jp_aload_n 3 C d_Lw_summary_3 rfl ?_
  refine jp_iload_n 4 C d_Lw_summary_4 rfl ?_
  refine jp_iload_n 5 C d_Lw_summary_5 rfl ?_
  refine jp_iload_n 6 C d_Lw_summary_6 rfl ?_
  refine jp_iload 7 C d_Lw_summary_7 rfl ?_
  refine jp_catch 9 [.int a1, .int a2, .int a3, .int a4] C d_Lw_summary_9 (lf_X mm v (x2_AR_summary (xz_l X) hl0 (jz_I_sub lz_subC hI) h0 h)) sz_AR_summary tz_AR_summary lk_Lw_summary lo_AR rfl (by decide) rfl rfl (Nat.le_of_ble_eq_true rfl) hx [(xh_e (0, 14, 17, 13), xz_io), (xh_e (0, 14, 21, 15), xz_is)] (xh_e (0, 14, 25, 21), xz_ia) [] htab (fun cl hcl => ?_) (fun a H1 hsz hold ls hl => ?_)
  · have hcl : (xz_s X).vm.findClass xz_ia = some cl := hcl
    obtain ⟨c0, t0, e0, f0, g0⟩ := hn.2.1
    cases hcl.symm.trans e0
    obtain ⟨c1, t1, e1, f1, g1⟩ := hn.2.2
    cases hcl.symm.trans e1
    obtain ⟨cc9, tt9, e9, f9, g9⟩ := Cond.castable_spec (hx.1 (.castable xz_ia xz_ia) (by decide +kernel) #[])
    cases hcl.symm.trans e9
    cases hcl.symm.trans f9
    refine ⟨fun q hq => ?_, ⟨rfl, by decide, C.1.2.2.2.2.1 _ (gw_in (lt_2 (i := 210) (by set_option maxRecDepth 100000 in exact rfl)) (by first | rfl | simp [gw_ok, Cond.onTables, Cond.keeps, Cond.steady])), _, hcl, g9⟩⟩
    simp only [List.mem_cons, List.not_mem_nil, or_false] at hq
    rcases hq with rfl | rfl
    · exact ⟨rfl, by decide, C.1.2.2.2.2.1 _ (gw_in (lt_2 (i := 98) (by set_option maxRecDepth 100000 in exact rfl)) (by first | rfl | simp [gw_ok, Cond.onTables, Cond.keeps, Cond.steady])), _, f0, g0⟩
    · exact ⟨rfl, by decide, C.1.2.2.2.2.1 _ (gw_in (lt_2 (i := 99) (by set_option maxRecDepth 100000 in exact rfl)) (by first | rfl | simp [gw_ok, Cond.onTables, Cond.keeps, Cond.steady])), _, f1, g1⟩
  · refine lv_astore C.1.1 C.1.2.1 d_Lw_summary_25 hl (by decide) rfl (fun ls2 hl2 => ?_)
    refine lv_iconst (v := 3) C.1.1 C.1.2.1 d_Lw_summary_27 (by decide) ?_
    exact W.iret C.1.1 C.1.2.1 C.1.2.2.2.2.2.2.2.2.1 (fun t ht hW => ⟨rfl, ⟨by rw [ht]; exact C.2.kept (fun q x hx => hold x.1 (C.2 q x hx).lt), va_K.moved hW.alike C.1.2.2.2.2.2.1, nw_ok.warm hW C.1.2.2.2.2.2.2.2.2.2.2⟩, by rw [ht]; exact hsz, fun q h1 _ => by rw [ht]; exact hold q h1⟩) (fun _ h => by cases h) d_Lw_summary_28 C.1.2.2.2.2.2.2.2.1
abbrev b_Lw_request : ByteArray := method_6_code
abbrev y_Lw_request : MethodName := ⟨"AreaRoutersLaw", "request", "(LAreaRouters;IIII[J)I"⟩
abbrev cd_Lw_request : Cond := .codeWith y_Lw_request b_Lw_request 7 (some .int) [(0, 14, 17, 13), (0, 14, 21, 15), (0, 14, 25, 21)]
abbrev rm_Lw_request : Room := { frames := 8, cells := 1, slots := 6, locals := 150 }
theorem d_Lw_request_0 : decode b_Lw_request 0 = .ok (.aload 5, 2) := by decide +kernel
theorem d_Lw_request_2 : decode b_Lw_request 2 = .ok (.iconst 0, 1) := by decide +kernel
theorem d_Lw_request_3 : decode b_Lw_request 3 = .ok (.aload_n 0, 1) := by decide +kernel
theorem d_Lw_request_4 : decode b_Lw_request 4 = .ok (.iload_n 1, 1) := by decide +kernel
theorem d_Lw_request_5 : decode b_Lw_request 5 = .ok (.iload_n 2, 1) := by decide +kernel
theorem d_Lw_request_6 : decode b_Lw_request 6 = .ok (.iload_n 3, 1) := by decide +kernel
theorem d_Lw_request_7 : decode b_Lw_request 7 = .ok (.iload 4, 2) := by decide +kernel
theorem d_Lw_request_9 : decode b_Lw_request 9 = .ok (.invokevirtual 26, 3) := by decide +kernel
theorem d_Lw_request_12 : decode b_Lw_request 12 = .ok (.i2l, 1) := by decide +kernel
theorem d_Lw_request_13 : decode b_Lw_request 13 = .ok (.lastore, 1) := by decide +kernel
theorem d_Lw_request_14 : decode b_Lw_request 14 = .ok (.goto 15, 3) := by decide +kernel
theorem d_Lw_request_17 : decode b_Lw_request 17 = .ok (.astore 6, 2) := by decide +kernel
theorem d_Lw_request_19 : decode b_Lw_request 19 = .ok (.iconst 1, 1) := by decide +kernel
theorem d_Lw_request_20 : decode b_Lw_request 20 = .ok (.ireturn, 1) := by decide +kernel
theorem d_Lw_request_21 : decode b_Lw_request 21 = .ok (.astore 6, 2) := by decide +kernel
theorem d_Lw_request_23 : decode b_Lw_request 23 = .ok (.iconst 2, 1) := by decide +kernel
theorem d_Lw_request_24 : decode b_Lw_request 24 = .ok (.ireturn, 1) := by decide +kernel
theorem d_Lw_request_25 : decode b_Lw_request 25 = .ok (.astore 6, 2) := by decide +kernel
theorem d_Lw_request_27 : decode b_Lw_request 27 = .ok (.iconst 3, 1) := by decide +kernel
theorem d_Lw_request_28 : decode b_Lw_request 28 = .ok (.ireturn, 1) := by decide +kernel
theorem d_Lw_request_29 : decode b_Lw_request 29 = .ok (.iconst 0, 1) := by decide +kernel
theorem d_Lw_request_30 : decode b_Lw_request 30 = .ok (.ireturn, 1) := by decide +kernel
theorem lk_Lw_request : Cond.methodLink R_Lw 26 y_AR_request ∈ lw_tbl := lt_3 (i := 113) (by set_option maxRecDepth 100000 in exact rfl)
set_option maxHeartbeats 4000000 in
set_option maxRecDepth 100000 in
theorem lh0_request {Z : cz_Z} (l : Launch) (hI : jz_I (lz_G Z)) {a1 : Int32} {a2 : Int32} {a3 : Int32} {a4 : Int32} {mc : jz_M} (mm : jz_M) (v : Int32) {r : Int32 × jz_M} (h : f_AR_request a1 a2 a3 a4 mc = some r) : lh_m l y_Lw_request cd_Lw_request rm_Lw_request (lz_G Z) [.ref (gz_ad (lz_G Z) 0), .int a1, .int a2, .int a3, .int a4, .ref (gz_ad (lz_G Z) 173)] (lm_ mc mm v) 0 (lm_ r.2 mm r.1) := by
  refine lh_met (own := R_Lw) (hh := [(0, 14, 17, 13), (0, 14, 21, 15), (0, 14, 25, 21)]) (by decide) rfl hI (Nat.le_of_ble_eq_true rfl) (fun X hX C hx hn htab ls hl => ?_)
  subst hX
  have hJ : jz_J X 7 (lz_G Z) (lh_q X (lz_G Z) 0 (lm_ r.2 mm r.1)) (lm_ mc mm v) [(0, .ref (gz_ad (lz_G Z) 0)), (1, .int a1), (2, .int a2), (3, .int a3), (4, .int a4), (5, .ref (gz_ad (lz_G Z) 173))] 0 [] := by
    refine jr_aload 0 C.1 d_Lw_request_0 rfl ?_
    refine jr_iconst 2 0 C.1 d_Lw_request_2 (by decide) ?_
    refine jr_aload_n 3 C.1 d_Lw_request_3 rfl ?_
    refine jr_iload_n 4 C.1 d_Lw_request_4 rfl ?_
    refine jr_iload_n 5 C.1 d_Lw_request_5 rfl ?_
    refine jr_iload_n 6 C.1 d_Lw_request_6 rfl ?_
    refine jr_iload 7 C.1 d_Lw_request_7 rfl ?_
    refine jr_callV 9 [.int a1, .int a2, .int a3, .int a4] C.1 d_Lw_request_9 (lf_C hI mm v (c_AR_request (xz_l X) (jz_I_sub lz_subC hI) h)) sz_AR_request tz_AR_request lk_Lw_request lo_AR rfl (by decide) rfl rfl (Nat.le_of_ble_eq_true rfl) rfl ?_
    refine jr_i2l 12 C.1 d_Lw_request_12 ?_
    refine jr_last 13 C.1 d_Lw_request_13 ?_
    refine jr_mem (lm_up _ _ _ _).symm ?_
    refine jr_goto 14 29 C.1 d_Lw_request_14 (by decide) ?_
    refine jr_iconst 29 0 C.1 d_Lw_request_29 (by decide) ?_
    exact jr_iretW 30 C.1 d_Lw_request_30 rfl
  exact hJ _ [] ls C.2 va_S.rf hl
set_option maxHeartbeats 4000000 in
set_option maxRecDepth 100000 in
theorem lh1_request {Z : cz_Z} (l : Launch) (hl0 : l.stackTraces = false) (hI : jz_I (lz_G Z)) {a1 : Int32} {a2 : Int32} {a3 : Int32} {a4 : Int32} {mc : jz_M} (mm : jz_M) (v : Int32) (h : fx_AR_checkSender a1 a2 mc = some 1) : lh_m l y_Lw_request cd_Lw_request rm_Lw_request (lz_G Z) [.ref (gz_ad (lz_G Z) 0), .int a1, .int a2, .int a3, .int a4, .ref (gz_ad (lz_G Z) 173)] (lm_ mc mm v) 1 (lm_ mc mm v) := by
  refine lh_met (own := R_Lw) (hh := [(0, 14, 17, 13), (0, 14, 21, 15), (0, 14, 25, 21)]) (by decide) rfl hI (Nat.le_of_ble_eq_true rfl) (fun X hX C hx hn htab => ?_)
  subst hX
  show jp_J X 7 (lh_q X (lz_G Z) 1 (lm_ mc mm v)) [(0, .ref (gz_ad (lz_G Z) 0)), (1, .int a1), (2, .int a2), (3, .int a3), (4, .int a4), (5, .ref (gz_ad (lz_G Z) 173))] 0 []
  refine jp_aload 0 C d_Lw_request_0 rfl ?_
  refine jp_iconst 2 0 C d_Lw_request_2 (by decide) ?_
  refine jp_aload_n 3 C d_Lw_request_3 rfl ?_
  refine jp_iload_n 4 C d_Lw_request_4 rfl ?_
  refine jp_iload_n 5 C d_Lw_request_5 rfl ?_
  refine jp_iload_n 6 C d_Lw_request_6 rfl ?_
  refine jp_iload 7 C d_Lw_request_7 rfl ?_
  refine jp_catch 9 [.int a1, .int a2, .int a3, .int a4] C d_Lw_request_9 (lf_X mm v (x1_AR_request (xz_l X) hl0 (jz_I_sub lz_subC hI) h)) sz_AR_request tz_AR_request lk_Lw_request lo_AR rfl (by decide) rfl rfl (Nat.le_of_ble_eq_true rfl) hx [] (xh_e (0, 14, 17, 13), xz_io) [xh_e (0, 14, 21, 15), xh_e (0, 14, 25, 21)] htab (fun cl hcl => ?_) (fun a H1 hsz hold ls hl => ?_)
  · have hcl : (xz_s X).vm.findClass xz_io = some cl := hcl
    obtain ⟨cc9, tt9, e9, f9, g9⟩ := Cond.castable_spec (hx.1 (.castable xz_io xz_io) (by decide +kernel) #[])
    cases hcl.symm.trans e9
    cases hcl.symm.trans f9
    exact ⟨fun q hq => absurd hq List.not_mem_nil, ⟨rfl, by decide, C.1.2.2.2.2.1 _ (gw_in (lt_2 (i := 98) (by set_option maxRecDepth 100000 in exact rfl)) (by first | rfl | simp [gw_ok, Cond.onTables, Cond.keeps, Cond.steady])), _, hcl, g9⟩⟩
  · refine lv_astore C.1.1 C.1.2.1 d_Lw_request_17 hl (by decide) rfl (fun ls2 hl2 => ?_)
    refine lv_iconst (v := 1) C.1.1 C.1.2.1 d_Lw_request_19 (by decide) ?_
    exact W.iret C.1.1 C.1.2.1 C.1.2.2.2.2.2.2.2.2.1 (fun t ht hW => ⟨rfl, ⟨by rw [ht]; exact C.2.kept (fun q x hx => hold x.1 (C.2 q x hx).lt), va_K.moved hW.alike C.1.2.2.2.2.2.1, nw_ok.warm hW C.1.2.2.2.2.2.2.2.2.2.2⟩, by rw [ht]; exact hsz, fun q h1 _ => by rw [ht]; exact hold q h1⟩) (fun _ h => by cases h) d_Lw_request_20 C.1.2.2.2.2.2.2.2.1
set_option maxHeartbeats 4000000 in
set_option maxRecDepth 100000 in
theorem lh2_request {Z : cz_Z} (l : Launch) (hl0 : l.stackTraces = false) (hI : jz_I (lz_G Z)) {a1 : Int32} {a2 : Int32} {a3 : Int32} {a4 : Int32} {mc : jz_M} (mm : jz_M) (v : Int32) (h : fx_AR_checkSender a1 a2 mc = some 2) : lh_m l y_Lw_request cd_Lw_request rm_Lw_request (lz_G Z) [.ref (gz_ad (lz_G Z) 0), .int a1, .int a2, .int a3, .int a4, .ref (gz_ad (lz_G Z) 173)] (lm_ mc mm v) 2 (lm_ mc mm v) := by
  refine lh_met (own := R_Lw) (hh := [(0, 14, 17, 13), (0, 14, 21, 15), (0, 14, 25, 21)]) (by decide) rfl hI (Nat.le_of_ble_eq_true rfl) (fun X hX C hx hn htab => ?_)
  subst hX
  show jp_J X 7 (lh_q X (lz_G Z) 2 (lm_ mc mm v)) [(0, .ref (gz_ad (lz_G Z) 0)), (1, .int a1), (2, .int a2), (3, .int a3), (4, .int a4), (5, .ref (gz_ad (lz_G Z) 173))] 0 []
  refine jp_aload 0 C d_Lw_request_0 rfl ?_
  refine jp_iconst 2 0 C d_Lw_request_2 (by decide) ?_
  refine jp_aload_n 3 C d_Lw_request_3 rfl ?_
  refine jp_iload_n 4 C d_Lw_request_4 rfl ?_
  refine jp_iload_n 5 C d_Lw_request_5 rfl ?_
  refine jp_iload_n 6 C d_Lw_request_6 rfl ?_
  refine jp_iload 7 C d_Lw_request_7 rfl ?_
  refine jp_catch 9 [.int a1, .int a2, .int a3, .int a4] C d_Lw_request_9 (lf_X mm v (x1_AR_request (xz_l X) hl0 (jz_I_sub lz_subC hI) h)) sz_AR_request tz_AR_request lk_Lw_request lo_AR rfl (by decide) rfl rfl (Nat.le_of_ble_eq_true rfl) hx [(xh_e (0, 14, 17, 13), xz_io)] (xh_e (0, 14, 21, 15), xz_is) [xh_e (0, 14, 25, 21)] htab (fun cl hcl => ?_) (fun a H1 hsz hold ls hl => ?_)
  · have hcl : (xz_s X).vm.findClass xz_is = some cl := hcl
    obtain ⟨c0, t0, e0, f0, g0⟩ := hn.1
    cases hcl.symm.trans e0
    obtain ⟨cc9, tt9, e9, f9, g9⟩ := Cond.castable_spec (hx.1 (.castable xz_is xz_is) (by decide +kernel) #[])
    cases hcl.symm.trans e9
    cases hcl.symm.trans f9
    refine ⟨fun q hq => ?_, ⟨rfl, by decide, C.1.2.2.2.2.1 _ (gw_in (lt_2 (i := 99) (by set_option maxRecDepth 100000 in exact rfl)) (by first | rfl | simp [gw_ok, Cond.onTables, Cond.keeps, Cond.steady])), _, hcl, g9⟩⟩
    simp only [List.mem_cons, List.not_mem_nil, or_false] at hq
    rcases hq with rfl
    · exact ⟨rfl, by decide, C.1.2.2.2.2.1 _ (gw_in (lt_2 (i := 98) (by set_option maxRecDepth 100000 in exact rfl)) (by first | rfl | simp [gw_ok, Cond.onTables, Cond.keeps, Cond.steady])), _, f0, g0⟩
  · refine lv_astore C.1.1 C.1.2.1 d_Lw_request_21 hl (by decide) rfl (fun ls2 hl2 => ?_)
    refine lv_iconst (v := 2) C.1.1 C.1.2.1 d_Lw_request_23 (by decide) ?_
    exact W.iret C.1.1 C.1.2.1 C.1.2.2.2.2.2.2.2.2.1 (fun t ht hW => ⟨rfl, ⟨by rw [ht]; exact C.2.kept (fun q x hx => hold x.1 (C.2 q x hx).lt), va_K.moved hW.alike C.1.2.2.2.2.2.1, nw_ok.warm hW C.1.2.2.2.2.2.2.2.2.2.2⟩, by rw [ht]; exact hsz, fun q h1 _ => by rw [ht]; exact hold q h1⟩) (fun _ h => by cases h) d_Lw_request_24 C.1.2.2.2.2.2.2.2.1
set_option maxHeartbeats 4000000 in
set_option maxRecDepth 100000 in
theorem lh3_request {Z : cz_Z} (l : Launch) (hl0 : l.stackTraces = false) (hI : jz_I (lz_G Z)) {a1 : Int32} {a2 : Int32} {a3 : Int32} {a4 : Int32} {mc : jz_M} (mm : jz_M) (v : Int32) (h0 : f_AR_checkSender a1 a2 mc = some ()) (h : fx_AR_checkLevel a1 a3 mc = some 3) : lh_m l y_Lw_request cd_Lw_request rm_Lw_request (lz_G Z) [.ref (gz_ad (lz_G Z) 0), .int a1, .int a2, .int a3, .int a4, .ref (gz_ad (lz_G Z) 173)] (lm_ mc mm v) 3 (lm_ mc mm v) := by
  refine lh_met (own := R_Lw) (hh := [(0, 14, 17, 13), (0, 14, 21, 15), (0, 14, 25, 21)]) (by decide) rfl hI (Nat.le_of_ble_eq_true rfl) (fun X hX C hx hn htab => ?_)
  subst hX
  show jp_J X 7 (lh_q X (lz_G Z) 3 (lm_ mc mm v)) [(0, .ref (gz_ad (lz_G Z) 0)), (1, .int a1), (2, .int a2), (3, .int a3), (4, .int a4), (5, .ref (gz_ad (lz_G Z) 173))] 0 []
  refine jp_aload 0 C d_Lw_request_0 rfl ?_
  refine jp_iconst 2 0 C d_Lw_request_2 (by decide) ?_
  refine jp_aload_n 3 C d_Lw_request_3 rfl ?_
  refine jp_iload_n 4 C d_Lw_request_4 rfl ?_
  refine jp_iload_n 5 C d_Lw_request_5 rfl ?_
  refine jp_iload_n 6 C d_Lw_request_6 rfl ?_
  refine jp_iload 7 C d_Lw_request_7 rfl ?_
  refine jp_catch 9 [.int a1, .int a2, .int a3, .int a4] C d_Lw_request_9 (lf_X mm v (x2_AR_request (xz_l X) hl0 (jz_I_sub lz_subC hI) h0 h)) sz_AR_request tz_AR_request lk_Lw_request lo_AR rfl (by decide) rfl rfl (Nat.le_of_ble_eq_true rfl) hx [(xh_e (0, 14, 17, 13), xz_io), (xh_e (0, 14, 21, 15), xz_is)] (xh_e (0, 14, 25, 21), xz_ia) [] htab (fun cl hcl => ?_) (fun a H1 hsz hold ls hl => ?_)
  · have hcl : (xz_s X).vm.findClass xz_ia = some cl := hcl
    obtain ⟨c0, t0, e0, f0, g0⟩ := hn.2.1
    cases hcl.symm.trans e0
    obtain ⟨c1, t1, e1, f1, g1⟩ := hn.2.2
    cases hcl.symm.trans e1
    obtain ⟨cc9, tt9, e9, f9, g9⟩ := Cond.castable_spec (hx.1 (.castable xz_ia xz_ia) (by decide +kernel) #[])
    cases hcl.symm.trans e9
    cases hcl.symm.trans f9
    refine ⟨fun q hq => ?_, ⟨rfl, by decide, C.1.2.2.2.2.1 _ (gw_in (lt_2 (i := 210) (by set_option maxRecDepth 100000 in exact rfl)) (by first | rfl | simp [gw_ok, Cond.onTables, Cond.keeps, Cond.steady])), _, hcl, g9⟩⟩
    simp only [List.mem_cons, List.not_mem_nil, or_false] at hq
    rcases hq with rfl | rfl
    · exact ⟨rfl, by decide, C.1.2.2.2.2.1 _ (gw_in (lt_2 (i := 98) (by set_option maxRecDepth 100000 in exact rfl)) (by first | rfl | simp [gw_ok, Cond.onTables, Cond.keeps, Cond.steady])), _, f0, g0⟩
    · exact ⟨rfl, by decide, C.1.2.2.2.2.1 _ (gw_in (lt_2 (i := 99) (by set_option maxRecDepth 100000 in exact rfl)) (by first | rfl | simp [gw_ok, Cond.onTables, Cond.keeps, Cond.steady])), _, f1, g1⟩
  · refine lv_astore C.1.1 C.1.2.1 d_Lw_request_25 hl (by decide) rfl (fun ls2 hl2 => ?_)
    refine lv_iconst (v := 3) C.1.1 C.1.2.1 d_Lw_request_27 (by decide) ?_
    exact W.iret C.1.1 C.1.2.1 C.1.2.2.2.2.2.2.2.2.1 (fun t ht hW => ⟨rfl, ⟨by rw [ht]; exact C.2.kept (fun q x hx => hold x.1 (C.2 q x hx).lt), va_K.moved hW.alike C.1.2.2.2.2.2.1, nw_ok.warm hW C.1.2.2.2.2.2.2.2.2.2.2⟩, by rw [ht]; exact hsz, fun q h1 _ => by rw [ht]; exact hold q h1⟩) (fun _ h => by cases h) d_Lw_request_28 C.1.2.2.2.2.2.2.2.1
abbrev b_Lw_describe : ByteArray := method_7_code
abbrev y_Lw_describe : MethodName := ⟨"AreaRoutersLaw", "describe", "(LAreaRouters;I[J)I"⟩
abbrev cd_Lw_describe : Cond := .codeWith y_Lw_describe b_Lw_describe 4 (some .int) [(0, 9, 12, 13)]
abbrev rm_Lw_describe : Room := { frames := 7, cells := 1, slots := 6, locals := 163 }
theorem d_Lw_describe_0 : decode b_Lw_describe 0 = .ok (.aload_n 2, 1) := by decide +kernel
theorem d_Lw_describe_1 : decode b_Lw_describe 1 = .ok (.iconst 0, 1) := by decide +kernel
theorem d_Lw_describe_2 : decode b_Lw_describe 2 = .ok (.aload_n 0, 1) := by decide +kernel
theorem d_Lw_describe_3 : decode b_Lw_describe 3 = .ok (.iload_n 1, 1) := by decide +kernel
theorem d_Lw_describe_4 : decode b_Lw_describe 4 = .ok (.invokevirtual 29, 3) := by decide +kernel
theorem d_Lw_describe_7 : decode b_Lw_describe 7 = .ok (.i2l, 1) := by decide +kernel
theorem d_Lw_describe_8 : decode b_Lw_describe 8 = .ok (.lastore, 1) := by decide +kernel
theorem d_Lw_describe_9 : decode b_Lw_describe 9 = .ok (.goto 6, 3) := by decide +kernel
theorem d_Lw_describe_12 : decode b_Lw_describe 12 = .ok (.astore_n 3, 1) := by decide +kernel
theorem d_Lw_describe_13 : decode b_Lw_describe 13 = .ok (.iconst 1, 1) := by decide +kernel
theorem d_Lw_describe_14 : decode b_Lw_describe 14 = .ok (.ireturn, 1) := by decide +kernel
theorem d_Lw_describe_15 : decode b_Lw_describe 15 = .ok (.iconst 0, 1) := by decide +kernel
theorem d_Lw_describe_16 : decode b_Lw_describe 16 = .ok (.ireturn, 1) := by decide +kernel
theorem lk_Lw_describe : Cond.methodLink R_Lw 29 y_AR_describe ∈ lw_tbl := lt_3 (i := 125) (by set_option maxRecDepth 100000 in exact rfl)
set_option maxHeartbeats 4000000 in
set_option maxRecDepth 100000 in
theorem lh0_describe {Z : cz_Z} (l : Launch) (hI : jz_I (lz_G Z)) {a1 : Int32} {mc : jz_M} (mm : jz_M) (v : Int32) {r : Int32 × jz_M} (h : f_AR_describe a1 mc = some r) : lh_m l y_Lw_describe cd_Lw_describe rm_Lw_describe (lz_G Z) [.ref (gz_ad (lz_G Z) 0), .int a1, .ref (gz_ad (lz_G Z) 173)] (lm_ mc mm v) 0 (lm_ r.2 mm r.1) := by
  refine lh_met (own := R_Lw) (hh := [(0, 9, 12, 13)]) (by decide) rfl hI (Nat.le_of_ble_eq_true rfl) (fun X hX C hx hn htab ls hl => ?_)
  subst hX
  have hJ : jz_J X 4 (lz_G Z) (lh_q X (lz_G Z) 0 (lm_ r.2 mm r.1)) (lm_ mc mm v) [(0, .ref (gz_ad (lz_G Z) 0)), (1, .int a1), (2, .ref (gz_ad (lz_G Z) 173))] 0 [] := by
    refine jr_aload_n 0 C.1 d_Lw_describe_0 rfl ?_
    refine jr_iconst 1 0 C.1 d_Lw_describe_1 (by decide) ?_
    refine jr_aload_n 2 C.1 d_Lw_describe_2 rfl ?_
    refine jr_iload_n 3 C.1 d_Lw_describe_3 rfl ?_
    refine jr_callV 4 [.int a1] C.1 d_Lw_describe_4 (lf_C hI mm v (c_AR_describe (xz_l X) (jz_I_sub lz_subC hI) h)) sz_AR_describe tz_AR_describe lk_Lw_describe lo_AR rfl (by decide) rfl rfl (Nat.le_of_ble_eq_true rfl) rfl ?_
    refine jr_i2l 7 C.1 d_Lw_describe_7 ?_
    refine jr_last 8 C.1 d_Lw_describe_8 ?_
    refine jr_mem (lm_up _ _ _ _).symm ?_
    refine jr_goto 9 15 C.1 d_Lw_describe_9 (by decide) ?_
    refine jr_iconst 15 0 C.1 d_Lw_describe_15 (by decide) ?_
    exact jr_iretW 16 C.1 d_Lw_describe_16 rfl
  exact hJ _ [] ls C.2 va_S.rf hl
set_option maxHeartbeats 4000000 in
set_option maxRecDepth 100000 in
theorem lh1_describe {Z : cz_Z} (l : Launch) (hl0 : l.stackTraces = false) (hI : jz_I (lz_G Z)) {a1 : Int32} {mc : jz_M} (mm : jz_M) (v : Int32) (h : fx_AR_describe a1 mc = some 1) : lh_m l y_Lw_describe cd_Lw_describe rm_Lw_describe (lz_G Z) [.ref (gz_ad (lz_G Z) 0), .int a1, .ref (gz_ad (lz_G Z) 173)] (lm_ mc mm v) 1 (lm_ mc mm v) := by
  refine lh_met (own := R_Lw) (hh := [(0, 9, 12, 13)]) (by decide) rfl hI (Nat.le_of_ble_eq_true rfl) (fun X hX C hx hn htab => ?_)
  subst hX
  show jp_J X 4 (lh_q X (lz_G Z) 1 (lm_ mc mm v)) [(0, .ref (gz_ad (lz_G Z) 0)), (1, .int a1), (2, .ref (gz_ad (lz_G Z) 173))] 0 []
  refine jp_aload_n 0 C d_Lw_describe_0 rfl ?_
  refine jp_iconst 1 0 C d_Lw_describe_1 (by decide) ?_
  refine jp_aload_n 2 C d_Lw_describe_2 rfl ?_
  refine jp_iload_n 3 C d_Lw_describe_3 rfl ?_
  refine jp_catch 4 [.int a1] C d_Lw_describe_4 (lf_X mm v (x_AR_describe (xz_l X) hl0 (jz_I_sub lz_subC hI) h)) sz_AR_describe tz_AR_describe lk_Lw_describe lo_AR rfl (by decide) rfl rfl (Nat.le_of_ble_eq_true rfl) hx [] (xh_e (0, 9, 12, 13), xz_io) [] htab (fun cl hcl => ?_) (fun a H1 hsz hold ls hl => ?_)
  · have hcl : (xz_s X).vm.findClass xz_io = some cl := hcl
    obtain ⟨cc9, tt9, e9, f9, g9⟩ := Cond.castable_spec (hx.1 (.castable xz_io xz_io) (by decide +kernel) #[])
    cases hcl.symm.trans e9
    cases hcl.symm.trans f9
    exact ⟨fun q hq => absurd hq List.not_mem_nil, ⟨rfl, by decide, C.1.2.2.2.2.1 _ (gw_in (lt_2 (i := 98) (by set_option maxRecDepth 100000 in exact rfl)) (by first | rfl | simp [gw_ok, Cond.onTables, Cond.keeps, Cond.steady])), _, hcl, g9⟩⟩
  · refine lv_astore_n C.1.1 C.1.2.1 d_Lw_describe_12 rfl hl (by decide) rfl (fun ls2 hl2 => ?_)
    refine lv_iconst (v := 1) C.1.1 C.1.2.1 d_Lw_describe_13 (by decide) ?_
    exact W.iret C.1.1 C.1.2.1 C.1.2.2.2.2.2.2.2.2.1 (fun t ht hW => ⟨rfl, ⟨by rw [ht]; exact C.2.kept (fun q x hx => hold x.1 (C.2 q x hx).lt), va_K.moved hW.alike C.1.2.2.2.2.2.1, nw_ok.warm hW C.1.2.2.2.2.2.2.2.2.2.2⟩, by rw [ht]; exact hsz, fun q h1 _ => by rw [ht]; exact hold q h1⟩) (fun _ h => by cases h) d_Lw_describe_14 C.1.2.2.2.2.2.2.2.1
