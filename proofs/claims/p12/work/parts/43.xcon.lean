/-! who throws what: the guards, and the methods that pass it on -/
def xz_cls (k : Nat) : String := if k = 1 then xz_io else if k = 2 then xz_is else xz_ia
theorem xz_tr {l : Launch} {e : Env} (hl : l.stackTraces = false) (h : l.admits e) : e.platform.stackTraces = false := by
  have h2 : e.platform.stackTraces = l.stackTraces := by rw [h.platform]
  rw [h2]; exact hl
theorem dx_AR_checkSender_14 : decode b_AR_checkSender 14 = .ok (.new 127, 3) := by decide +kernel
theorem dx_AR_checkSender_17 : decode b_AR_checkSender 17 = .ok (.dup, 1) := by decide +kernel
theorem dx_AR_checkSender_18 : decode b_AR_checkSender 18 = .ok (.ldc 174, 2) := by decide +kernel
theorem dx_AR_checkSender_20 : decode b_AR_checkSender 20 = .ok (.invokespecial 131, 3) := by decide +kernel
theorem dx_AR_checkSender_23 : decode b_AR_checkSender 23 = .ok (.athrow, 1) := by decide +kernel
theorem dx_AR_checkSender_36 : decode b_AR_checkSender 36 = .ok (.new 176, 3) := by decide +kernel
theorem dx_AR_checkSender_39 : decode b_AR_checkSender 39 = .ok (.dup, 1) := by decide +kernel
theorem dx_AR_checkSender_40 : decode b_AR_checkSender 40 = .ok (.ldc 178, 2) := by decide +kernel
theorem dx_AR_checkSender_42 : decode b_AR_checkSender 42 = .ok (.invokespecial 180, 3) := by decide +kernel
theorem dx_AR_checkSender_45 : decode b_AR_checkSender 45 = .ok (.athrow, 1) := by decide +kernel
def fx_AR_checkSender (a1 : Int32) (a2 : Int32) (m : jz_M) : Option Nat :=
  (f_AR_isRouter a1 m).bind fun v1_ =>
  if v1_ = 0 then
    some 1
  else
    (f_AR_isCircuit a2 m).bind fun v3_ =>
    if ¬ v3_ = 0 then
      (f_Wi_isAttached a1 a2 m).bind fun v5_ =>
      if ¬ v5_ = 0 then
        none
      else
        some 2
    else
      some 1
abbrev xm_AR_checkSender : Room := { frames := 6, cells := 1, slots := 6, locals := 100 }
set_option maxHeartbeats 4000000 in
set_option maxRecDepth 100000 in
theorem x_AR_checkSender {Z : cz_Z} (l : Launch) (hl : l.stackTraces = false) (hI : jz_I (cz_G Z)) {a1 : Int32} {a2 : Int32} {m : jz_M} {k : Nat} (h : fx_AR_checkSender a1 a2 m = some k) : xt_m l y_AR_checkSender cd_AR_checkSender xm_AR_checkSender (cz_G Z) [.ref (gz_ad (cz_G Z) 0), .int a1, .int a2] m (xz_cls k) := by
  refine xz_met (own := R_AR) (by decide) rfl hI (Nat.le_of_ble_eq_true rfl) (fun X hX C hx noh had => ?_)
  subst hX
  have htr := xz_tr hl had
  show jp_J X 3 _ [(0, .ref (gz_ad (cz_G Z) 0)), (1, .int a1), (2, .int a2)] 0 []
  unfold fx_AR_checkSender at h
  refine jp_iload_n 0 C d_AR_checkSender_0 rfl ?_
  obtain ⟨v1_, ev1_, h⟩ := jz_b h
  refine jp_callS 1 [.int a1] C d_AR_checkSender_1 (p_AR_isRouter (xz_l X) C.1.2.2.2.2.2.2.1  ev1_) sz_AR_isRouter tz_AR_isRouter lk_AR_51 (by decide) rfl rfl (Nat.le_of_ble_eq_true rfl) rfl ?_
  refine jp_if_eq 4 14 C d_AR_checkSender_4 (by decide) (fun c2_ => ?_) (fun c2_ => ?_)
  · have h := jz_t c2_ h
    obtain rfl := Option.some.inj h
    exact jp_throw 14 xz_io "no such router or circuit" C hx htr noh dx_AR_checkSender_14 dx_AR_checkSender_17 dx_AR_checkSender_18 dx_AR_checkSender_20 dx_AR_checkSender_23 (lt_2 (i := 108) (by set_option maxRecDepth 100000 in exact rfl)) (lt_2 (i := 109) (by set_option maxRecDepth 100000 in exact rfl)) (lt_1 (i := 11) (by set_option maxRecDepth 100000 in exact rfl)) (fun w hw => List.mem_append_left _ hw) (by decide +kernel) (by decide +kernel) (by decide)
  · have h := jz_f c2_ h
    refine jp_iload_n 7 C d_AR_checkSender_7 rfl ?_
    obtain ⟨v3_, ev3_, h⟩ := jz_b h
    refine jp_callS 8 [.int a2] C d_AR_checkSender_8 (p_AR_isCircuit (xz_l X) C.1.2.2.2.2.2.2.1  ev3_) sz_AR_isCircuit tz_AR_isCircuit lk_AR_59 (by decide) rfl rfl (Nat.le_of_ble_eq_true rfl) rfl ?_
    refine jp_if_ne 11 24 C d_AR_checkSender_11 (by decide) (fun c4_ => ?_) (fun c4_ => ?_)
    · have h := jz_t c4_ h
      refine jp_aload_n 24 C d_AR_checkSender_24 rfl ?_
      refine gp_AR_19 25 C d_AR_checkSender_25 ?_
      refine jp_iload_n 28 C d_AR_checkSender_28 rfl ?_
      refine jp_iload_n 29 C d_AR_checkSender_29 rfl ?_
      obtain ⟨v5_, ev5_, h⟩ := jz_b h
      refine jp_callVN 30 [.int a1, .int a2] C d_AR_checkSender_30 (p_Wi_isAttached (xz_l X) C.1.2.2.2.2.2.2.1  ev5_) sz_Wi_isAttached tz_Wi_isAttached lk_AR_62 oz_Wi rfl (by decide) rfl rfl (Nat.le_of_ble_eq_true rfl) rfl ?_
      refine jp_if_ne 33 46 C d_AR_checkSender_33 (by decide) (fun c6_ => ?_) (fun c6_ => ?_)
      · have h := jz_t c6_ h
        cases h
      · have h := jz_f c6_ h
        obtain rfl := Option.some.inj h
        exact jp_throw 36 xz_is "the router is not attached to the circuit" C hx htr noh dx_AR_checkSender_36 dx_AR_checkSender_39 dx_AR_checkSender_40 dx_AR_checkSender_42 dx_AR_checkSender_45 (lt_2 (i := 176) (by set_option maxRecDepth 100000 in exact rfl)) (lt_2 (i := 177) (by set_option maxRecDepth 100000 in exact rfl)) (lt_1 (i := 12) (by set_option maxRecDepth 100000 in exact rfl)) (fun w hw => List.mem_append_right _ (List.mem_append_left _ hw)) (by decide +kernel) (by decide +kernel) (by decide)
    · have h := jz_f c4_ h
      obtain rfl := Option.some.inj h
      exact jp_throw 14 xz_io "no such router or circuit" C hx htr noh dx_AR_checkSender_14 dx_AR_checkSender_17 dx_AR_checkSender_18 dx_AR_checkSender_20 dx_AR_checkSender_23 (lt_2 (i := 108) (by set_option maxRecDepth 100000 in exact rfl)) (lt_2 (i := 109) (by set_option maxRecDepth 100000 in exact rfl)) (lt_1 (i := 11) (by set_option maxRecDepth 100000 in exact rfl)) (fun w hw => List.mem_append_left _ hw) (by decide +kernel) (by decide +kernel) (by decide)
theorem dx_AR_checkLevel_9 : decode b_AR_checkLevel 9 = .ok (.new 181, 3) := by decide +kernel
theorem dx_AR_checkLevel_12 : decode b_AR_checkLevel 12 = .ok (.dup, 1) := by decide +kernel
theorem dx_AR_checkLevel_13 : decode b_AR_checkLevel 13 = .ok (.ldc 183, 2) := by decide +kernel
theorem dx_AR_checkLevel_15 : decode b_AR_checkLevel 15 = .ok (.invokespecial 185, 3) := by decide +kernel
theorem dx_AR_checkLevel_18 : decode b_AR_checkLevel 18 = .ok (.athrow, 1) := by decide +kernel
def fx_AR_checkLevel (a1 : Int32) (a2 : Int32) (m : jz_M) : Option Nat :=
  (f_AR_hasLevel a1 a2 m).bind fun v1_ =>
  if ¬ v1_ = 0 then
    none
  else
    some 3
abbrev xm_AR_checkLevel : Room := { frames := 6, cells := 1, slots := 6, locals := 100 }
set_option maxHeartbeats 4000000 in
set_option maxRecDepth 100000 in
theorem x_AR_checkLevel {Z : cz_Z} (l : Launch) (hl : l.stackTraces = false) (hI : jz_I (cz_G Z)) {a1 : Int32} {a2 : Int32} {m : jz_M} {k : Nat} (h : fx_AR_checkLevel a1 a2 m = some k) : xt_m l y_AR_checkLevel cd_AR_checkLevel xm_AR_checkLevel (cz_G Z) [.ref (gz_ad (cz_G Z) 0), .int a1, .int a2] m (xz_cls k) := by
  refine xz_met (own := R_AR) (by decide) rfl hI (Nat.le_of_ble_eq_true rfl) (fun X hX C hx noh had => ?_)
  subst hX
  have htr := xz_tr hl had
  show jp_J X 3 _ [(0, .ref (gz_ad (cz_G Z) 0)), (1, .int a1), (2, .int a2)] 0 []
  unfold fx_AR_checkLevel at h
  refine jp_aload_n 0 C d_AR_checkLevel_0 rfl ?_
  refine jp_iload_n 1 C d_AR_checkLevel_1 rfl ?_
  refine jp_iload_n 2 C d_AR_checkLevel_2 rfl ?_
  obtain ⟨v1_, ev1_, h⟩ := jz_b h
  refine jp_callV 3 [.int a1, .int a2] C d_AR_checkLevel_3 (p_AR_hasLevel (xz_l X) C.1.2.2.2.2.2.2.1  ev1_) sz_AR_hasLevel tz_AR_hasLevel lk_AR_134 oz_AR rfl (by decide) rfl rfl (Nat.le_of_ble_eq_true rfl) rfl ?_
  refine jp_if_ne 6 19 C d_AR_checkLevel_6 (by decide) (fun c2_ => ?_) (fun c2_ => ?_)
  · have h := jz_t c2_ h
    cases h
  · have h := jz_f c2_ h
    obtain rfl := Option.some.inj h
    exact jp_throw 9 xz_ia "the router has no such level" C hx htr noh dx_AR_checkLevel_9 dx_AR_checkLevel_12 dx_AR_checkLevel_13 dx_AR_checkLevel_15 dx_AR_checkLevel_18 (lt_2 (i := 219) (by set_option maxRecDepth 100000 in exact rfl)) (lt_2 (i := 220) (by set_option maxRecDepth 100000 in exact rfl)) (lt_1 (i := 13) (by set_option maxRecDepth 100000 in exact rfl)) (fun w hw => List.mem_append_right _ (List.mem_append_right _ hw)) (by decide +kernel) (by decide +kernel) (by decide)
theorem dx_AR_describe_7 : decode b_AR_describe 7 = .ok (.new 127, 3) := by decide +kernel
theorem dx_AR_describe_10 : decode b_AR_describe 10 = .ok (.dup, 1) := by decide +kernel
theorem dx_AR_describe_11 : decode b_AR_describe 11 = .ok (.ldc 129, 2) := by decide +kernel
theorem dx_AR_describe_13 : decode b_AR_describe 13 = .ok (.invokespecial 131, 3) := by decide +kernel
theorem dx_AR_describe_16 : decode b_AR_describe 16 = .ok (.athrow, 1) := by decide +kernel
def fx_AR_describe (a1 : Int32) (m : jz_M) : Option Nat :=
  (f_AR_isRouter a1 m).bind fun v1_ =>
  if ¬ v1_ = 0 then
    none
  else
    some 1
abbrev xm_AR_describe : Room := { frames := 6, cells := 1, slots := 6, locals := 100 }
set_option maxHeartbeats 4000000 in
set_option maxRecDepth 100000 in
theorem x_AR_describe {Z : cz_Z} (l : Launch) (hl : l.stackTraces = false) (hI : jz_I (cz_G Z)) {a1 : Int32} {m : jz_M} {k : Nat} (h : fx_AR_describe a1 m = some k) : xt_m l y_AR_describe cd_AR_describe xm_AR_describe (cz_G Z) [.ref (gz_ad (cz_G Z) 0), .int a1] m (xz_cls k) := by
  refine xz_met (own := R_AR) (by decide) rfl hI (Nat.le_of_ble_eq_true rfl) (fun X hX C hx noh had => ?_)
  subst hX
  have htr := xz_tr hl had
  show jp_J X 5 _ [(0, .ref (gz_ad (cz_G Z) 0)), (1, .int a1)] 0 []
  unfold fx_AR_describe at h
  refine jp_iload_n 0 C d_AR_describe_0 rfl ?_
  obtain ⟨v1_, ev1_, h⟩ := jz_b h
  refine jp_callS 1 [.int a1] C d_AR_describe_1 (p_AR_isRouter (xz_l X) C.1.2.2.2.2.2.2.1  ev1_) sz_AR_isRouter tz_AR_isRouter lk_AR_51 (by decide) rfl rfl (Nat.le_of_ble_eq_true rfl) rfl ?_
  refine jp_if_ne 4 17 C d_AR_describe_4 (by decide) (fun c2_ => ?_) (fun c2_ => ?_)
  · have h := jz_t c2_ h
    cases h
  · have h := jz_f c2_ h
    obtain rfl := Option.some.inj h
    exact jp_throw 7 xz_io "no such router" C hx htr noh dx_AR_describe_7 dx_AR_describe_10 dx_AR_describe_11 dx_AR_describe_13 dx_AR_describe_16 (lt_2 (i := 108) (by set_option maxRecDepth 100000 in exact rfl)) (lt_2 (i := 109) (by set_option maxRecDepth 100000 in exact rfl)) (lt_1 (i := 11) (by set_option maxRecDepth 100000 in exact rfl)) (fun w hw => List.mem_append_left _ hw) (by decide +kernel) (by decide +kernel) (by decide)
abbrev xm_AR_hello : Room := { frames := 7, cells := 1, slots := 6, locals := 122 }
set_option maxHeartbeats 4000000 in
set_option maxRecDepth 100000 in
theorem x1_AR_hello {Z : cz_Z} (l : Launch) (hl : l.stackTraces = false) (hI : jz_I (cz_G Z)) {a1 : Int32} {a2 : Int32} {a3 : Int32} {m : jz_M} {k : Nat} (h : fx_AR_checkSender a1 a2 m = some k) : xt_m l y_AR_hello cd_AR_hello xm_AR_hello (cz_G Z) [.ref (gz_ad (cz_G Z) 0), .int a1, .int a2, .int a3] m (xz_cls k) := by
  refine xz_met (own := R_AR) (by decide) rfl hI (Nat.le_of_ble_eq_true rfl) (fun X hX C hx noh had => ?_)
  subst hX
  show jp_J X 6 _ [(0, .ref (gz_ad (cz_G Z) 0)), (1, .int a1), (2, .int a2), (3, .int a3)] 0 []
  refine jp_aload_n 0 C d_AR_hello_0 rfl ?_
  refine jp_iload_n 1 C d_AR_hello_1 rfl ?_
  refine jp_iload_n 2 C d_AR_hello_2 rfl ?_
  exact jp_pass 3 [.int a1, .int a2] C d_AR_hello_3 (x_AR_checkSender (xz_l X) hl C.1.2.2.2.2.2.2.1 h) sz_AR_checkSender tz_AR_checkSender lk_AR_73 oz_AR rfl (by decide) rfl rfl (Nat.le_of_ble_eq_true rfl) hx noh
abbrev xm_AR_spread : Room := { frames := 7, cells := 1, slots := 6, locals := 122 }
set_option maxHeartbeats 4000000 in
set_option maxRecDepth 100000 in
theorem x1_AR_spread {Z : cz_Z} (l : Launch) (hl : l.stackTraces = false) (hI : jz_I (cz_G Z)) {a1 : Int32} {a2 : Int32} {a3 : Int32} {a4 : Int32} {m : jz_M} {k : Nat} (h : fx_AR_checkSender a1 a2 m = some k) : xt_m l y_AR_spread cd_AR_spread xm_AR_spread (cz_G Z) [.ref (gz_ad (cz_G Z) 0), .int a1, .int a2, .int a3, .int a4] m (xz_cls k) := by
  refine xz_met (own := R_AR) (by decide) rfl hI (Nat.le_of_ble_eq_true rfl) (fun X hX C hx noh had => ?_)
  subst hX
  show jp_J X 9 _ [(0, .ref (gz_ad (cz_G Z) 0)), (1, .int a1), (2, .int a2), (3, .int a3), (4, .int a4)] 0 []
  refine jp_aload_n 0 C d_AR_spread_0 rfl ?_
  refine jp_iload_n 1 C d_AR_spread_1 rfl ?_
  refine jp_iload_n 2 C d_AR_spread_2 rfl ?_
  exact jp_pass 3 [.int a1, .int a2] C d_AR_spread_3 (x_AR_checkSender (xz_l X) hl C.1.2.2.2.2.2.2.1 h) sz_AR_checkSender tz_AR_checkSender lk_AR_73 oz_AR rfl (by decide) rfl rfl (Nat.le_of_ble_eq_true rfl) hx noh
set_option maxHeartbeats 4000000 in
set_option maxRecDepth 100000 in
theorem x2_AR_spread {Z : cz_Z} (l : Launch) (hl : l.stackTraces = false) (hI : jz_I (cz_G Z)) {a1 : Int32} {a2 : Int32} {a3 : Int32} {a4 : Int32} {m : jz_M} {k : Nat} (h0 : f_AR_checkSender a1 a2 m = some ()) (h : fx_AR_checkLevel a1 a3 m = some k) : xt_m l y_AR_spread cd_AR_spread xm_AR_spread (cz_G Z) [.ref (gz_ad (cz_G Z) 0), .int a1, .int a2, .int a3, .int a4] m (xz_cls k) := by
  refine xz_met (own := R_AR) (by decide) rfl hI (Nat.le_of_ble_eq_true rfl) (fun X hX C hx noh had => ?_)
  subst hX
  show jp_J X 9 _ [(0, .ref (gz_ad (cz_G Z) 0)), (1, .int a1), (2, .int a2), (3, .int a3), (4, .int a4)] 0 []
  refine jp_aload_n 0 C d_AR_spread_0 rfl ?_
  refine jp_iload_n 1 C d_AR_spread_1 rfl ?_
  refine jp_iload_n 2 C d_AR_spread_2 rfl ?_
  refine jp_callV 3 [.int a1, .int a2] C d_AR_spread_3 (p_AR_checkSender (xz_l X) C.1.2.2.2.2.2.2.1 h0) sz_AR_checkSender tz_AR_checkSender lk_AR_73 oz_AR rfl (by decide) rfl rfl (Nat.le_of_ble_eq_true rfl) rfl ?_
  refine jp_aload_n 6 C d_AR_spread_6 rfl ?_
  refine jp_iload_n 7 C d_AR_spread_7 rfl ?_
  refine jp_iload_n 8 C d_AR_spread_8 rfl ?_
  exact jp_pass 9 [.int a1, .int a3] C d_AR_spread_9 (x_AR_checkLevel (xz_l X) hl C.1.2.2.2.2.2.2.1 h) sz_AR_checkLevel tz_AR_checkLevel lk_AR_84 oz_AR rfl (by decide) rfl rfl (Nat.le_of_ble_eq_true rfl) hx noh
abbrev xm_AR_summary : Room := { frames := 7, cells := 1, slots := 6, locals := 122 }
set_option maxHeartbeats 4000000 in
set_option maxRecDepth 100000 in
theorem x1_AR_summary {Z : cz_Z} (l : Launch) (hl : l.stackTraces = false) (hI : jz_I (cz_G Z)) {a1 : Int32} {a2 : Int32} {a3 : Int32} {a4 : Int32} {m : jz_M} {k : Nat} (h : fx_AR_checkSender a1 a2 m = some k) : xt_m l y_AR_summary cd_AR_summary xm_AR_summary (cz_G Z) [.ref (gz_ad (cz_G Z) 0), .int a1, .int a2, .int a3, .int a4] m (xz_cls k) := by
  refine xz_met (own := R_AR) (by decide) rfl hI (Nat.le_of_ble_eq_true rfl) (fun X hX C hx noh had => ?_)
  subst hX
  show jp_J X 7 _ [(0, .ref (gz_ad (cz_G Z) 0)), (1, .int a1), (2, .int a2), (3, .int a3), (4, .int a4)] 0 []
  refine jp_aload_n 0 C d_AR_summary_0 rfl ?_
  refine jp_iload_n 1 C d_AR_summary_1 rfl ?_
  refine jp_iload_n 2 C d_AR_summary_2 rfl ?_
  exact jp_pass 3 [.int a1, .int a2] C d_AR_summary_3 (x_AR_checkSender (xz_l X) hl C.1.2.2.2.2.2.2.1 h) sz_AR_checkSender tz_AR_checkSender lk_AR_73 oz_AR rfl (by decide) rfl rfl (Nat.le_of_ble_eq_true rfl) hx noh
set_option maxHeartbeats 4000000 in
set_option maxRecDepth 100000 in
theorem x2_AR_summary {Z : cz_Z} (l : Launch) (hl : l.stackTraces = false) (hI : jz_I (cz_G Z)) {a1 : Int32} {a2 : Int32} {a3 : Int32} {a4 : Int32} {m : jz_M} {k : Nat} (h0 : f_AR_checkSender a1 a2 m = some ()) (h : fx_AR_checkLevel a1 a3 m = some k) : xt_m l y_AR_summary cd_AR_summary xm_AR_summary (cz_G Z) [.ref (gz_ad (cz_G Z) 0), .int a1, .int a2, .int a3, .int a4] m (xz_cls k) := by
  refine xz_met (own := R_AR) (by decide) rfl hI (Nat.le_of_ble_eq_true rfl) (fun X hX C hx noh had => ?_)
  subst hX
  show jp_J X 7 _ [(0, .ref (gz_ad (cz_G Z) 0)), (1, .int a1), (2, .int a2), (3, .int a3), (4, .int a4)] 0 []
  refine jp_aload_n 0 C d_AR_summary_0 rfl ?_
  refine jp_iload_n 1 C d_AR_summary_1 rfl ?_
  refine jp_iload_n 2 C d_AR_summary_2 rfl ?_
  refine jp_callV 3 [.int a1, .int a2] C d_AR_summary_3 (p_AR_checkSender (xz_l X) C.1.2.2.2.2.2.2.1 h0) sz_AR_checkSender tz_AR_checkSender lk_AR_73 oz_AR rfl (by decide) rfl rfl (Nat.le_of_ble_eq_true rfl) rfl ?_
  refine jp_aload_n 6 C d_AR_summary_6 rfl ?_
  refine jp_iload_n 7 C d_AR_summary_7 rfl ?_
  refine jp_iload_n 8 C d_AR_summary_8 rfl ?_
  exact jp_pass 9 [.int a1, .int a3] C d_AR_summary_9 (x_AR_checkLevel (xz_l X) hl C.1.2.2.2.2.2.2.1 h) sz_AR_checkLevel tz_AR_checkLevel lk_AR_84 oz_AR rfl (by decide) rfl rfl (Nat.le_of_ble_eq_true rfl) hx noh
abbrev xm_AR_request : Room := { frames := 7, cells := 1, slots := 6, locals := 122 }
set_option maxHeartbeats 4000000 in
set_option maxRecDepth 100000 in
theorem x1_AR_request {Z : cz_Z} (l : Launch) (hl : l.stackTraces = false) (hI : jz_I (cz_G Z)) {a1 : Int32} {a2 : Int32} {a3 : Int32} {a4 : Int32} {m : jz_M} {k : Nat} (h : fx_AR_checkSender a1 a2 m = some k) : xt_m l y_AR_request cd_AR_request xm_AR_request (cz_G Z) [.ref (gz_ad (cz_G Z) 0), .int a1, .int a2, .int a3, .int a4] m (xz_cls k) := by
  refine xz_met (own := R_AR) (by decide) rfl hI (Nat.le_of_ble_eq_true rfl) (fun X hX C hx noh had => ?_)
  subst hX
  show jp_J X 9 _ [(0, .ref (gz_ad (cz_G Z) 0)), (1, .int a1), (2, .int a2), (3, .int a3), (4, .int a4)] 0 []
  refine jp_aload_n 0 C d_AR_request_0 rfl ?_
  refine jp_iload_n 1 C d_AR_request_1 rfl ?_
  refine jp_iload_n 2 C d_AR_request_2 rfl ?_
  exact jp_pass 3 [.int a1, .int a2] C d_AR_request_3 (x_AR_checkSender (xz_l X) hl C.1.2.2.2.2.2.2.1 h) sz_AR_checkSender tz_AR_checkSender lk_AR_73 oz_AR rfl (by decide) rfl rfl (Nat.le_of_ble_eq_true rfl) hx noh
set_option maxHeartbeats 4000000 in
set_option maxRecDepth 100000 in
theorem x2_AR_request {Z : cz_Z} (l : Launch) (hl : l.stackTraces = false) (hI : jz_I (cz_G Z)) {a1 : Int32} {a2 : Int32} {a3 : Int32} {a4 : Int32} {m : jz_M} {k : Nat} (h0 : f_AR_checkSender a1 a2 m = some ()) (h : fx_AR_checkLevel a1 a3 m = some k) : xt_m l y_AR_request cd_AR_request xm_AR_request (cz_G Z) [.ref (gz_ad (cz_G Z) 0), .int a1, .int a2, .int a3, .int a4] m (xz_cls k) := by
  refine xz_met (own := R_AR) (by decide) rfl hI (Nat.le_of_ble_eq_true rfl) (fun X hX C hx noh had => ?_)
  subst hX
  show jp_J X 9 _ [(0, .ref (gz_ad (cz_G Z) 0)), (1, .int a1), (2, .int a2), (3, .int a3), (4, .int a4)] 0 []
  refine jp_aload_n 0 C d_AR_request_0 rfl ?_
  refine jp_iload_n 1 C d_AR_request_1 rfl ?_
  refine jp_iload_n 2 C d_AR_request_2 rfl ?_
  refine jp_callV 3 [.int a1, .int a2] C d_AR_request_3 (p_AR_checkSender (xz_l X) C.1.2.2.2.2.2.2.1 h0) sz_AR_checkSender tz_AR_checkSender lk_AR_73 oz_AR rfl (by decide) rfl rfl (Nat.le_of_ble_eq_true rfl) rfl ?_
  refine jp_aload_n 6 C d_AR_request_6 rfl ?_
  refine jp_iload_n 7 C d_AR_request_7 rfl ?_
  refine jp_iload_n 8 C d_AR_request_8 rfl ?_
  exact jp_pass 9 [.int a1, .int a3] C d_AR_request_9 (x_AR_checkLevel (xz_l X) hl C.1.2.2.2.2.2.2.1 h) sz_AR_checkLevel tz_AR_checkLevel lk_AR_84 oz_AR rfl (by decide) rfl rfl (Nat.le_of_ble_eq_true rfl) hx noh
