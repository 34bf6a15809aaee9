/-! the law's cases -/
set_option maxHeartbeats 4000000 in
set_option maxRecDepth 100000 in
theorem lc_place {X : jz_X} {Z : cz_Z} {b L : Nat} {xs : Nat → Int32} {Q : State → Prop} (C : jz_C X 7 code R_Lw (some .boolean) room_1 (lz_G Z)) (hX : jl_S X (lz_G Z) b L xs) (hI : jz_I (lz_G Z)) (hx : xz_ok (xz_s X)) (hxn : xn_ok (xz_s X)) (hl0 : (xz_l X).stackTraces = false) {I : Nat → jz_M → jz_M → Prop} (hs : sp_place I) {c : Nat} {mc mm : jz_M} {v x4 : Int32} (hc : c < 512) (hInv : I c mc mm) (hx4 : x4 = nI (5 * c)) (hL : 5 * c + 5 ≤ L) (hL2 : L ≤ 2560) (kend : ∀ (mc2 mm2 : jz_M) (v2 : Int32), I (c + 1) mc2 mm2 → jl_J X 7 (lz_G Z) (174 + (c + 1)) (21461 + 6 * (c + 1)) Q (lm_ mc2 mm2 v2) [(0, .ref b), (1, .ref (gz_ad (lz_G Z) 0)), (2, .ref (gz_ad (lz_G Z) 152)), (3, .ref (gz_ad (lz_G Z) 173)), (4, .int x4)] 935 []) : jl_J X 7 (lz_G Z) (174 + c) (21461 + 6 * c) Q (lm_ mc mm v) [(0, .ref b), (1, .ref (gz_ad (lz_G Z) 0)), (2, .ref (gz_ad (lz_G Z) 152)), (3, .ref (gz_ad (lz_G Z) 173)), (4, .int x4)] 108 [] := by
  have hcs : 174 + c ≤ room_1.cells ∧ 21461 + 6 * c ≤ room_1.slots := ⟨by show 174 + c ≤ 601024; omega, by show 21461 + 6 * c ≤ 7293034; omega⟩
  obtain ⟨r, q, h1, h2, hr, hi⟩ := hs c mc mm hc hInv (xs (5 * c + 1)) (xs (5 * c + 2)) (xs (5 * c + 3))
  refine jl_aload_n 108 C dl_108 rfl ?_
  refine jl_aload_n 109 C dl_109 rfl ?_
  refine jl_iload 110 C dl_110 rfl ?_
  refine jl_iconst 112 1 C dl_112 (by decide) ?_
  refine jl_iadd 113 C dl_113 ?_
  refine jl_sld 114 C dl_114 hX (ll_in hx4 (j := 1) rfl (by omega) hL2) ?_
  refine jl_top (ll_at hx4 (j := 1) rfl (by omega) hL2) ?_
  refine jl_aload_n 115 C dl_115 rfl ?_
  refine jl_iload 116 C dl_116 rfl ?_
  refine jl_iconst 118 2 C dl_118 (by decide) ?_
  refine jl_iadd 119 C dl_119 ?_
  refine jl_sld 120 C dl_120 hX (ll_in hx4 (j := 2) rfl (by omega) hL2) ?_
  refine jl_top (ll_at hx4 (j := 2) rfl (by omega) hL2) ?_
  refine jl_aload_n 121 C dl_121 rfl ?_
  refine jl_iload 122 C dl_122 rfl ?_
  refine jl_iconst 124 3 C dl_124 (by decide) ?_
  refine jl_iadd 125 C dl_125 ?_
  refine jl_sld 126 C dl_126 hX (ll_in hx4 (j := 3) rfl (by omega) hL2) ?_
  refine jl_top (ll_at hx4 (j := 3) rfl (by omega) hL2) ?_
  refine jl_callV 127 [.int (xs (5 * c + 1)), .int (xs (5 * c + 2)), .int (xs (5 * c + 3))] C dl_127 (lf_C hI mm v (c_AR_place (xz_l X) (jz_I_sub lz_subC hI) h1)) sz_AR_place tz_AR_place ll_37 lo_AR rfl (by decide) rfl rfl hcs (Nat.le_of_ble_eq_true rfl) rfl ?_
  refine jl_aload_n 130 C dl_130 rfl ?_
  refine jl_aload_n 131 C dl_131 rfl ?_
  refine jl_iload 132 C dl_132 rfl ?_
  refine jl_iconst 134 1 C dl_134 (by decide) ?_
  refine jl_iadd 135 C dl_135 ?_
  refine jl_sld 136 C dl_136 hX (ll_in hx4 (j := 1) rfl (by omega) hL2) ?_
  refine jl_top (ll_at hx4 (j := 1) rfl (by omega) hL2) ?_
  refine jl_aload_n 137 C dl_137 rfl ?_
  refine jl_iload 138 C dl_138 rfl ?_
  refine jl_iconst 140 2 C dl_140 (by decide) ?_
  refine jl_iadd 141 C dl_141 ?_
  refine jl_sld 142 C dl_142 hX (ll_in hx4 (j := 2) rfl (by omega) hL2) ?_
  refine jl_top (ll_at hx4 (j := 2) rfl (by omega) hL2) ?_
  refine jl_aload_n 143 C dl_143 rfl ?_
  refine jl_iload 144 C dl_144 rfl ?_
  refine jl_iconst 146 3 C dl_146 (by decide) ?_
  refine jl_iadd 147 C dl_147 ?_
  refine jl_sld 148 C dl_148 hX (ll_in hx4 (j := 3) rfl (by omega) hL2) ?_
  refine jl_top (ll_at hx4 (j := 3) rfl (by omega) hL2) ?_
  refine jl_callV 149 [.int (xs (5 * c + 1)), .int (xs (5 * c + 2)), .int (xs (5 * c + 3))] C dl_149 (lf_M hI r.2 v (c_Mo_place (xz_l X) (jz_I_sub lz_subM hI) h2)) sz_Mo_place tz_Mo_place ll_41 lo_Mo rfl (by decide) rfl rfl hcs (Nat.le_of_ble_eq_true rfl) rfl ?_
  refine jl_icmp_eq 152 935 C dl_152 (by decide) (fun _ => ?_) (fun qq => absurd hr qq)
  refine jl_sub [0, 1, 2, 3, 4] rfl ?_
  exact jl_widen (by omega) (by omega) (kend _ _ _ hi)
set_option maxHeartbeats 4000000 in
set_option maxRecDepth 100000 in
theorem lc_attach {X : jz_X} {Z : cz_Z} {b L : Nat} {xs : Nat → Int32} {Q : State → Prop} (C : jz_C X 7 code R_Lw (some .boolean) room_1 (lz_G Z)) (hX : jl_S X (lz_G Z) b L xs) (hI : jz_I (lz_G Z)) (hx : xz_ok (xz_s X)) (hxn : xn_ok (xz_s X)) (hl0 : (xz_l X).stackTraces = false) {I : Nat → jz_M → jz_M → Prop} (hs : sp_attach I) {c : Nat} {mc mm : jz_M} {v x4 : Int32} (hc : c < 512) (hInv : I c mc mm) (hx4 : x4 = nI (5 * c)) (hL : 5 * c + 5 ≤ L) (hL2 : L ≤ 2560) (kend : ∀ (mc2 mm2 : jz_M) (v2 : Int32), I (c + 1) mc2 mm2 → jl_J X 7 (lz_G Z) (174 + (c + 1)) (21461 + 6 * (c + 1)) Q (lm_ mc2 mm2 v2) [(0, .ref b), (1, .ref (gz_ad (lz_G Z) 0)), (2, .ref (gz_ad (lz_G Z) 152)), (3, .ref (gz_ad (lz_G Z) 173)), (4, .int x4)] 935 []) : jl_J X 7 (lz_G Z) (174 + c) (21461 + 6 * c) Q (lm_ mc mm v) [(0, .ref b), (1, .ref (gz_ad (lz_G Z) 0)), (2, .ref (gz_ad (lz_G Z) 152)), (3, .ref (gz_ad (lz_G Z) 173)), (4, .int x4)] 157 [] := by
  have hcs : 174 + c ≤ room_1.cells ∧ 21461 + 6 * c ≤ room_1.slots := ⟨by show 174 + c ≤ 601024; omega, by show 21461 + 6 * c ≤ 7293034; omega⟩
  obtain ⟨r, q, h1, h2, hr, hi⟩ := hs c mc mm hc hInv (xs (5 * c + 1)) (xs (5 * c + 2)) (xs (5 * c + 3)) (xs (5 * c + 4))
  refine jl_aload_n 157 C dl_157 rfl ?_
  refine jl_aload_n 158 C dl_158 rfl ?_
  refine jl_iload 159 C dl_159 rfl ?_
  refine jl_iconst 161 1 C dl_161 (by decide) ?_
  refine jl_iadd 162 C dl_162 ?_
  refine jl_sld 163 C dl_163 hX (ll_in hx4 (j := 1) rfl (by omega) hL2) ?_
  refine jl_top (ll_at hx4 (j := 1) rfl (by omega) hL2) ?_
  refine jl_aload_n 164 C dl_164 rfl ?_
  refine jl_iload 165 C dl_165 rfl ?_
  refine jl_iconst 167 2 C dl_167 (by decide) ?_
  refine jl_iadd 168 C dl_168 ?_
  refine jl_sld 169 C dl_169 hX (ll_in hx4 (j := 2) rfl (by omega) hL2) ?_
  refine jl_top (ll_at hx4 (j := 2) rfl (by omega) hL2) ?_
  refine jl_aload_n 170 C dl_170 rfl ?_
  refine jl_iload 171 C dl_171 rfl ?_
  refine jl_iconst 173 3 C dl_173 (by decide) ?_
  refine jl_iadd 174 C dl_174 ?_
  refine jl_sld 175 C dl_175 hX (ll_in hx4 (j := 3) rfl (by omega) hL2) ?_
  refine jl_top (ll_at hx4 (j := 3) rfl (by omega) hL2) ?_
  refine jl_aload_n 176 C dl_176 rfl ?_
  refine jl_iload 177 C dl_177 rfl ?_
  refine jl_iconst 179 4 C dl_179 (by decide) ?_
  refine jl_iadd 180 C dl_180 ?_
  refine jl_sld 181 C dl_181 hX (ll_in hx4 (j := 4) rfl (by omega) hL2) ?_
  refine jl_top (ll_at hx4 (j := 4) rfl (by omega) hL2) ?_
  refine jl_callV 182 [.int (xs (5 * c + 1)), .int (xs (5 * c + 2)), .int (xs (5 * c + 3)), .int (xs (5 * c + 4))] C dl_182 (lf_C hI mm v (c_AR_attach (xz_l X) (jz_I_sub lz_subC hI) h1)) sz_AR_attach tz_AR_attach ll_42 lo_AR rfl (by decide) rfl rfl hcs (Nat.le_of_ble_eq_true rfl) rfl ?_
  refine jl_aload_n 185 C dl_185 rfl ?_
  refine jl_aload_n 186 C dl_186 rfl ?_
  refine jl_iload 187 C dl_187 rfl ?_
  refine jl_iconst 189 1 C dl_189 (by decide) ?_
  refine jl_iadd 190 C dl_190 ?_
  refine jl_sld 191 C dl_191 hX (ll_in hx4 (j := 1) rfl (by omega) hL2) ?_
  refine jl_top (ll_at hx4 (j := 1) rfl (by omega) hL2) ?_
  refine jl_aload_n 192 C dl_192 rfl ?_
  refine jl_iload 193 C dl_193 rfl ?_
  refine jl_iconst 195 2 C dl_195 (by decide) ?_
  refine jl_iadd 196 C dl_196 ?_
  refine jl_sld 197 C dl_197 hX (ll_in hx4 (j := 2) rfl (by omega) hL2) ?_
  refine jl_top (ll_at hx4 (j := 2) rfl (by omega) hL2) ?_
  refine jl_aload_n 198 C dl_198 rfl ?_
  refine jl_iload 199 C dl_199 rfl ?_
  refine jl_iconst 201 3 C dl_201 (by decide) ?_
  refine jl_iadd 202 C dl_202 ?_
  refine jl_sld 203 C dl_203 hX (ll_in hx4 (j := 3) rfl (by omega) hL2) ?_
  refine jl_top (ll_at hx4 (j := 3) rfl (by omega) hL2) ?_
  refine jl_aload_n 204 C dl_204 rfl ?_
  refine jl_iload 205 C dl_205 rfl ?_
  refine jl_iconst 207 4 C dl_207 (by decide) ?_
  refine jl_iadd 208 C dl_208 ?_
  refine jl_sld 209 C dl_209 hX (ll_in hx4 (j := 4) rfl (by omega) hL2) ?_
  refine jl_top (ll_at hx4 (j := 4) rfl (by omega) hL2) ?_
  refine jl_callV 210 [.int (xs (5 * c + 1)), .int (xs (5 * c + 2)), .int (xs (5 * c + 3)), .int (xs (5 * c + 4))] C dl_210 (lf_M hI r.2 v (c_Mo_attach (xz_l X) (jz_I_sub lz_subM hI) h2)) sz_Mo_attach tz_Mo_attach ll_46 lo_Mo rfl (by decide) rfl rfl hcs (Nat.le_of_ble_eq_true rfl) rfl ?_
  refine jl_icmp_eq 213 935 C dl_213 (by decide) (fun _ => ?_) (fun qq => absurd hr qq)
  refine jl_sub [0, 1, 2, 3, 4] rfl ?_
  exact jl_widen (by omega) (by omega) (kend _ _ _ hi)
set_option maxHeartbeats 4000000 in
set_option maxRecDepth 100000 in
theorem lc_hello {X : jz_X} {Z : cz_Z} {b L : Nat} {xs : Nat → Int32} {Q : State → Prop} (C : jz_C X 7 code R_Lw (some .boolean) room_1 (lz_G Z)) (hX : jl_S X (lz_G Z) b L xs) (hI : jz_I (lz_G Z)) (hx : xz_ok (xz_s X)) (hxn : xn_ok (xz_s X)) (hl0 : (xz_l X).stackTraces = false) {I : Nat → jz_M → jz_M → Prop} (hs : sp_hello I) {c : Nat} {mc mm : jz_M} {v x4 : Int32} (hc : c < 512) (hInv : I c mc mm) (hx4 : x4 = nI (5 * c)) (hL : 5 * c + 5 ≤ L) (hL2 : L ≤ 2560) (kend : ∀ (mc2 mm2 : jz_M) (v2 : Int32), I (c + 1) mc2 mm2 → jl_J X 7 (lz_G Z) (174 + (c + 1)) (21461 + 6 * (c + 1)) Q (lm_ mc2 mm2 v2) [(0, .ref b), (1, .ref (gz_ad (lz_G Z) 0)), (2, .ref (gz_ad (lz_G Z) 152)), (3, .ref (gz_ad (lz_G Z) 173)), (4, .int x4)] 935 []) : jl_J X 7 (lz_G Z) (174 + c) (21461 + 6 * c) Q (lm_ mc mm v) [(0, .ref b), (1, .ref (gz_ad (lz_G Z) 0)), (2, .ref (gz_ad (lz_G Z) 152)), (3, .ref (gz_ad (lz_G Z) 173)), (4, .int x4)] 218 [] := by
  have hcs : 174 + c ≤ room_1.cells ∧ 21461 + 6 * c ≤ room_1.slots := ⟨by show 174 + c ≤ 601024; omega, by show 21461 + 6 * c ≤ 7293034; omega⟩
  obtain ⟨q, h2, hq⟩ := hs c mc mm hc hInv (xs (5 * c + 1)) (xs (5 * c + 2)) (xs (5 * c + 3))
  rcases hq with ⟨r, h1, ht, hr, hi⟩ | ⟨h1, ht, hi⟩ | ⟨h1, ht, hi⟩
  · skip
    refine jl_aload_n 218 C dl_218 rfl ?_
    refine jl_aload_n 219 C dl_219 rfl ?_
    refine jl_iload 220 C dl_220 rfl ?_
    refine jl_iconst 222 1 C dl_222 (by decide) ?_
    refine jl_iadd 223 C dl_223 ?_
    refine jl_sld 224 C dl_224 hX (ll_in hx4 (j := 1) rfl (by omega) hL2) ?_
    refine jl_top (ll_at hx4 (j := 1) rfl (by omega) hL2) ?_
    refine jl_aload_n 225 C dl_225 rfl ?_
    refine jl_iload 226 C dl_226 rfl ?_
    refine jl_iconst 228 2 C dl_228 (by decide) ?_
    refine jl_iadd 229 C dl_229 ?_
    refine jl_sld 230 C dl_230 hX (ll_in hx4 (j := 2) rfl (by omega) hL2) ?_
    refine jl_top (ll_at hx4 (j := 2) rfl (by omega) hL2) ?_
    refine jl_aload_n 231 C dl_231 rfl ?_
    refine jl_iload 232 C dl_232 rfl ?_
    refine jl_iconst 234 3 C dl_234 (by decide) ?_
    refine jl_iadd 235 C dl_235 ?_
    refine jl_sld 236 C dl_236 hX (ll_in hx4 (j := 3) rfl (by omega) hL2) ?_
    refine jl_top (ll_at hx4 (j := 3) rfl (by omega) hL2) ?_
    refine jl_aload_n 237 C dl_237 rfl ?_
    refine jl_callH 238 [.ref (gz_ad (lz_G Z) 0), .int (xs (5 * c + 1)), .int (xs (5 * c + 2)), .int (xs (5 * c + 3)), .ref (gz_ad (lz_G Z) 173)] C dl_238 (lh0_hello (xz_l X) hI mm v h1) (lt_2 (i := 97) (by set_option maxRecDepth 100000 in exact rfl)) (lt_1 (i := 0) (by set_option maxRecDepth 100000 in exact rfl)) (lt_2 (i := 96) (by set_option maxRecDepth 100000 in exact rfl)) ll_47 (by decide) (n := 5) (by decide +kernel) (by decide) ⟨rfl, rfl⟩ ⟨by show 174 + c + 1 ≤ 601024; omega, by show 21461 + 6 * c + 6 ≤ 7293034; omega⟩ rfl rfl (Nat.le_of_ble_eq_true rfl) hx hxn hX.2.2 ?_
    refine jl_istore 241 [(0, .ref b), (1, .ref (gz_ad (lz_G Z) 0)), (2, .ref (gz_ad (lz_G Z) 152)), (3, .ref (gz_ad (lz_G Z) 173)), (4, .int x4), (5, .int 0)] C dl_241 rfl (by decide) rfl ?_
    refine jl_aload_n 243 C dl_243 rfl ?_
    refine jl_aload_n 244 C dl_244 rfl ?_
    refine jl_iload 245 C dl_245 rfl ?_
    refine jl_iconst 247 1 C dl_247 (by decide) ?_
    refine jl_iadd 248 C dl_248 ?_
    refine jl_sld 249 C dl_249 hX (ll_in hx4 (j := 1) rfl (by omega) hL2) ?_
    refine jl_top (ll_at hx4 (j := 1) rfl (by omega) hL2) ?_
    refine jl_aload_n 250 C dl_250 rfl ?_
    refine jl_iload 251 C dl_251 rfl ?_
    refine jl_iconst 253 2 C dl_253 (by decide) ?_
    refine jl_iadd 254 C dl_254 ?_
    refine jl_sld 255 C dl_255 hX (ll_in hx4 (j := 2) rfl (by omega) hL2) ?_
    refine jl_top (ll_at hx4 (j := 2) rfl (by omega) hL2) ?_
    refine jl_aload_n 256 C dl_256 rfl ?_
    refine jl_iload 257 C dl_257 rfl ?_
    refine jl_iconst 259 3 C dl_259 (by decide) ?_
    refine jl_iadd 260 C dl_260 ?_
    refine jl_sld 261 C dl_261 hX (ll_in hx4 (j := 3) rfl (by omega) hL2) ?_
    refine jl_top (ll_at hx4 (j := 3) rfl (by omega) hL2) ?_
    refine jl_callV 262 [.int (xs (5 * c + 1)), .int (xs (5 * c + 2)), .int (xs (5 * c + 3))] C dl_262 (lf_M hI r.2 r.1 (c_Mo_hello (xz_l X) (jz_I_sub lz_subM hI) h2)) sz_Mo_hello tz_Mo_hello ll_52 lo_Mo rfl (by decide) rfl rfl ⟨by show 174 + c + 1 ≤ 601024; omega, by show 21461 + 6 * c + 6 ≤ 7293034; omega⟩ (Nat.le_of_ble_eq_true rfl) rfl ?_
    refine jl_istore 265 [(0, .ref b), (1, .ref (gz_ad (lz_G Z) 0)), (2, .ref (gz_ad (lz_G Z) 152)), (3, .ref (gz_ad (lz_G Z) 173)), (4, .int x4), (5, .int 0), (6, .int q.1)] C dl_265 rfl (by decide) rfl ?_
    refine jl_aload_n 267 C dl_267 rfl ?_
    refine jl_callV 268 [] C dl_268 (lf_M hI r.2 r.1 (c_Mo_thrown (xz_l X) (jz_I_sub lz_subM hI) (r := q.2 0 0) rfl)) sz_Mo_thrown tz_Mo_thrown ll_53 lo_Mo rfl (by decide) rfl rfl ⟨by show 174 + c + 1 ≤ 601024; omega, by show 21461 + 6 * c + 6 ≤ 7293034; omega⟩ (Nat.le_of_ble_eq_true rfl) rfl ?_
    refine jl_iload 271 C dl_271 rfl ?_
    refine jl_icmp_eq 273 278 C dl_273 (by decide) (fun _ => ?_) (fun qq => absurd (by rw [ht]) qq)
    refine jl_iload 278 C dl_278 rfl ?_
    refine jl_if_ne 280 295 C dl_280 (by decide) (fun qq => absurd rfl qq) (fun _ => ?_)
    refine jl_aload_n 283 C dl_283 rfl ?_
    refine jl_iconst 284 0 C dl_284 (by decide) ?_
    refine jl_lald 285 C dl_285 ?_
    refine jl_iload 286 C dl_286 rfl ?_
    refine jl_i2l 288 C dl_288 ?_
    refine jl_lcmp 289 C dl_289 (by rw [hr]) ?_
    refine jl_if_eq 290 295 C dl_290 (by decide) (fun _ => ?_) (fun qq => absurd rfl qq)
    refine jl_goto 295 935 C dl_295 (by decide) ?_
    refine jl_sub [0, 1, 2, 3, 4] rfl ?_
    exact jl_widen (by omega) (by omega) (kend _ _ _ hi)
  · skip
    refine jl_aload_n 218 C dl_218 rfl ?_
    refine jl_aload_n 219 C dl_219 rfl ?_
    refine jl_iload 220 C dl_220 rfl ?_
    refine jl_iconst 222 1 C dl_222 (by decide) ?_
    refine jl_iadd 223 C dl_223 ?_
    refine jl_sld 224 C dl_224 hX (ll_in hx4 (j := 1) rfl (by omega) hL2) ?_
    refine jl_top (ll_at hx4 (j := 1) rfl (by omega) hL2) ?_
    refine jl_aload_n 225 C dl_225 rfl ?_
    refine jl_iload 226 C dl_226 rfl ?_
    refine jl_iconst 228 2 C dl_228 (by decide) ?_
    refine jl_iadd 229 C dl_229 ?_
    refine jl_sld 230 C dl_230 hX (ll_in hx4 (j := 2) rfl (by omega) hL2) ?_
    refine jl_top (ll_at hx4 (j := 2) rfl (by omega) hL2) ?_
    refine jl_aload_n 231 C dl_231 rfl ?_
    refine jl_iload 232 C dl_232 rfl ?_
    refine jl_iconst 234 3 C dl_234 (by decide) ?_
    refine jl_iadd 235 C dl_235 ?_
    refine jl_sld 236 C dl_236 hX (ll_in hx4 (j := 3) rfl (by omega) hL2) ?_
    refine jl_top (ll_at hx4 (j := 3) rfl (by omega) hL2) ?_
    refine jl_aload_n 237 C dl_237 rfl ?_
    refine jl_callH 238 [.ref (gz_ad (lz_G Z) 0), .int (xs (5 * c + 1)), .int (xs (5 * c + 2)), .int (xs (5 * c + 3)), .ref (gz_ad (lz_G Z) 173)] C dl_238 (lh1_hello (xz_l X) hl0 hI mm v h1) (lt_2 (i := 97) (by set_option maxRecDepth 100000 in exact rfl)) (lt_1 (i := 0) (by set_option maxRecDepth 100000 in exact rfl)) (lt_2 (i := 96) (by set_option maxRecDepth 100000 in exact rfl)) ll_47 (by decide) (n := 5) (by decide +kernel) (by decide) ⟨rfl, rfl⟩ ⟨by show 174 + c + 1 ≤ 601024; omega, by show 21461 + 6 * c + 6 ≤ 7293034; omega⟩ rfl rfl (Nat.le_of_ble_eq_true rfl) hx hxn hX.2.2 ?_
    refine jl_istore 241 [(0, .ref b), (1, .ref (gz_ad (lz_G Z) 0)), (2, .ref (gz_ad (lz_G Z) 152)), (3, .ref (gz_ad (lz_G Z) 173)), (4, .int x4), (5, .int 1)] C dl_241 rfl (by decide) rfl ?_
    refine jl_aload_n 243 C dl_243 rfl ?_
    refine jl_aload_n 244 C dl_244 rfl ?_
    refine jl_iload 245 C dl_245 rfl ?_
    refine jl_iconst 247 1 C dl_247 (by decide) ?_
    refine jl_iadd 248 C dl_248 ?_
    refine jl_sld 249 C dl_249 hX (ll_in hx4 (j := 1) rfl (by omega) hL2) ?_
    refine jl_top (ll_at hx4 (j := 1) rfl (by omega) hL2) ?_
    refine jl_aload_n 250 C dl_250 rfl ?_
    refine jl_iload 251 C dl_251 rfl ?_
    refine jl_iconst 253 2 C dl_253 (by decide) ?_
    refine jl_iadd 254 C dl_254 ?_
    refine jl_sld 255 C dl_255 hX (ll_in hx4 (j := 2) rfl (by omega) hL2) ?_
    refine jl_top (ll_at hx4 (j := 2) rfl (by omega) hL2) ?_
    refine jl_aload_n 256 C dl_256 rfl ?_
    refine jl_iload 257 C dl_257 rfl ?_
    refine jl_iconst 259 3 C dl_259 (by decide) ?_
    refine jl_iadd 260 C dl_260 ?_
    refine jl_sld 261 C dl_261 hX (ll_in hx4 (j := 3) rfl (by omega) hL2) ?_
    refine jl_top (ll_at hx4 (j := 3) rfl (by omega) hL2) ?_
    refine jl_callV 262 [.int (xs (5 * c + 1)), .int (xs (5 * c + 2)), .int (xs (5 * c + 3))] C dl_262 (lf_M hI mc v (c_Mo_hello (xz_l X) (jz_I_sub lz_subM hI) h2)) sz_Mo_hello tz_Mo_hello ll_52 lo_Mo rfl (by decide) rfl rfl ⟨by show 174 + c + 1 ≤ 601024; omega, by show 21461 + 6 * c + 6 ≤ 7293034; omega⟩ (Nat.le_of_ble_eq_true rfl) rfl ?_
    refine jl_istore 265 [(0, .ref b), (1, .ref (gz_ad (lz_G Z) 0)), (2, .ref (gz_ad (lz_G Z) 152)), (3, .ref (gz_ad (lz_G Z) 173)), (4, .int x4), (5, .int 1), (6, .int q.1)] C dl_265 rfl (by decide) rfl ?_
    refine jl_aload_n 267 C dl_267 rfl ?_
    refine jl_callV 268 [] C dl_268 (lf_M hI mc v (c_Mo_thrown (xz_l X) (jz_I_sub lz_subM hI) (r := q.2 0 0) rfl)) sz_Mo_thrown tz_Mo_thrown ll_53 lo_Mo rfl (by decide) rfl rfl ⟨by show 174 + c + 1 ≤ 601024; omega, by show 21461 + 6 * c + 6 ≤ 7293034; omega⟩ (Nat.le_of_ble_eq_true rfl) rfl ?_
    refine jl_iload 271 C dl_271 rfl ?_
    refine jl_icmp_eq 273 278 C dl_273 (by decide) (fun _ => ?_) (fun qq => absurd (by rw [ht]) qq)
    refine jl_iload 278 C dl_278 rfl ?_
    refine jl_if_ne 280 295 C dl_280 (by decide) (fun _ => ?_) (fun qq => absurd (by decide) qq)
    refine jl_goto 295 935 C dl_295 (by decide) ?_
    refine jl_sub [0, 1, 2, 3, 4] rfl ?_
    exact jl_widen (by omega) (by omega) (kend _ _ _ hi)
  · skip
    refine jl_aload_n 218 C dl_218 rfl ?_
    refine jl_aload_n 219 C dl_219 rfl ?_
    refine jl_iload 220 C dl_220 rfl ?_
    refine jl_iconst 222 1 C dl_222 (by decide) ?_
    refine jl_iadd 223 C dl_223 ?_
    refine jl_sld 224 C dl_224 hX (ll_in hx4 (j := 1) rfl (by omega) hL2) ?_
    refine jl_top (ll_at hx4 (j := 1) rfl (by omega) hL2) ?_
    refine jl_aload_n 225 C dl_225 rfl ?_
    refine jl_iload 226 C dl_226 rfl ?_
    refine jl_iconst 228 2 C dl_228 (by decide) ?_
    refine jl_iadd 229 C dl_229 ?_
    refine jl_sld 230 C dl_230 hX (ll_in hx4 (j := 2) rfl (by omega) hL2) ?_
    refine jl_top (ll_at hx4 (j := 2) rfl (by omega) hL2) ?_
    refine jl_aload_n 231 C dl_231 rfl ?_
    refine jl_iload 232 C dl_232 rfl ?_
    refine jl_iconst 234 3 C dl_234 (by decide) ?_
    refine jl_iadd 235 C dl_235 ?_
    refine jl_sld 236 C dl_236 hX (ll_in hx4 (j := 3) rfl (by omega) hL2) ?_
    refine jl_top (ll_at hx4 (j := 3) rfl (by omega) hL2) ?_
    refine jl_aload_n 237 C dl_237 rfl ?_
    refine jl_callH 238 [.ref (gz_ad (lz_G Z) 0), .int (xs (5 * c + 1)), .int (xs (5 * c + 2)), .int (xs (5 * c + 3)), .ref (gz_ad (lz_G Z) 173)] C dl_238 (lh2_hello (xz_l X) hl0 hI mm v h1) (lt_2 (i := 97) (by set_option maxRecDepth 100000 in exact rfl)) (lt_1 (i := 0) (by set_option maxRecDepth 100000 in exact rfl)) (lt_2 (i := 96) (by set_option maxRecDepth 100000 in exact rfl)) ll_47 (by decide) (n := 5) (by decide +kernel) (by decide) ⟨rfl, rfl⟩ ⟨by show 174 + c + 1 ≤ 601024; omega, by show 21461 + 6 * c + 6 ≤ 7293034; omega⟩ rfl rfl (Nat.le_of_ble_eq_true rfl) hx hxn hX.2.2 ?_
    refine jl_istore 241 [(0, .ref b), (1, .ref (gz_ad (lz_G Z) 0)), (2, .ref (gz_ad (lz_G Z) 152)), (3, .ref (gz_ad (lz_G Z) 173)), (4, .int x4), (5, .int 2)] C dl_241 rfl (by decide) rfl ?_
    refine jl_aload_n 243 C dl_243 rfl ?_
    refine jl_aload_n 244 C dl_244 rfl ?_
    refine jl_iload 245 C dl_245 rfl ?_
    refine jl_iconst 247 1 C dl_247 (by decide) ?_
    refine jl_iadd 248 C dl_248 ?_
    refine jl_sld 249 C dl_249 hX (ll_in hx4 (j := 1) rfl (by omega) hL2) ?_
    refine jl_top (ll_at hx4 (j := 1) rfl (by omega) hL2) ?_
    refine jl_aload_n 250 C dl_250 rfl ?_
    refine jl_iload 251 C dl_251 rfl ?_
    refine jl_iconst 253 2 C dl_253 (by decide) ?_
    refine jl_iadd 254 C dl_254 ?_
    refine jl_sld 255 C dl_255 hX (ll_in hx4 (j := 2) rfl (by omega) hL2) ?_
    refine jl_top (ll_at hx4 (j := 2) rfl (by omega) hL2) ?_
    refine jl_aload_n 256 C dl_256 rfl ?_
    refine jl_iload 257 C dl_257 rfl ?_
    refine jl_iconst 259 3 C dl_259 (by decide) ?_
    refine jl_iadd 260 C dl_260 ?_
    refine jl_sld 261 C dl_261 hX (ll_in hx4 (j := 3) rfl (by omega) hL2) ?_
    refine jl_top (ll_at hx4 (j := 3) rfl (by omega) hL2) ?_
    refine jl_callV 262 [.int (xs (5 * c + 1)), .int (xs (5 * c + 2)), .int (xs (5 * c + 3))] C dl_262 (lf_M hI mc v (c_Mo_hello (xz_l X) (jz_I_sub lz_subM hI) h2)) sz_Mo_hello tz_Mo_hello ll_52 lo_Mo rfl (by decide) rfl rfl ⟨by show 174 + c + 1 ≤ 601024; omega, by show 21461 + 6 * c + 6 ≤ 7293034; omega⟩ (Nat.le_of_ble_eq_true rfl) rfl ?_
    refine jl_istore 265 [(0, .ref b), (1, .ref (gz_ad (lz_G Z) 0)), (2, .ref (gz_ad (lz_G Z) 152)), (3, .ref (gz_ad (lz_G Z) 173)), (4, .int x4), (5, .int 2), (6, .int q.1)] C dl_265 rfl (by decide) rfl ?_
    refine jl_aload_n 267 C dl_267 rfl ?_
    refine jl_callV 268 [] C dl_268 (lf_M hI mc v (c_Mo_thrown (xz_l X) (jz_I_sub lz_subM hI) (r := q.2 0 0) rfl)) sz_Mo_thrown tz_Mo_thrown ll_53 lo_Mo rfl (by decide) rfl rfl ⟨by show 174 + c + 1 ≤ 601024; omega, by show 21461 + 6 * c + 6 ≤ 7293034; omega⟩ (Nat.le_of_ble_eq_true rfl) rfl ?_
    refine jl_iload 271 C dl_271 rfl ?_
    refine jl_icmp_eq 273 278 C dl_273 (by decide) (fun _ => ?_) (fun qq => absurd (by rw [ht]) qq)
    refine jl_iload 278 C dl_278 rfl ?_
    refine jl_if_ne 280 295 C dl_280 (by decide) (fun _ => ?_) (fun qq => absurd (by decide) qq)
    refine jl_goto 295 935 C dl_295 (by decide) ?_
    refine jl_sub [0, 1, 2, 3, 4] rfl ?_
    exact jl_widen (by omega) (by omega) (kend _ _ _ hi)
set_option maxHeartbeats 4000000 in
set_option maxRecDepth 100000 in
theorem lc_spread {X : jz_X} {Z : cz_Z} {b L : Nat} {xs : Nat → Int32} {Q : State → Prop} (C : jz_C X 7 code R_Lw (some .boolean) room_1 (lz_G Z)) (hX : jl_S X (lz_G Z) b L xs) (hI : jz_I (lz_G Z)) (hx : xz_ok (xz_s X)) (hxn : xn_ok (xz_s X)) (hl0 : (xz_l X).stackTraces = false) {I : Nat → jz_M → jz_M → Prop} (hs : sp_spread I) {c : Nat} {mc mm : jz_M} {v x4 : Int32} (hc : c < 512) (hInv : I c mc mm) (hx4 : x4 = nI (5 * c)) (hL : 5 * c + 5 ≤ L) (hL2 : L ≤ 2560) (kend : ∀ (mc2 mm2 : jz_M) (v2 : Int32), I (c + 1) mc2 mm2 → jl_J X 7 (lz_G Z) (174 + (c + 1)) (21461 + 6 * (c + 1)) Q (lm_ mc2 mm2 v2) [(0, .ref b), (1, .ref (gz_ad (lz_G Z) 0)), (2, .ref (gz_ad (lz_G Z) 152)), (3, .ref (gz_ad (lz_G Z) 173)), (4, .int x4)] 935 []) : jl_J X 7 (lz_G Z) (174 + c) (21461 + 6 * c) Q (lm_ mc mm v) [(0, .ref b), (1, .ref (gz_ad (lz_G Z) 0)), (2, .ref (gz_ad (lz_G Z) 152)), (3, .ref (gz_ad (lz_G Z) 173)), (4, .int x4)] 298 [] := by
  have hcs : 174 + c ≤ room_1.cells ∧ 21461 + 6 * c ≤ room_1.slots := ⟨by show 174 + c ≤ 601024; omega, by show 21461 + 6 * c ≤ 7293034; omega⟩
  obtain ⟨q, h2, hq⟩ := hs c mc mm hc hInv (xs (5 * c + 1)) (xs (5 * c + 2)) (xs (5 * c + 3)) (xs (5 * c + 4))
  rcases hq with ⟨r, h1, ht, hr, hi⟩ | ⟨h1, ht, hi⟩ | ⟨h1, ht, hi⟩ | ⟨h0, h1, ht, hi⟩
  · skip
    refine jl_aload_n 298 C dl_298 rfl ?_
    refine jl_aload_n 299 C dl_299 rfl ?_
    refine jl_iload 300 C dl_300 rfl ?_
    refine jl_iconst 302 1 C dl_302 (by decide) ?_
    refine jl_iadd 303 C dl_303 ?_
    refine jl_sld 304 C dl_304 hX (ll_in hx4 (j := 1) rfl (by omega) hL2) ?_
    refine jl_top (ll_at hx4 (j := 1) rfl (by omega) hL2) ?_
    refine jl_aload_n 305 C dl_305 rfl ?_
    refine jl_iload 306 C dl_306 rfl ?_
    refine jl_iconst 308 2 C dl_308 (by decide) ?_
    refine jl_iadd 309 C dl_309 ?_
    refine jl_sld 310 C dl_310 hX (ll_in hx4 (j := 2) rfl (by omega) hL2) ?_
    refine jl_top (ll_at hx4 (j := 2) rfl (by omega) hL2) ?_
    refine jl_aload_n 311 C dl_311 rfl ?_
    refine jl_iload 312 C dl_312 rfl ?_
    refine jl_iconst 314 3 C dl_314 (by decide) ?_
    refine jl_iadd 315 C dl_315 ?_
    refine jl_sld 316 C dl_316 hX (ll_in hx4 (j := 3) rfl (by omega) hL2) ?_
    refine jl_top (ll_at hx4 (j := 3) rfl (by omega) hL2) ?_
    refine jl_aload_n 317 C dl_317 rfl ?_
    refine jl_iload 318 C dl_318 rfl ?_
    refine jl_iconst 320 4 C dl_320 (by decide) ?_
    refine jl_iadd 321 C dl_321 ?_
    refine jl_sld 322 C dl_322 hX (ll_in hx4 (j := 4) rfl (by omega) hL2) ?_
    refine jl_top (ll_at hx4 (j := 4) rfl (by omega) hL2) ?_
    refine jl_aload_n 323 C dl_323 rfl ?_
    refine jl_callH 324 [.ref (gz_ad (lz_G Z) 0), .int (xs (5 * c + 1)), .int (xs (5 * c + 2)), .int (xs (5 * c + 3)), .int (xs (5 * c + 4)), .ref (gz_ad (lz_G Z) 173)] C dl_324 (lh0_spread (xz_l X) hI mm v h1) (lt_2 (i := 209) (by set_option maxRecDepth 100000 in exact rfl)) (lt_1 (i := 0) (by set_option maxRecDepth 100000 in exact rfl)) (lt_2 (i := 208) (by set_option maxRecDepth 100000 in exact rfl)) ll_57 (by decide) (n := 6) (by decide +kernel) (by decide) ⟨rfl, rfl⟩ ⟨by show 174 + c + 1 ≤ 601024; omega, by show 21461 + 6 * c + 6 ≤ 7293034; omega⟩ rfl rfl (Nat.le_of_ble_eq_true rfl) hx hxn hX.2.2 ?_
    refine jl_istore 327 [(0, .ref b), (1, .ref (gz_ad (lz_G Z) 0)), (2, .ref (gz_ad (lz_G Z) 152)), (3, .ref (gz_ad (lz_G Z) 173)), (4, .int x4), (5, .int 0)] C dl_327 rfl (by decide) rfl ?_
    refine jl_aload_n 329 C dl_329 rfl ?_
    refine jl_aload_n 330 C dl_330 rfl ?_
    refine jl_iload 331 C dl_331 rfl ?_
    refine jl_iconst 333 1 C dl_333 (by decide) ?_
    refine jl_iadd 334 C dl_334 ?_
    refine jl_sld 335 C dl_335 hX (ll_in hx4 (j := 1) rfl (by omega) hL2) ?_
    refine jl_top (ll_at hx4 (j := 1) rfl (by omega) hL2) ?_
    refine jl_aload_n 336 C dl_336 rfl ?_
    refine jl_iload 337 C dl_337 rfl ?_
    refine jl_iconst 339 2 C dl_339 (by decide) ?_
    refine jl_iadd 340 C dl_340 ?_
    refine jl_sld 341 C dl_341 hX (ll_in hx4 (j := 2) rfl (by omega) hL2) ?_
    refine jl_top (ll_at hx4 (j := 2) rfl (by omega) hL2) ?_
    refine jl_aload_n 342 C dl_342 rfl ?_
    refine jl_iload 343 C dl_343 rfl ?_
    refine jl_iconst 345 3 C dl_345 (by decide) ?_
    refine jl_iadd 346 C dl_346 ?_
    refine jl_sld 347 C dl_347 hX (ll_in hx4 (j := 3) rfl (by omega) hL2) ?_
    refine jl_top (ll_at hx4 (j := 3) rfl (by omega) hL2) ?_
    refine jl_aload_n 348 C dl_348 rfl ?_
    refine jl_iload 349 C dl_349 rfl ?_
    refine jl_iconst 351 4 C dl_351 (by decide) ?_
    refine jl_iadd 352 C dl_352 ?_
    refine jl_sld 353 C dl_353 hX (ll_in hx4 (j := 4) rfl (by omega) hL2) ?_
    refine jl_top (ll_at hx4 (j := 4) rfl (by omega) hL2) ?_
    refine jl_callV 354 [.int (xs (5 * c + 1)), .int (xs (5 * c + 2)), .int (xs (5 * c + 3)), .int (xs (5 * c + 4))] C dl_354 (lf_M hI r.2 r.1 (c_Mo_spread (xz_l X) (jz_I_sub lz_subM hI) h2)) sz_Mo_spread tz_Mo_spread ll_60 lo_Mo rfl (by decide) rfl rfl ⟨by show 174 + c + 1 ≤ 601024; omega, by show 21461 + 6 * c + 6 ≤ 7293034; omega⟩ (Nat.le_of_ble_eq_true rfl) rfl ?_
    refine jl_istore 357 [(0, .ref b), (1, .ref (gz_ad (lz_G Z) 0)), (2, .ref (gz_ad (lz_G Z) 152)), (3, .ref (gz_ad (lz_G Z) 173)), (4, .int x4), (5, .int 0), (6, .int q.1)] C dl_357 rfl (by decide) rfl ?_
    refine jl_aload_n 359 C dl_359 rfl ?_
    refine jl_callV 360 [] C dl_360 (lf_M hI r.2 r.1 (c_Mo_thrown (xz_l X) (jz_I_sub lz_subM hI) (r := q.2 0 0) rfl)) sz_Mo_thrown tz_Mo_thrown ll_53 lo_Mo rfl (by decide) rfl rfl ⟨by show 174 + c + 1 ≤ 601024; omega, by show 21461 + 6 * c + 6 ≤ 7293034; omega⟩ (Nat.le_of_ble_eq_true rfl) rfl ?_
    refine jl_iload 363 C dl_363 rfl ?_
    refine jl_icmp_eq 365 370 C dl_365 (by decide) (fun _ => ?_) (fun qq => absurd (by rw [ht]) qq)
    refine jl_iload 370 C dl_370 rfl ?_
    refine jl_if_ne 372 387 C dl_372 (by decide) (fun qq => absurd rfl qq) (fun _ => ?_)
    refine jl_aload_n 375 C dl_375 rfl ?_
    refine jl_iconst 376 0 C dl_376 (by decide) ?_
    refine jl_lald 377 C dl_377 ?_
    refine jl_iload 378 C dl_378 rfl ?_
    refine jl_i2l 380 C dl_380 ?_
    refine jl_lcmp 381 C dl_381 (by rw [hr]) ?_
    refine jl_if_eq 382 387 C dl_382 (by decide) (fun _ => ?_) (fun qq => absurd rfl qq)
    refine jl_goto 387 935 C dl_387 (by decide) ?_
    refine jl_sub [0, 1, 2, 3, 4] rfl ?_
    exact jl_widen (by omega) (by omega) (kend _ _ _ hi)
  · skip
    refine jl_aload_n 298 C dl_298 rfl ?_
    refine jl_aload_n 299 C dl_299 rfl ?_
    refine jl_iload 300 C dl_300 rfl ?_
    refine jl_iconst 302 1 C dl_302 (by decide) ?_
    refine jl_iadd 303 C dl_303 ?_
    refine jl_sld 304 C dl_304 hX (ll_in hx4 (j := 1) rfl (by omega) hL2) ?_
    refine jl_top (ll_at hx4 (j := 1) rfl (by omega) hL2) ?_
    refine jl_aload_n 305 C dl_305 rfl ?_
    refine jl_iload 306 C dl_306 rfl ?_
    refine jl_iconst 308 2 C dl_308 (by decide) ?_
    refine jl_iadd 309 C dl_309 ?_
    refine jl_sld 310 C dl_310 hX (ll_in hx4 (j := 2) rfl (by omega) hL2) ?_
    refine jl_top (ll_at hx4 (j := 2) rfl (by omega) hL2) ?_
    refine jl_aload_n 311 C dl_311 rfl ?_
    refine jl_iload 312 C dl_312 rfl ?_
    refine jl_iconst 314 3 C dl_314 (by decide) ?_
    refine jl_iadd 315 C dl_315 ?_
    refine jl_sld 316 C dl_316 hX (ll_in hx4 (j := 3) rfl (by omega) hL2) ?_
    refine jl_top (ll_at hx4 (j := 3) rfl (by omega) hL2) ?_
    refine jl_aload_n 317 C dl_317 rfl ?_
    refine jl_iload 318 C dl_318 rfl ?_
    refine jl_iconst 320 4 C dl_320 (by decide) ?_
    refine jl_iadd 321 C dl_321 ?_
    refine jl_sld 322 C dl_322 hX (ll_in hx4 (j := 4) rfl (by omega) hL2) ?_
    refine jl_top (ll_at hx4 (j := 4) rfl (by omega) hL2) ?_
    refine jl_aload_n 323 C dl_323 rfl ?_
    refine jl_callH 324 [.ref (gz_ad (lz_G Z) 0), .int (xs (5 * c + 1)), .int (xs (5 * c + 2)), .int (xs (5 * c + 3)), .int (xs (5 * c + 4)), .ref (gz_ad (lz_G Z) 173)] C dl_324 (lh1_spread (xz_l X) hl0 hI mm v h1) (lt_2 (i := 209) (by set_option maxRecDepth 100000 in exact rfl)) (lt_1 (i := 0) (by set_option maxRecDepth 100000 in exact rfl)) (lt_2 (i := 208) (by set_option maxRecDepth 100000 in exact rfl)) ll_57 (by decide) (n := 6) (by decide +kernel) (by decide) ⟨rfl, rfl⟩ ⟨by show 174 + c + 1 ≤ 601024; omega, by show 21461 + 6 * c + 6 ≤ 7293034; omega⟩ rfl rfl (Nat.le_of_ble_eq_true rfl) hx hxn hX.2.2 ?_
    refine jl_istore 327 [(0, .ref b), (1, .ref (gz_ad (lz_G Z) 0)), (2, .ref (gz_ad (lz_G Z) 152)), (3, .ref (gz_ad (lz_G Z) 173)), (4, .int x4), (5, .int 1)] C dl_327 rfl (by decide) rfl ?_
    refine jl_aload_n 329 C dl_329 rfl ?_
    refine jl_aload_n 330 C dl_330 rfl ?_
    refine jl_iload 331 C dl_331 rfl ?_
    refine jl_iconst 333 1 C dl_333 (by decide) ?_
    refine jl_iadd 334 C dl_334 ?_
    refine jl_sld 335 C dl_335 hX (ll_in hx4 (j := 1) rfl (by omega) hL2) ?_
    refine jl_top (ll_at hx4 (j := 1) rfl (by omega) hL2) ?_
    refine jl_aload_n 336 C dl_336 rfl ?_
    refine jl_iload 337 C dl_337 rfl ?_
    refine jl_iconst 339 2 C dl_339 (by decide) ?_
    refine jl_iadd 340 C dl_340 ?_
    refine jl_sld 341 C dl_341 hX (ll_in hx4 (j := 2) rfl (by omega) hL2) ?_
    refine jl_top (ll_at hx4 (j := 2) rfl (by omega) hL2) ?_
    refine jl_aload_n 342 C dl_342 rfl ?_
    refine jl_iload 343 C dl_343 rfl ?_
    refine jl_iconst 345 3 C dl_345 (by decide) ?_
    refine jl_iadd 346 C dl_346 ?_
    refine jl_sld 347 C dl_347 hX (ll_in hx4 (j := 3) rfl (by omega) hL2) ?_
    refine jl_top (ll_at hx4 (j := 3) rfl (by omega) hL2) ?_
    refine jl_aload_n 348 C dl_348 rfl ?_
    refine jl_iload 349 C dl_349 rfl ?_
    refine jl_iconst 351 4 C dl_351 (by decide) ?_
    refine jl_iadd 352 C dl_352 ?_
    refine jl_sld 353 C dl_353 hX (ll_in hx4 (j := 4) rfl (by omega) hL2) ?_
    refine jl_top (ll_at hx4 (j := 4) rfl (by omega) hL2) ?_
    refine jl_callV 354 [.int (xs (5 * c + 1)), .int (xs (5 * c + 2)), .int (xs (5 * c + 3)), .int (xs (5 * c + 4))] C dl_354 (lf_M hI mc v (c_Mo_spread (xz_l X) (jz_I_sub lz_subM hI) h2)) sz_Mo_spread tz_Mo_spread ll_60 lo_Mo rfl (by decide) rfl rfl ⟨by show 174 + c + 1 ≤ 601024; omega, by show 21461 + 6 * c + 6 ≤ 7293034; omega⟩ (Nat.le_of_ble_eq_true rfl) rfl ?_
    refine jl_istore 357 [(0, .ref b), (1, .ref (gz_ad (lz_G Z) 0)), (2, .ref (gz_ad (lz_G Z) 152)), (3, .ref (gz_ad (lz_G Z) 173)), (4, .int x4), (5, .int 1), (6, .int q.1)] C dl_357 rfl (by decide) rfl ?_
    refine jl_aload_n 359 C dl_359 rfl ?_
    refine jl_callV 360 [] C dl_360 (lf_M hI mc v (c_Mo_thrown (xz_l X) (jz_I_sub lz_subM hI) (r := q.2 0 0) rfl)) sz_Mo_thrown tz_Mo_thrown ll_53 lo_Mo rfl (by decide) rfl rfl ⟨by show 174 + c + 1 ≤ 601024; omega, by show 21461 + 6 * c + 6 ≤ 7293034; omega⟩ (Nat.le_of_ble_eq_true rfl) rfl ?_
    refine jl_iload 363 C dl_363 rfl ?_
    refine jl_icmp_eq 365 370 C dl_365 (by decide) (fun _ => ?_) (fun qq => absurd (by rw [ht]) qq)
    refine jl_iload 370 C dl_370 rfl ?_
    refine jl_if_ne 372 387 C dl_372 (by decide) (fun _ => ?_) (fun qq => absurd (by decide) qq)
    refine jl_goto 387 935 C dl_387 (by decide) ?_
    refine jl_sub [0, 1, 2, 3, 4] rfl ?_
    exact jl_widen (by omega) (by omega) (kend _ _ _ hi)
  · skip
    refine jl_aload_n 298 C dl_298 rfl ?_
    refine jl_aload_n 299 C dl_299 rfl ?_
    refine jl_iload 300 C dl_300 rfl ?_
    refine jl_iconst 302 1 C dl_302 (by decide) ?_
    refine jl_iadd 303 C dl_303 ?_
    refine jl_sld 304 C dl_304 hX (ll_in hx4 (j := 1) rfl (by omega) hL2) ?_
    refine jl_top (ll_at hx4 (j := 1) rfl (by omega) hL2) ?_
    refine jl_aload_n 305 C dl_305 rfl ?_
    refine jl_iload 306 C dl_306 rfl ?_
    refine jl_iconst 308 2 C dl_308 (by decide) ?_
    refine jl_iadd 309 C dl_309 ?_
    refine jl_sld 310 C dl_310 hX (ll_in hx4 (j := 2) rfl (by omega) hL2) ?_
    refine jl_top (ll_at hx4 (j := 2) rfl (by omega) hL2) ?_
    refine jl_aload_n 311 C dl_311 rfl ?_
    refine jl_iload 312 C dl_312 rfl ?_
    refine jl_iconst 314 3 C dl_314 (by decide) ?_
    refine jl_iadd 315 C dl_315 ?_
    refine jl_sld 316 C dl_316 hX (ll_in hx4 (j := 3) rfl (by omega) hL2) ?_
    refine jl_top (ll_at hx4 (j := 3) rfl (by omega) hL2) ?_
    refine jl_aload_n 317 C dl_317 rfl ?_
    refine jl_iload 318 C dl_318 rfl ?_
    refine jl_iconst 320 4 C dl_320 (by decide) ?_
    refine jl_iadd 321 C dl_321 ?_
    refine jl_sld 322 C dl_322 hX (ll_in hx4 (j := 4) rfl (by omega) hL2) ?_
    refine jl_top (ll_at hx4 (j := 4) rfl (by omega) hL2) ?_
    refine jl_aload_n 323 C dl_323 rfl ?_
    refine jl_callH 324 [.ref (gz_ad (lz_G Z) 0), .int (xs (5 * c + 1)), .int (xs (5 * c + 2)), .int (xs (5 * c + 3)), .int (xs (5 * c + 4)), .ref (gz_ad (lz_G Z) 173)] C dl_324 (lh2_spread (xz_l X) hl0 hI mm v h1) (lt_2 (i := 209) (by set_option maxRecDepth 100000 in exact rfl)) (lt_1 (i := 0) (by set_option maxRecDepth 100000 in exact rfl)) (lt_2 (i := 208) (by set_option maxRecDepth 100000 in exact rfl)) ll_57 (by decide) (n := 6) (by decide +kernel) (by decide) ⟨rfl, rfl⟩ ⟨by show 174 + c + 1 ≤ 601024; omega, by show 21461 + 6 * c + 6 ≤ 7293034; omega⟩ rfl rfl (Nat.le_of_ble_eq_true rfl) hx hxn hX.2.2 ?_
    refine jl_istore 327 [(0, .ref b), (1, .ref (gz_ad (lz_G Z) 0)), (2, .ref (gz_ad (lz_G Z) 152)), (3, .ref (gz_ad (lz_G Z) 173)), (4, .int x4), (5, .int 2)] C dl_327 rfl (by decide) rfl ?_
    refine jl_aload_n 329 C dl_329 rfl ?_
    refine jl_aload_n 330 C dl_330 rfl ?_
    refine jl_iload 331 C dl_331 rfl ?_
    refine jl_iconst 333 1 C dl_333 (by decide) ?_
    refine jl_iadd 334 C dl_334 ?_
    refine jl_sld 335 C dl_335 hX (ll_in hx4 (j := 1) rfl (by omega) hL2) ?_
    refine jl_top (ll_at hx4 (j := 1) rfl (by omega) hL2) ?_
    refine jl_aload_n 336 C dl_336 rfl ?_
    refine jl_iload 337 C dl_337 rfl ?_
    refine jl_iconst 339 2 C dl_339 (by decide) ?_
    refine jl_iadd 340 C dl_340 ?_
    refine jl_sld 341 C dl_341 hX (ll_in hx4 (j := 2) rfl (by omega) hL2) ?_
    refine jl_top (ll_at hx4 (j := 2) rfl (by omega) hL2) ?_
    refine jl_aload_n 342 C dl_342 rfl ?_
    refine jl_iload 343 C dl_343 rfl ?_
    refine jl_iconst 345 3 C dl_345 (by decide) ?_
    refine jl_iadd 346 C dl_346 ?_
    refine jl_sld 347 C dl_347 hX (ll_in hx4 (j := 3) rfl (by omega) hL2) ?_
    refine jl_top (ll_at hx4 (j := 3) rfl (by omega) hL2) ?_
    refine jl_aload_n 348 C dl_348 rfl ?_
    refine jl_iload 349 C dl_349 rfl ?_
    refine jl_iconst 351 4 C dl_351 (by decide) ?_
    refine jl_iadd 352 C dl_352 ?_
    refine jl_sld 353 C dl_353 hX (ll_in hx4 (j := 4) rfl (by omega) hL2) ?_
    refine jl_top (ll_at hx4 (j := 4) rfl (by omega) hL2) ?_
    refine jl_callV 354 [.int (xs (5 * c + 1)), .int (xs (5 * c + 2)), .int (xs (5 * c + 3)), .int (xs (5 * c + 4))] C dl_354 (lf_M hI mc v (c_Mo_spread (xz_l X) (jz_I_sub lz_subM hI) h2)) sz_Mo_spread tz_Mo_spread ll_60 lo_Mo rfl (by decide) rfl rfl ⟨by show 174 + c + 1 ≤ 601024; omega, by show 21461 + 6 * c + 6 ≤ 7293034; omega⟩ (Nat.le_of_ble_eq_true rfl) rfl ?_
    refine jl_istore 357 [(0, .ref b), (1, .ref (gz_ad (lz_G Z) 0)), (2, .ref (gz_ad (lz_G Z) 152)), (3, .ref (gz_ad (lz_G Z) 173)), (4, .int x4), (5, .int 2), (6, .int q.1)] C dl_357 rfl (by decide) rfl ?_
    refine jl_aload_n 359 C dl_359 rfl ?_
    refine jl_callV 360 [] C dl_360 (lf_M hI mc v (c_Mo_thrown (xz_l X) (jz_I_sub lz_subM hI) (r := q.2 0 0) rfl)) sz_Mo_thrown tz_Mo_thrown ll_53 lo_Mo rfl (by decide) rfl rfl ⟨by show 174 + c + 1 ≤ 601024; omega, by show 21461 + 6 * c + 6 ≤ 7293034; omega⟩ (Nat.le_of_ble_eq_true rfl) rfl ?_
    refine jl_iload 363 C dl_363 rfl ?_
    refine jl_icmp_eq 365 370 C dl_365 (by decide) (fun _ => ?_) (fun qq => absurd (by rw [ht]) qq)
    refine jl_iload 370 C dl_370 rfl ?_
    refine jl_if_ne 372 387 C dl_372 (by decide) (fun _ => ?_) (fun qq => absurd (by decide) qq)
    refine jl_goto 387 935 C dl_387 (by decide) ?_
    refine jl_sub [0, 1, 2, 3, 4] rfl ?_
    exact jl_widen (by omega) (by omega) (kend _ _ _ hi)
  · skip
    refine jl_aload_n 298 C dl_298 rfl ?_
    refine jl_aload_n 299 C dl_299 rfl ?_
    refine jl_iload 300 C dl_300 rfl ?_
    refine jl_iconst 302 1 C dl_302 (by decide) ?_
    refine jl_iadd 303 C dl_303 ?_
    refine jl_sld 304 C dl_304 hX (ll_in hx4 (j := 1) rfl (by omega) hL2) ?_
    refine jl_top (ll_at hx4 (j := 1) rfl (by omega) hL2) ?_
    refine jl_aload_n 305 C dl_305 rfl ?_
    refine jl_iload 306 C dl_306 rfl ?_
    refine jl_iconst 308 2 C dl_308 (by decide) ?_
    refine jl_iadd 309 C dl_309 ?_
    refine jl_sld 310 C dl_310 hX (ll_in hx4 (j := 2) rfl (by omega) hL2) ?_
    refine jl_top (ll_at hx4 (j := 2) rfl (by omega) hL2) ?_
    refine jl_aload_n 311 C dl_311 rfl ?_
    refine jl_iload 312 C dl_312 rfl ?_
    refine jl_iconst 314 3 C dl_314 (by decide) ?_
    refine jl_iadd 315 C dl_315 ?_
    refine jl_sld 316 C dl_316 hX (ll_in hx4 (j := 3) rfl (by omega) hL2) ?_
    refine jl_top (ll_at hx4 (j := 3) rfl (by omega) hL2) ?_
    refine jl_aload_n 317 C dl_317 rfl ?_
    refine jl_iload 318 C dl_318 rfl ?_
    refine jl_iconst 320 4 C dl_320 (by decide) ?_
    refine jl_iadd 321 C dl_321 ?_
    refine jl_sld 322 C dl_322 hX (ll_in hx4 (j := 4) rfl (by omega) hL2) ?_
    refine jl_top (ll_at hx4 (j := 4) rfl (by omega) hL2) ?_
    refine jl_aload_n 323 C dl_323 rfl ?_
    refine jl_callH 324 [.ref (gz_ad (lz_G Z) 0), .int (xs (5 * c + 1)), .int (xs (5 * c + 2)), .int (xs (5 * c + 3)), .int (xs (5 * c + 4)), .ref (gz_ad (lz_G Z) 173)] C dl_324 (lh3_spread (xz_l X) hl0 hI mm v h0 h1) (lt_2 (i := 209) (by set_option maxRecDepth 100000 in exact rfl)) (lt_1 (i := 0) (by set_option maxRecDepth 100000 in exact rfl)) (lt_2 (i := 208) (by set_option maxRecDepth 100000 in exact rfl)) ll_57 (by decide) (n := 6) (by decide +kernel) (by decide) ⟨rfl, rfl⟩ ⟨by show 174 + c + 1 ≤ 601024; omega, by show 21461 + 6 * c + 6 ≤ 7293034; omega⟩ rfl rfl (Nat.le_of_ble_eq_true rfl) hx hxn hX.2.2 ?_
    refine jl_istore 327 [(0, .ref b), (1, .ref (gz_ad (lz_G Z) 0)), (2, .ref (gz_ad (lz_G Z) 152)), (3, .ref (gz_ad (lz_G Z) 173)), (4, .int x4), (5, .int 3)] C dl_327 rfl (by decide) rfl ?_
    refine jl_aload_n 329 C dl_329 rfl ?_
    refine jl_aload_n 330 C dl_330 rfl ?_
    refine jl_iload 331 C dl_331 rfl ?_
    refine jl_iconst 333 1 C dl_333 (by decide) ?_
    refine jl_iadd 334 C dl_334 ?_
    refine jl_sld 335 C dl_335 hX (ll_in hx4 (j := 1) rfl (by omega) hL2) ?_
    refine jl_top (ll_at hx4 (j := 1) rfl (by omega) hL2) ?_
    refine jl_aload_n 336 C dl_336 rfl ?_
    refine jl_iload 337 C dl_337 rfl ?_
    refine jl_iconst 339 2 C dl_339 (by decide) ?_
    refine jl_iadd 340 C dl_340 ?_
    refine jl_sld 341 C dl_341 hX (ll_in hx4 (j := 2) rfl (by omega) hL2) ?_
    refine jl_top (ll_at hx4 (j := 2) rfl (by omega) hL2) ?_
    refine jl_aload_n 342 C dl_342 rfl ?_
    refine jl_iload 343 C dl_343 rfl ?_
    refine jl_iconst 345 3 C dl_345 (by decide) ?_
    refine jl_iadd 346 C dl_346 ?_
    refine jl_sld 347 C dl_347 hX (ll_in hx4 (j := 3) rfl (by omega) hL2) ?_
    refine jl_top (ll_at hx4 (j := 3) rfl (by omega) hL2) ?_
    refine jl_aload_n 348 C dl_348 rfl ?_
    refine jl_iload 349 C dl_349 rfl ?_
    refine jl_iconst 351 4 C dl_351 (by decide) ?_
    refine jl_iadd 352 C dl_352 ?_
    refine jl_sld 353 C dl_353 hX (ll_in hx4 (j := 4) rfl (by omega) hL2) ?_
    refine jl_top (ll_at hx4 (j := 4) rfl (by omega) hL2) ?_
    refine jl_callV 354 [.int (xs (5 * c + 1)), .int (xs (5 * c + 2)), .int (xs (5 * c + 3)), .int (xs (5 * c + 4))] C dl_354 (lf_M hI mc v (c_Mo_spread (xz_l X) (jz_I_sub lz_subM hI) h2)) sz_Mo_spread tz_Mo_spread ll_60 lo_Mo rfl (by decide) rfl rfl ⟨by show 174 + c + 1 ≤ 601024; omega, by show 21461 + 6 * c + 6 ≤ 7293034; omega⟩ (Nat.le_of_ble_eq_true rfl) rfl ?_
    refine jl_istore 357 [(0, .ref b), (1, .ref (gz_ad (lz_G Z) 0)), (2, .ref (gz_ad (lz_G Z) 152)), (3, .ref (gz_ad (lz_G Z) 173)), (4, .int x4), (5, .int 3), (6, .int q.1)] C dl_357 rfl (by decide) rfl ?_
    refine jl_aload_n 359 C dl_359 rfl ?_
    refine jl_callV 360 [] C dl_360 (lf_M hI mc v (c_Mo_thrown (xz_l X) (jz_I_sub lz_subM hI) (r := q.2 0 0) rfl)) sz_Mo_thrown tz_Mo_thrown ll_53 lo_Mo rfl (by decide) rfl rfl ⟨by show 174 + c + 1 ≤ 601024; omega, by show 21461 + 6 * c + 6 ≤ 7293034; omega⟩ (Nat.le_of_ble_eq_true rfl) rfl ?_
    refine jl_iload 363 C dl_363 rfl ?_
    refine jl_icmp_eq 365 370 C dl_365 (by decide) (fun _ => ?_) (fun qq => absurd (by rw [ht]) qq)
    refine jl_iload 370 C dl_370 rfl ?_
    refine jl_if_ne 372 387 C dl_372 (by decide) (fun _ => ?_) (fun qq => absurd (by decide) qq)
    refine jl_goto 387 935 C dl_387 (by decide) ?_
    refine jl_sub [0, 1, 2, 3, 4] rfl ?_
    exact jl_widen (by omega) (by omega) (kend _ _ _ hi)
set_option maxHeartbeats 4000000 in
set_option maxRecDepth 100000 in
theorem lc_summary {X : jz_X} {Z : cz_Z} {b L : Nat} {xs : Nat → Int32} {Q : State → Prop} (C : jz_C X 7 code R_Lw (some .boolean) room_1 (lz_G Z)) (hX : jl_S X (lz_G Z) b L xs) (hI : jz_I (lz_G Z)) (hx : xz_ok (xz_s X)) (hxn : xn_ok (xz_s X)) (hl0 : (xz_l X).stackTraces = false) {I : Nat → jz_M → jz_M → Prop} (hs : sp_summary I) {c : Nat} {mc mm : jz_M} {v x4 : Int32} (hc : c < 512) (hInv : I c mc mm) (hx4 : x4 = nI (5 * c)) (hL : 5 * c + 5 ≤ L) (hL2 : L ≤ 2560) (kend : ∀ (mc2 mm2 : jz_M) (v2 : Int32), I (c + 1) mc2 mm2 → jl_J X 7 (lz_G Z) (174 + (c + 1)) (21461 + 6 * (c + 1)) Q (lm_ mc2 mm2 v2) [(0, .ref b), (1, .ref (gz_ad (lz_G Z) 0)), (2, .ref (gz_ad (lz_G Z) 152)), (3, .ref (gz_ad (lz_G Z) 173)), (4, .int x4)] 935 []) : jl_J X 7 (lz_G Z) (174 + c) (21461 + 6 * c) Q (lm_ mc mm v) [(0, .ref b), (1, .ref (gz_ad (lz_G Z) 0)), (2, .ref (gz_ad (lz_G Z) 152)), (3, .ref (gz_ad (lz_G Z) 173)), (4, .int x4)] 390 [] := by
  have hcs : 174 + c ≤ room_1.cells ∧ 21461 + 6 * c ≤ room_1.slots := ⟨by show 174 + c ≤ 601024; omega, by show 21461 + 6 * c ≤ 7293034; omega⟩
  obtain ⟨q, h2, hq⟩ := hs c mc mm hc hInv (xs (5 * c + 1)) (xs (5 * c + 2)) (xs (5 * c + 3)) (xs (5 * c + 4))
  rcases hq with ⟨r, h1, ht, hr, hi⟩ | ⟨h1, ht, hi⟩ | ⟨h1, ht, hi⟩ | ⟨h0, h1, ht, hi⟩
  · skip
    refine jl_aload_n 390 C dl_390 rfl ?_
    refine jl_aload_n 391 C dl_391 rfl ?_
    refine jl_iload 392 C dl_392 rfl ?_
    refine jl_iconst 394 1 C dl_394 (by decide) ?_
    refine jl_iadd 395 C dl_395 ?_
    refine jl_sld 396 C dl_396 hX (ll_in hx4 (j := 1) rfl (by omega) hL2) ?_
    refine jl_top (ll_at hx4 (j := 1) rfl (by omega) hL2) ?_
    refine jl_aload_n 397 C dl_397 rfl ?_
    refine jl_iload 398 C dl_398 rfl ?_
    refine jl_iconst 400 2 C dl_400 (by decide) ?_
    refine jl_iadd 401 C dl_401 ?_
    refine jl_sld 402 C dl_402 hX (ll_in hx4 (j := 2) rfl (by omega) hL2) ?_
    refine jl_top (ll_at hx4 (j := 2) rfl (by omega) hL2) ?_
    refine jl_aload_n 403 C dl_403 rfl ?_
    refine jl_iload 404 C dl_404 rfl ?_
    refine jl_iconst 406 3 C dl_406 (by decide) ?_
    refine jl_iadd 407 C dl_407 ?_
    refine jl_sld 408 C dl_408 hX (ll_in hx4 (j := 3) rfl (by omega) hL2) ?_
    refine jl_top (ll_at hx4 (j := 3) rfl (by omega) hL2) ?_
    refine jl_aload_n 409 C dl_409 rfl ?_
    refine jl_iload 410 C dl_410 rfl ?_
    refine jl_iconst 412 4 C dl_412 (by decide) ?_
    refine jl_iadd 413 C dl_413 ?_
    refine jl_sld 414 C dl_414 hX (ll_in hx4 (j := 4) rfl (by omega) hL2) ?_
    refine jl_top (ll_at hx4 (j := 4) rfl (by omega) hL2) ?_
    refine jl_aload_n 415 C dl_415 rfl ?_
    refine jl_callH 416 [.ref (gz_ad (lz_G Z) 0), .int (xs (5 * c + 1)), .int (xs (5 * c + 2)), .int (xs (5 * c + 3)), .int (xs (5 * c + 4)), .ref (gz_ad (lz_G Z) 173)] C dl_416 (lh0_summary (xz_l X) hI mm v h1) (lt_3 (i := 90) (by set_option maxRecDepth 100000 in exact rfl)) (lt_1 (i := 0) (by set_option maxRecDepth 100000 in exact rfl)) (lt_3 (i := 89) (by set_option maxRecDepth 100000 in exact rfl)) ll_61 (by decide) (n := 6) (by decide +kernel) (by decide) ⟨rfl, rfl⟩ ⟨by show 174 + c + 1 ≤ 601024; omega, by show 21461 + 6 * c + 6 ≤ 7293034; omega⟩ rfl rfl (Nat.le_of_ble_eq_true rfl) hx hxn hX.2.2 ?_
    refine jl_istore 419 [(0, .ref b), (1, .ref (gz_ad (lz_G Z) 0)), (2, .ref (gz_ad (lz_G Z) 152)), (3, .ref (gz_ad (lz_G Z) 173)), (4, .int x4), (5, .int 0)] C dl_419 rfl (by decide) rfl ?_
    refine jl_aload_n 421 C dl_421 rfl ?_
    refine jl_aload_n 422 C dl_422 rfl ?_
    refine jl_iload 423 C dl_423 rfl ?_
    refine jl_iconst 425 1 C dl_425 (by decide) ?_
    refine jl_iadd 426 C dl_426 ?_
    refine jl_sld 427 C dl_427 hX (ll_in hx4 (j := 1) rfl (by omega) hL2) ?_
    refine jl_top (ll_at hx4 (j := 1) rfl (by omega) hL2) ?_
    refine jl_aload_n 428 C dl_428 rfl ?_
    refine jl_iload 429 C dl_429 rfl ?_
    refine jl_iconst 431 2 C dl_431 (by decide) ?_
    refine jl_iadd 432 C dl_432 ?_
    refine jl_sld 433 C dl_433 hX (ll_in hx4 (j := 2) rfl (by omega) hL2) ?_
    refine jl_top (ll_at hx4 (j := 2) rfl (by omega) hL2) ?_
    refine jl_aload_n 434 C dl_434 rfl ?_
    refine jl_iload 435 C dl_435 rfl ?_
    refine jl_iconst 437 3 C dl_437 (by decide) ?_
    refine jl_iadd 438 C dl_438 ?_
    refine jl_sld 439 C dl_439 hX (ll_in hx4 (j := 3) rfl (by omega) hL2) ?_
    refine jl_top (ll_at hx4 (j := 3) rfl (by omega) hL2) ?_
    refine jl_aload_n 440 C dl_440 rfl ?_
    refine jl_iload 441 C dl_441 rfl ?_
    refine jl_iconst 443 4 C dl_443 (by decide) ?_
    refine jl_iadd 444 C dl_444 ?_
    refine jl_sld 445 C dl_445 hX (ll_in hx4 (j := 4) rfl (by omega) hL2) ?_
    refine jl_top (ll_at hx4 (j := 4) rfl (by omega) hL2) ?_
    refine jl_callV 446 [.int (xs (5 * c + 1)), .int (xs (5 * c + 2)), .int (xs (5 * c + 3)), .int (xs (5 * c + 4))] C dl_446 (lf_M hI r.2 r.1 (c_Mo_summary (xz_l X) (jz_I_sub lz_subM hI) h2)) sz_Mo_summary tz_Mo_summary ll_63 lo_Mo rfl (by decide) rfl rfl ⟨by show 174 + c + 1 ≤ 601024; omega, by show 21461 + 6 * c + 6 ≤ 7293034; omega⟩ (Nat.le_of_ble_eq_true rfl) rfl ?_
    refine jl_istore 449 [(0, .ref b), (1, .ref (gz_ad (lz_G Z) 0)), (2, .ref (gz_ad (lz_G Z) 152)), (3, .ref (gz_ad (lz_G Z) 173)), (4, .int x4), (5, .int 0), (6, .int q.1)] C dl_449 rfl (by decide) rfl ?_
    refine jl_aload_n 451 C dl_451 rfl ?_
    refine jl_callV 452 [] C dl_452 (lf_M hI r.2 r.1 (c_Mo_thrown (xz_l X) (jz_I_sub lz_subM hI) (r := q.2 0 0) rfl)) sz_Mo_thrown tz_Mo_thrown ll_53 lo_Mo rfl (by decide) rfl rfl ⟨by show 174 + c + 1 ≤ 601024; omega, by show 21461 + 6 * c + 6 ≤ 7293034; omega⟩ (Nat.le_of_ble_eq_true rfl) rfl ?_
    refine jl_iload 455 C dl_455 rfl ?_
    refine jl_icmp_eq 457 462 C dl_457 (by decide) (fun _ => ?_) (fun qq => absurd (by rw [ht]) qq)
    refine jl_iload 462 C dl_462 rfl ?_
    refine jl_if_ne 464 479 C dl_464 (by decide) (fun qq => absurd rfl qq) (fun _ => ?_)
    refine jl_aload_n 467 C dl_467 rfl ?_
    refine jl_iconst 468 0 C dl_468 (by decide) ?_
    refine jl_lald 469 C dl_469 ?_
    refine jl_iload 470 C dl_470 rfl ?_
    refine jl_i2l 472 C dl_472 ?_
    refine jl_lcmp 473 C dl_473 (by rw [hr]) ?_
    refine jl_if_eq 474 479 C dl_474 (by decide) (fun _ => ?_) (fun qq => absurd rfl qq)
    refine jl_goto 479 935 C dl_479 (by decide) ?_
    refine jl_sub [0, 1, 2, 3, 4] rfl ?_
    exact jl_widen (by omega) (by omega) (kend _ _ _ hi)
  · skip
    refine jl_aload_n 390 C dl_390 rfl ?_
    refine jl_aload_n 391 C dl_391 rfl ?_
    refine jl_iload 392 C dl_392 rfl ?_
    refine jl_iconst 394 1 C dl_394 (by decide) ?_
    refine jl_iadd 395 C dl_395 ?_
    refine jl_sld 396 C dl_396 hX (ll_in hx4 (j := 1) rfl (by omega) hL2) ?_
    refine jl_top (ll_at hx4 (j := 1) rfl (by omega) hL2) ?_
    refine jl_aload_n 397 C dl_397 rfl ?_
    refine jl_iload 398 C dl_398 rfl ?_
    refine jl_iconst 400 2 C dl_400 (by decide) ?_
    refine jl_iadd 401 C dl_401 ?_
    refine jl_sld 402 C dl_402 hX (ll_in hx4 (j := 2) rfl (by omega) hL2) ?_
    refine jl_top (ll_at hx4 (j := 2) rfl (by omega) hL2) ?_
    refine jl_aload_n 403 C dl_403 rfl ?_
    refine jl_iload 404 C dl_404 rfl ?_
    refine jl_iconst 406 3 C dl_406 (by decide) ?_
    refine jl_iadd 407 C dl_407 ?_
    refine jl_sld 408 C dl_408 hX (ll_in hx4 (j := 3) rfl (by omega) hL2) ?_
    refine jl_top (ll_at hx4 (j := 3) rfl (by omega) hL2) ?_
    refine jl_aload_n 409 C dl_409 rfl ?_
    refine jl_iload 410 C dl_410 rfl ?_
    refine jl_iconst 412 4 C dl_412 (by decide) ?_
    refine jl_iadd 413 C dl_413 ?_
    refine jl_sld 414 C dl_414 hX (ll_in hx4 (j := 4) rfl (by omega) hL2) ?_
    refine jl_top (ll_at hx4 (j := 4) rfl (by omega) hL2) ?_
    refine jl_aload_n 415 C dl_415 rfl ?_
    refine jl_callH 416 [.ref (gz_ad (lz_G Z) 0), .int (xs (5 * c + 1)), .int (xs (5 * c + 2)), .int (xs (5 * c + 3)), .int (xs (5 * c + 4)), .ref (gz_ad (lz_G Z) 173)] C dl_416 (lh1_summary (xz_l X) hl0 hI mm v h1) (lt_3 (i := 90) (by set_option maxRecDepth 100000 in exact rfl)) (lt_1 (i := 0) (by set_option maxRecDepth 100000 in exact rfl)) (lt_3 (i := 89) (by set_option maxRecDepth 100000 in exact rfl)) ll_61 (by decide) (n := 6) (by decide +kernel) (by decide) ⟨rfl, rfl⟩ ⟨by show 174 + c + 1 ≤ 601024; omega, by show 21461 + 6 * c + 6 ≤ 7293034; omega⟩ rfl rfl (Nat.le_of_ble_eq_true rfl) hx hxn hX.2.2 ?_
    refine jl_istore 419 [(0, .ref b), (1, .ref (gz_ad (lz_G Z) 0)), (2, .ref (gz_ad (lz_G Z) 152)), (3, .ref (gz_ad (lz_G Z) 173)), (4, .int x4), (5, .int 1)] C dl_419 rfl (by decide) rfl ?_
    refine jl_aload_n 421 C dl_421 rfl ?_
    refine jl_aload_n 422 C dl_422 rfl ?_
    refine jl_iload 423 C dl_423 rfl ?_
    refine jl_iconst 425 1 C dl_425 (by decide) ?_
    refine jl_iadd 426 C dl_426 ?_
    refine jl_sld 427 C dl_427 hX (ll_in hx4 (j := 1) rfl (by omega) hL2) ?_
    refine jl_top (ll_at hx4 (j := 1) rfl (by omega) hL2) ?_
    refine jl_aload_n 428 C dl_428 rfl ?_
    refine jl_iload 429 C dl_429 rfl ?_
    refine jl_iconst 431 2 C dl_431 (by decide) ?_
    refine jl_iadd 432 C dl_432 ?_
    refine jl_sld 433 C dl_433 hX (ll_in hx4 (j := 2) rfl (by omega) hL2) ?_
    refine jl_top (ll_at hx4 (j := 2) rfl (by omega) hL2) ?_
    refine jl_aload_n 434 C dl_434 rfl ?_
    refine jl_iload 435 C dl_435 rfl ?_
    refine jl_iconst 437 3 C dl_437 (by decide) ?_
    refine jl_iadd 438 C dl_438 ?_
    refine jl_sld 439 C dl_439 hX (ll_in hx4 (j := 3) rfl (by omega) hL2) ?_
    refine jl_top (ll_at hx4 (j := 3) rfl (by omega) hL2) ?_
    refine jl_aload_n 440 C dl_440 rfl ?_
    refine jl_iload 441 C dl_441 rfl ?_
    refine jl_iconst 443 4 C dl_443 (by decide) ?_
    refine jl_iadd 444 C dl_444 ?_
    refine jl_sld 445 C dl_445 hX (ll_in hx4 (j := 4) rfl (by omega) hL2) ?_
    refine jl_top (ll_at hx4 (j := 4) rfl (by omega) hL2) ?_
    refine jl_callV 446 [.int (xs (5 * c + 1)), .int (xs (5 * c + 2)), .int (xs (5 * c + 3)), .int (xs (5 * c + 4))] C dl_446 (lf_M hI mc v (c_Mo_summary (xz_l X) (jz_I_sub lz_subM hI) h2)) sz_Mo_summary tz_Mo_summary ll_63 lo_Mo rfl (by decide) rfl rfl ⟨by show 174 + c + 1 ≤ 601024; omega, by show 21461 + 6 * c + 6 ≤ 7293034; omega⟩ (Nat.le_of_ble_eq_true rfl) rfl ?_
    refine jl_istore 449 [(0, .ref b), (1, .ref (gz_ad (lz_G Z) 0)), (2, .ref (gz_ad (lz_G Z) 152)), (3, .ref (gz_ad (lz_G Z) 173)), (4, .int x4), (5, .int 1), (6, .int q.1)] C dl_449 rfl (by decide) rfl ?_
    refine jl_aload_n 451 C dl_451 rfl ?_
    refine jl_callV 452 [] C dl_452 (lf_M hI mc v (c_Mo_thrown (xz_l X) (jz_I_sub lz_subM hI) (r := q.2 0 0) rfl)) sz_Mo_thrown tz_Mo_thrown ll_53 lo_Mo rfl (by decide) rfl rfl ⟨by show 174 + c + 1 ≤ 601024; omega, by show 21461 + 6 * c + 6 ≤ 7293034; omega⟩ (Nat.le_of_ble_eq_true rfl) rfl ?_
    refine jl_iload 455 C dl_455 rfl ?_
    refine jl_icmp_eq 457 462 C dl_457 (by decide) (fun _ => ?_) (fun qq => absurd (by rw [ht]) qq)
    refine jl_iload 462 C dl_462 rfl ?_
    refine jl_if_ne 464 479 C dl_464 (by decide) (fun _ => ?_) (fun qq => absurd (by decide) qq)
    refine jl_goto 479 935 C dl_479 (by decide) ?_
    refine jl_sub [0, 1, 2, 3, 4] rfl ?_
    exact jl_widen (by omega) (by omega) (kend _ _ _ hi)
  · skip
    refine jl_aload_n 390 C dl_390 rfl ?_
    refine jl_aload_n 391 C dl_391 rfl ?_
    refine jl_iload 392 C dl_392 rfl ?_
    refine jl_iconst 394 1 C dl_394 (by decide) ?_
    refine jl_iadd 395 C dl_395 ?_
    refine jl_sld 396 C dl_396 hX (ll_in hx4 (j := 1) rfl (by omega) hL2) ?_
    refine jl_top (ll_at hx4 (j := 1) rfl (by omega) hL2) ?_
    refine jl_aload_n 397 C dl_397 rfl ?_
    refine jl_iload 398 C dl_398 rfl ?_
    refine jl_iconst 400 2 C dl_400 (by decide) ?_
    refine jl_iadd 401 C dl_401 ?_
    refine jl_sld 402 C dl_402 hX (ll_in hx4 (j := 2) rfl (by omega) hL2) ?_
    refine jl_top (ll_at hx4 (j := 2) rfl (by omega) hL2) ?_
    refine jl_aload_n 403 C dl_403 rfl ?_
    refine jl_iload 404 C dl_404 rfl ?_
    refine jl_iconst 406 3 C dl_406 (by decide) ?_
    refine jl_iadd 407 C dl_407 ?_
    refine jl_sld 408 C dl_408 hX (ll_in hx4 (j := 3) rfl (by omega) hL2) ?_
    refine jl_top (ll_at hx4 (j := 3) rfl (by omega) hL2) ?_
    refine jl_aload_n 409 C dl_409 rfl ?_
    refine jl_iload 410 C dl_410 rfl ?_
    refine jl_iconst 412 4 C dl_412 (by decide) ?_
    refine jl_iadd 413 C dl_413 ?_
    refine jl_sld 414 C dl_414 hX (ll_in hx4 (j := 4) rfl (by omega) hL2) ?_
    refine jl_top (ll_at hx4 (j := 4) rfl (by omega) hL2) ?_
    refine jl_aload_n 415 C dl_415 rfl ?_
    refine jl_callH 416 [.ref (gz_ad (lz_G Z) 0), .int (xs (5 * c + 1)), .int (xs (5 * c + 2)), .int (xs (5 * c + 3)), .int (xs (5 * c + 4)), .ref (gz_ad (lz_G Z) 173)] C dl_416 (lh2_summary (xz_l X) hl0 hI mm v h1) (lt_3 (i := 90) (by set_option maxRecDepth 100000 in exact rfl)) (lt_1 (i := 0) (by set_option maxRecDepth 100000 in exact rfl)) (lt_3 (i := 89) (by set_option maxRecDepth 100000 in exact rfl)) ll_61 (by decide) (n := 6) (by decide +kernel) (by decide) ⟨rfl, rfl⟩ ⟨by show 174 + c + 1 ≤ 601024; omega, by show 21461 + 6 * c + 6 ≤ 7293034; omega⟩ rfl rfl (Nat.le_of_ble_eq_true rfl) hx hxn hX.2.2 ?_
    refine jl_istore 419 [(0, .ref b), (1, .ref (gz_ad (lz_G Z) 0)), (2, .ref (gz_ad (lz_G Z) 152)), (3, .ref (gz_ad (lz_G Z) 173)), (4, .int x4), (5, .int 2)] C dl_419 rfl (by decide) rfl ?_
    refine jl_aload_n 421 C dl_421 rfl ?_
    refine jl_aload_n 422 C dl_422 rfl ?_
    refine jl_iload 423 C dl_423 rfl ?_
    refine jl_iconst 425 1 C dl_425 (by decide) ?_
    refine jl_iadd 426 C dl_426 ?_
    refine jl_sld 427 C dl_427 hX (ll_in hx4 (j := 1) rfl (by omega) hL2) ?_
    refine jl_top (ll_at hx4 (j := 1) rfl (by omega) hL2) ?_
    refine jl_aload_n 428 C dl_428 rfl ?_
    refine jl_iload 429 C dl_429 rfl ?_
    refine jl_iconst 431 2 C dl_431 (by decide) ?_
    refine jl_iadd 432 C dl_432 ?_
    refine jl_sld 433 C dl_433 hX (ll_in hx4 (j := 2) rfl (by omega) hL2) ?_
    refine jl_top (ll_at hx4 (j := 2) rfl (by omega) hL2) ?_
    refine jl_aload_n 434 C dl_434 rfl ?_
    refine jl_iload 435 C dl_435 rfl ?_
    refine jl_iconst 437 3 C dl_437 (by decide) ?_
    refine jl_iadd 438 C dl_438 ?_
    refine jl_sld 439 C dl_439 hX (ll_in hx4 (j := 3) rfl (by omega) hL2) ?_
    refine jl_top (ll_at hx4 (j := 3) rfl (by omega) hL2) ?_
    refine jl_aload_n 440 C dl_440 rfl ?_
    refine jl_iload 441 C dl_441 rfl ?_
    refine jl_iconst 443 4 C dl_443 (by decide) ?_
    refine jl_iadd 444 C dl_444 ?_
    refine jl_sld 445 C dl_445 hX (ll_in hx4 (j := 4) rfl (by omega) hL2) ?_
    refine jl_top (ll_at hx4 (j := 4) rfl (by omega) hL2) ?_
    refine jl_callV 446 [.int (xs (5 * c + 1)), .int (xs (5 * c + 2)), .int (xs (5 * c + 3)), .int (xs (5 * c + 4))] C dl_446 (lf_M hI mc v (c_Mo_summary (xz_l X) (jz_I_sub lz_subM hI) h2)) sz_Mo_summary tz_Mo_summary ll_63 lo_Mo rfl (by decide) rfl rfl ⟨by show 174 + c + 1 ≤ 601024; omega, by show 21461 + 6 * c + 6 ≤ 7293034; omega⟩ (Nat.le_of_ble_eq_true rfl) rfl ?_
    refine jl_istore 449 [(0, .ref b), (1, .ref (gz_ad (lz_G Z) 0)), (2, .ref (gz_ad (lz_G Z) 152)), (3, .ref (gz_ad (lz_G Z) 173)), (4, .int x4), (5, .int 2), (6, .int q.1)] C dl_449 rfl (by decide) rfl ?_
    refine jl_aload_n 451 C dl_451 rfl ?_
    refine jl_callV 452 [] C dl_452 (lf_M hI mc v (c_Mo_thrown (xz_l X) (jz_I_sub lz_subM hI) (r := q.2 0 0) rfl)) sz_Mo_thrown tz_Mo_thrown ll_53 lo_Mo rfl (by decide) rfl rfl ⟨by show 174 + c + 1 ≤ 601024; omega, by show 21461 + 6 * c + 6 ≤ 7293034; omega⟩ (Nat.le_of_ble_eq_true rfl) rfl ?_
    refine jl_iload 455 C dl_455 rfl ?_
    refine jl_icmp_eq 457 462 C dl_457 (by decide) (fun _ => ?_) (fun qq => absurd (by rw [ht]) qq)
    refine jl_iload 462 C dl_462 rfl ?_
    refine jl_if_ne 464 479 C dl_464 (by decide) (fun _ => ?_) (fun qq => absurd (by decide) qq)
    refine jl_goto 479 935 C dl_479 (by decide) ?_
    refine jl_sub [0, 1, 2, 3, 4] rfl ?_
    exact jl_widen (by omega) (by omega) (kend _ _ _ hi)
  · skip
    refine jl_aload_n 390 C dl_390 rfl ?_
    refine jl_aload_n 391 C dl_391 rfl ?_
    refine jl_iload 392 C dl_392 rfl ?_
    refine jl_iconst 394 1 C dl_394 (by decide) ?_
    refine jl_iadd 395 C dl_395 ?_
    refine jl_sld 396 C dl_396 hX (ll_in hx4 (j := 1) rfl (by omega) hL2) ?_
    refine jl_top (ll_at hx4 (j := 1) rfl (by omega) hL2) ?_
    refine jl_aload_n 397 C dl_397 rfl ?_
    refine jl_iload 398 C dl_398 rfl ?_
    refine jl_iconst 400 2 C dl_400 (by decide) ?_
    refine jl_iadd 401 C dl_401 ?_
    refine jl_sld 402 C dl_402 hX (ll_in hx4 (j := 2) rfl (by omega) hL2) ?_
    refine jl_top (ll_at hx4 (j := 2) rfl (by omega) hL2) ?_
    refine jl_aload_n 403 C dl_403 rfl ?_
    refine jl_iload 404 C dl_404 rfl ?_
    refine jl_iconst 406 3 C dl_406 (by decide) ?_
    refine jl_iadd 407 C dl_407 ?_
    refine jl_sld 408 C dl_408 hX (ll_in hx4 (j := 3) rfl (by omega) hL2) ?_
    refine jl_top (ll_at hx4 (j := 3) rfl (by omega) hL2) ?_
    refine jl_aload_n 409 C dl_409 rfl ?_
    refine jl_iload 410 C dl_410 rfl ?_
    refine jl_iconst 412 4 C dl_412 (by decide) ?_
    refine jl_iadd 413 C dl_413 ?_
    refine jl_sld 414 C dl_414 hX (ll_in hx4 (j := 4) rfl (by omega) hL2) ?_
    refine jl_top (ll_at hx4 (j := 4) rfl (by omega) hL2) ?_
    refine jl_aload_n 415 C dl_415 rfl ?_
    refine jl_callH 416 [.ref (gz_ad (lz_G Z) 0), .int (xs (5 * c + 1)), .int (xs (5 * c + 2)), .int (xs (5 * c + 3)), .int (xs (5 * c + 4)), .ref (gz_ad (lz_G Z) 173)] C dl_416 (lh3_summary (xz_l X) hl0 hI mm v h0 h1) (lt_3 (i := 90) (by set_option maxRecDepth 100000 in exact rfl)) (lt_1 (i := 0) (by set_option maxRecDepth 100000 in exact rfl)) (lt_3 (i := 89) (by set_option maxRecDepth 100000 in exact rfl)) ll_61 (by decide) (n := 6) (by decide +kernel) (by decide) ⟨rfl, rfl⟩ ⟨by show 174 + c + 1 ≤ 601024; omega, by show 21461 + 6 * c + 6 ≤ 7293034; omega⟩ rfl rfl (Nat.le_of_ble_eq_true rfl) hx hxn hX.2.2 ?_
    refine jl_istore 419 [(0, .ref b), (1, .ref (gz_ad (lz_G Z) 0)), (2, .ref (gz_ad (lz_G Z) 152)), (3, .ref (gz_ad (lz_G Z) 173)), (4, .int x4), (5, .int 3)] C dl_419 rfl (by decide) rfl ?_
    refine jl_aload_n 421 C dl_421 rfl ?_
    refine jl_aload_n 422 C dl_422 rfl ?_
    refine jl_iload 423 C dl_423 rfl ?_
    refine jl_iconst 425 1 C dl_425 (by decide) ?_
    refine jl_iadd 426 C dl_426 ?_
    refine jl_sld 427 C dl_427 hX (ll_in hx4 (j := 1) rfl (by omega) hL2) ?_
    refine jl_top (ll_at hx4 (j := 1) rfl (by omega) hL2) ?_
    refine jl_aload_n 428 C dl_428 rfl ?_
    refine jl_iload 429 C dl_429 rfl ?_
    refine jl_iconst 431 2 C dl_431 (by decide) ?_
    refine jl_iadd 432 C dl_432 ?_
    refine jl_sld 433 C dl_433 hX (ll_in hx4 (j := 2) rfl (by omega) hL2) ?_
    refine jl_top (ll_at hx4 (j := 2) rfl (by omega) hL2) ?_
    refine jl_aload_n 434 C dl_434 rfl ?_
    refine jl_iload 435 C dl_435 rfl ?_
    refine jl_iconst 437 3 C dl_437 (by decide) ?_
    refine jl_iadd 438 C dl_438 ?_
    refine jl_sld 439 C dl_439 hX (ll_in hx4 (j := 3) rfl (by omega) hL2) ?_
    refine jl_top (ll_at hx4 (j := 3) rfl (by omega) hL2) ?_
    refine jl_aload_n 440 C dl_440 rfl ?_
    refine jl_iload 441 C dl_441 rfl ?_
    refine jl_iconst 443 4 C dl_443 (by decide) ?_
    refine jl_iadd 444 C dl_444 ?_
    refine jl_sld 445 C dl_445 hX (ll_in hx4 (j := 4) rfl (by omega) hL2) ?_
    refine jl_top (ll_at hx4 (j := 4) rfl (by omega) hL2) ?_
    refine jl_callV 446 [.int (xs (5 * c + 1)), .int (xs (5 * c + 2)), .int (xs (5 * c + 3)), .int (xs (5 * c + 4))] C dl_446 (lf_M hI mc v (c_Mo_summary (xz_l X) (jz_I_sub lz_subM hI) h2)) sz_Mo_summary tz_Mo_summary ll_63 lo_Mo rfl (by decide) rfl rfl ⟨by show 174 + c + 1 ≤ 601024; omega, by show 21461 + 6 * c + 6 ≤ 7293034; omega⟩ (Nat.le_of_ble_eq_true rfl) rfl ?_
    refine jl_istore 449 [(0, .ref b), (1, .ref (gz_ad (lz_G Z) 0)), (2, .ref (gz_ad (lz_G Z) 152)), (3, .ref (gz_ad (lz_G Z) 173)), (4, .int x4), (5, .int 3), (6, .int q.1)] C dl_449 rfl (by decide) rfl ?_
    refine jl_aload_n 451 C dl_451 rfl ?_
    refine jl_callV 452 [] C dl_452 (lf_M hI mc v (c_Mo_thrown (xz_l X) (jz_I_sub lz_subM hI) (r := q.2 0 0) rfl)) sz_Mo_thrown tz_Mo_thrown ll_53 lo_Mo rfl (by decide) rfl rfl ⟨by show 174 + c + 1 ≤ 601024; omega, by show 21461 + 6 * c + 6 ≤ 7293034; omega⟩ (Nat.le_of_ble_eq_true rfl) rfl ?_
    refine jl_iload 455 C dl_455 rfl ?_
    refine jl_icmp_eq 457 462 C dl_457 (by decide) (fun _ => ?_) (fun qq => absurd (by rw [ht]) qq)
    refine jl_iload 462 C dl_462 rfl ?_
    refine jl_if_ne 464 479 C dl_464 (by decide) (fun _ => ?_) (fun qq => absurd (by decide) qq)
    refine jl_goto 479 935 C dl_479 (by decide) ?_
    refine jl_sub [0, 1, 2, 3, 4] rfl ?_
    exact jl_widen (by omega) (by omega) (kend _ _ _ hi)
set_option maxHeartbeats 4000000 in
set_option maxRecDepth 100000 in
theorem lc_request {X : jz_X} {Z : cz_Z} {b L : Nat} {xs : Nat → Int32} {Q : State → Prop} (C : jz_C X 7 code R_Lw (some .boolean) room_1 (lz_G Z)) (hX : jl_S X (lz_G Z) b L xs) (hI : jz_I (lz_G Z)) (hx : xz_ok (xz_s X)) (hxn : xn_ok (xz_s X)) (hl0 : (xz_l X).stackTraces = false) {I : Nat → jz_M → jz_M → Prop} (hs : sp_request I) {c : Nat} {mc mm : jz_M} {v x4 : Int32} (hc : c < 512) (hInv : I c mc mm) (hx4 : x4 = nI (5 * c)) (hL : 5 * c + 5 ≤ L) (hL2 : L ≤ 2560) (kend : ∀ (mc2 mm2 : jz_M) (v2 : Int32), I (c + 1) mc2 mm2 → jl_J X 7 (lz_G Z) (174 + (c + 1)) (21461 + 6 * (c + 1)) Q (lm_ mc2 mm2 v2) [(0, .ref b), (1, .ref (gz_ad (lz_G Z) 0)), (2, .ref (gz_ad (lz_G Z) 152)), (3, .ref (gz_ad (lz_G Z) 173)), (4, .int x4)] 935 []) : jl_J X 7 (lz_G Z) (174 + c) (21461 + 6 * c) Q (lm_ mc mm v) [(0, .ref b), (1, .ref (gz_ad (lz_G Z) 0)), (2, .ref (gz_ad (lz_G Z) 152)), (3, .ref (gz_ad (lz_G Z) 173)), (4, .int x4)] 482 [] := by
  have hcs : 174 + c ≤ room_1.cells ∧ 21461 + 6 * c ≤ room_1.slots := ⟨by show 174 + c ≤ 601024; omega, by show 21461 + 6 * c ≤ 7293034; omega⟩
  obtain ⟨q, h2, hq⟩ := hs c mc mm hc hInv (xs (5 * c + 1)) (xs (5 * c + 2)) (xs (5 * c + 3)) (xs (5 * c + 4))
  rcases hq with ⟨r, h1, ht, hr, hi⟩ | ⟨h1, ht, hi⟩ | ⟨h1, ht, hi⟩ | ⟨h0, h1, ht, hi⟩
  · skip
    refine jl_aload_n 482 C dl_482 rfl ?_
    refine jl_aload_n 483 C dl_483 rfl ?_
    refine jl_iload 484 C dl_484 rfl ?_
    refine jl_iconst 486 1 C dl_486 (by decide) ?_
    refine jl_iadd 487 C dl_487 ?_
    refine jl_sld 488 C dl_488 hX (ll_in hx4 (j := 1) rfl (by omega) hL2) ?_
    refine jl_top (ll_at hx4 (j := 1) rfl (by omega) hL2) ?_
    refine jl_aload_n 489 C dl_489 rfl ?_
    refine jl_iload 490 C dl_490 rfl ?_
    refine jl_iconst 492 2 C dl_492 (by decide) ?_
    refine jl_iadd 493 C dl_493 ?_
    refine jl_sld 494 C dl_494 hX (ll_in hx4 (j := 2) rfl (by omega) hL2) ?_
    refine jl_top (ll_at hx4 (j := 2) rfl (by omega) hL2) ?_
    refine jl_aload_n 495 C dl_495 rfl ?_
    refine jl_iload 496 C dl_496 rfl ?_
    refine jl_iconst 498 3 C dl_498 (by decide) ?_
    refine jl_iadd 499 C dl_499 ?_
    refine jl_sld 500 C dl_500 hX (ll_in hx4 (j := 3) rfl (by omega) hL2) ?_
    refine jl_top (ll_at hx4 (j := 3) rfl (by omega) hL2) ?_
    refine jl_aload_n 501 C dl_501 rfl ?_
    refine jl_iload 502 C dl_502 rfl ?_
    refine jl_iconst 504 4 C dl_504 (by decide) ?_
    refine jl_iadd 505 C dl_505 ?_
    refine jl_sld 506 C dl_506 hX (ll_in hx4 (j := 4) rfl (by omega) hL2) ?_
    refine jl_top (ll_at hx4 (j := 4) rfl (by omega) hL2) ?_
    refine jl_aload_n 507 C dl_507 rfl ?_
    refine jl_callH 508 [.ref (gz_ad (lz_G Z) 0), .int (xs (5 * c + 1)), .int (xs (5 * c + 2)), .int (xs (5 * c + 3)), .int (xs (5 * c + 4)), .ref (gz_ad (lz_G Z) 173)] C dl_508 (lh0_request (xz_l X) hI mm v h1) (lt_3 (i := 112) (by set_option maxRecDepth 100000 in exact rfl)) (lt_1 (i := 0) (by set_option maxRecDepth 100000 in exact rfl)) (lt_3 (i := 111) (by set_option maxRecDepth 100000 in exact rfl)) ll_64 (by decide) (n := 6) (by decide +kernel) (by decide) ⟨rfl, rfl⟩ ⟨by show 174 + c + 1 ≤ 601024; omega, by show 21461 + 6 * c + 6 ≤ 7293034; omega⟩ rfl rfl (Nat.le_of_ble_eq_true rfl) hx hxn hX.2.2 ?_
    refine jl_istore 511 [(0, .ref b), (1, .ref (gz_ad (lz_G Z) 0)), (2, .ref (gz_ad (lz_G Z) 152)), (3, .ref (gz_ad (lz_G Z) 173)), (4, .int x4), (5, .int 0)] C dl_511 rfl (by decide) rfl ?_
    refine jl_aload_n 513 C dl_513 rfl ?_
    refine jl_aload_n 514 C dl_514 rfl ?_
    refine jl_iload 515 C dl_515 rfl ?_
    refine jl_iconst 517 1 C dl_517 (by decide) ?_
    refine jl_iadd 518 C dl_518 ?_
    refine jl_sld 519 C dl_519 hX (ll_in hx4 (j := 1) rfl (by omega) hL2) ?_
    refine jl_top (ll_at hx4 (j := 1) rfl (by omega) hL2) ?_
    refine jl_aload_n 520 C dl_520 rfl ?_
    refine jl_iload 521 C dl_521 rfl ?_
    refine jl_iconst 523 2 C dl_523 (by decide) ?_
    refine jl_iadd 524 C dl_524 ?_
    refine jl_sld 525 C dl_525 hX (ll_in hx4 (j := 2) rfl (by omega) hL2) ?_
    refine jl_top (ll_at hx4 (j := 2) rfl (by omega) hL2) ?_
    refine jl_aload_n 526 C dl_526 rfl ?_
    refine jl_iload 527 C dl_527 rfl ?_
    refine jl_iconst 529 3 C dl_529 (by decide) ?_
    refine jl_iadd 530 C dl_530 ?_
    refine jl_sld 531 C dl_531 hX (ll_in hx4 (j := 3) rfl (by omega) hL2) ?_
    refine jl_top (ll_at hx4 (j := 3) rfl (by omega) hL2) ?_
    refine jl_aload_n 532 C dl_532 rfl ?_
    refine jl_iload 533 C dl_533 rfl ?_
    refine jl_iconst 535 4 C dl_535 (by decide) ?_
    refine jl_iadd 536 C dl_536 ?_
    refine jl_sld 537 C dl_537 hX (ll_in hx4 (j := 4) rfl (by omega) hL2) ?_
    refine jl_top (ll_at hx4 (j := 4) rfl (by omega) hL2) ?_
    refine jl_callV 538 [.int (xs (5 * c + 1)), .int (xs (5 * c + 2)), .int (xs (5 * c + 3)), .int (xs (5 * c + 4))] C dl_538 (lf_M hI r.2 r.1 (c_Mo_request (xz_l X) (jz_I_sub lz_subM hI) h2)) sz_Mo_request tz_Mo_request ll_66 lo_Mo rfl (by decide) rfl rfl ⟨by show 174 + c + 1 ≤ 601024; omega, by show 21461 + 6 * c + 6 ≤ 7293034; omega⟩ (Nat.le_of_ble_eq_true rfl) rfl ?_
    refine jl_istore 541 [(0, .ref b), (1, .ref (gz_ad (lz_G Z) 0)), (2, .ref (gz_ad (lz_G Z) 152)), (3, .ref (gz_ad (lz_G Z) 173)), (4, .int x4), (5, .int 0), (6, .int q.1)] C dl_541 rfl (by decide) rfl ?_
    refine jl_aload_n 543 C dl_543 rfl ?_
    refine jl_callV 544 [] C dl_544 (lf_M hI r.2 r.1 (c_Mo_thrown (xz_l X) (jz_I_sub lz_subM hI) (r := q.2 0 0) rfl)) sz_Mo_thrown tz_Mo_thrown ll_53 lo_Mo rfl (by decide) rfl rfl ⟨by show 174 + c + 1 ≤ 601024; omega, by show 21461 + 6 * c + 6 ≤ 7293034; omega⟩ (Nat.le_of_ble_eq_true rfl) rfl ?_
    refine jl_iload 547 C dl_547 rfl ?_
    refine jl_icmp_eq 549 554 C dl_549 (by decide) (fun _ => ?_) (fun qq => absurd (by rw [ht]) qq)
    refine jl_iload 554 C dl_554 rfl ?_
    refine jl_if_ne 556 571 C dl_556 (by decide) (fun qq => absurd rfl qq) (fun _ => ?_)
    refine jl_aload_n 559 C dl_559 rfl ?_
    refine jl_iconst 560 0 C dl_560 (by decide) ?_
    refine jl_lald 561 C dl_561 ?_
    refine jl_iload 562 C dl_562 rfl ?_
    refine jl_i2l 564 C dl_564 ?_
    refine jl_lcmp 565 C dl_565 (by rw [hr]) ?_
    refine jl_if_eq 566 571 C dl_566 (by decide) (fun _ => ?_) (fun qq => absurd rfl qq)
    refine jl_goto 571 935 C dl_571 (by decide) ?_
    refine jl_sub [0, 1, 2, 3, 4] rfl ?_
    exact jl_widen (by omega) (by omega) (kend _ _ _ hi)
  · skip
    refine jl_aload_n 482 C dl_482 rfl ?_
    refine jl_aload_n 483 C dl_483 rfl ?_
    refine jl_iload 484 C dl_484 rfl ?_
    refine jl_iconst 486 1 C dl_486 (by decide) ?_
    refine jl_iadd 487 C dl_487 ?_
    refine jl_sld 488 C dl_488 hX (ll_in hx4 (j := 1) rfl (by omega) hL2) ?_
    refine jl_top (ll_at hx4 (j := 1) rfl (by omega) hL2) ?_
    refine jl_aload_n 489 C dl_489 rfl ?_
    refine jl_iload 490 C dl_490 rfl ?_
    refine jl_iconst 492 2 C dl_492 (by decide) ?_
    refine jl_iadd 493 C dl_493 ?_
    refine jl_sld 494 C dl_494 hX (ll_in hx4 (j := 2) rfl (by omega) hL2) ?_
    refine jl_top (ll_at hx4 (j := 2) rfl (by omega) hL2) ?_
    refine jl_aload_n 495 C dl_495 rfl ?_
    refine jl_iload 496 C dl_496 rfl ?_
    refine jl_iconst 498 3 C dl_498 (by decide) ?_
    refine jl_iadd 499 C dl_499 ?_
    refine jl_sld 500 C dl_500 hX (ll_in hx4 (j := 3) rfl (by omega) hL2) ?_
    refine jl_top (ll_at hx4 (j := 3) rfl (by omega) hL2) ?_
    refine jl_aload_n 501 C dl_501 rfl ?_
    refine jl_iload 502 C dl_502 rfl ?_
    refine jl_iconst 504 4 C dl_504 (by decide) ?_
    refine jl_iadd 505 C dl_505 ?_
    refine jl_sld 506 C dl_506 hX (ll_in hx4 (j := 4) rfl (by omega) hL2) ?_
    refine jl_top (ll_at hx4 (j := 4) rfl (by omega) hL2) ?_
    refine jl_aload_n 507 C dl_507 rfl ?_
    refine jl_callH 508 [.ref (gz_ad (lz_G Z) 0), .int (xs (5 * c + 1)), .int (xs (5 * c + 2)), .int (xs (5 * c + 3)), .int (xs (5 * c + 4)), .ref (gz_ad (lz_G Z) 173)] C dl_508 (lh1_request (xz_l X) hl0 hI mm v h1) (lt_3 (i := 112) (by set_option maxRecDepth 100000 in exact rfl)) (lt_1 (i := 0) (by set_option maxRecDepth 100000 in exact rfl)) (lt_3 (i := 111) (by set_option maxRecDepth 100000 in exact rfl)) ll_64 (by decide) (n := 6) (by decide +kernel) (by decide) ⟨rfl, rfl⟩ ⟨by show 174 + c + 1 ≤ 601024; omega, by show 21461 + 6 * c + 6 ≤ 7293034; omega⟩ rfl rfl (Nat.le_of_ble_eq_true rfl) hx hxn hX.2.2 ?_
    refine jl_istore 511 [(0, .ref b), (1, .ref (gz_ad (lz_G Z) 0)), (2, .ref (gz_ad (lz_G Z) 152)), (3, .ref (gz_ad (lz_G Z) 173)), (4, .int x4), (5, .int 1)] C dl_511 rfl (by decide) rfl ?_
    refine jl_aload_n 513 C dl_513 rfl ?_
    refine jl_aload_n 514 C dl_514 rfl ?_
    refine jl_iload 515 C dl_515 rfl ?_
    refine jl_iconst 517 1 C dl_517 (by decide) ?_
    refine jl_iadd 518 C dl_518 ?_
    refine jl_sld 519 C dl_519 hX (ll_in hx4 (j := 1) rfl (by omega) hL2) ?_
    refine jl_top (ll_at hx4 (j := 1) rfl (by omega) hL2) ?_
    refine jl_aload_n 520 C dl_520 rfl ?_
    refine jl_iload 521 C dl_521 rfl ?_
    refine jl_iconst 523 2 C dl_523 (by decide) ?_
    refine jl_iadd 524 C dl_524 ?_
    refine jl_sld 525 C dl_525 hX (ll_in hx4 (j := 2) rfl (by omega) hL2) ?_
    refine jl_top (ll_at hx4 (j := 2) rfl (by omega) hL2) ?_
    refine jl_aload_n 526 C dl_526 rfl ?_
    refine jl_iload 527 C dl_527 rfl ?_
    refine jl_iconst 529 3 C dl_529 (by decide) ?_
    refine jl_iadd 530 C dl_530 ?_
    refine jl_sld 531 C dl_531 hX (ll_in hx4 (j := 3) rfl (by omega) hL2) ?_
    refine jl_top (ll_at hx4 (j := 3) rfl (by omega) hL2) ?_
    refine jl_aload_n 532 C dl_532 rfl ?_
    refine jl_iload 533 C dl_533 rfl ?_
    refine jl_iconst 535 4 C dl_535 (by decide) ?_
    refine jl_iadd 536 C dl_536 ?_
    refine jl_sld 537 C dl_537 hX (ll_in hx4 (j := 4) rfl (by omega) hL2) ?_
    refine jl_top (ll_at hx4 (j := 4) rfl (by omega) hL2) ?_
    refine jl_callV 538 [.int (xs (5 * c + 1)), .int (xs (5 * c + 2)), .int (xs (5 * c + 3)), .int (xs (5 * c + 4))] C dl_538 (lf_M hI mc v (c_Mo_request (xz_l X) (jz_I_sub lz_subM hI) h2)) sz_Mo_request tz_Mo_request ll_66 lo_Mo rfl (by decide) rfl rfl ⟨by show 174 + c + 1 ≤ 601024; omega, by show 21461 + 6 * c + 6 ≤ 7293034; omega⟩ (Nat.le_of_ble_eq_true rfl) rfl ?_
    refine jl_istore 541 [(0, .ref b), (1, .ref (gz_ad (lz_G Z) 0)), (2, .ref (gz_ad (lz_G Z) 152)), (3, .ref (gz_ad (lz_G Z) 173)), (4, .int x4), (5, .int 1), (6, .int q.1)] C dl_541 rfl (by decide) rfl ?_
    refine jl_aload_n 543 C dl_543 rfl ?_
    refine jl_callV 544 [] C dl_544 (lf_M hI mc v (c_Mo_thrown (xz_l X) (jz_I_sub lz_subM hI) (r := q.2 0 0) rfl)) sz_Mo_thrown tz_Mo_thrown ll_53 lo_Mo rfl (by decide) rfl rfl ⟨by show 174 + c + 1 ≤ 601024; omega, by show 21461 + 6 * c + 6 ≤ 7293034; omega⟩ (Nat.le_of_ble_eq_true rfl) rfl ?_
    refine jl_iload 547 C dl_547 rfl ?_
    refine jl_icmp_eq 549 554 C dl_549 (by decide) (fun _ => ?_) (fun qq => absurd (by rw [ht]) qq)
    refine jl_iload 554 C dl_554 rfl ?_
    refine jl_if_ne 556 571 C dl_556 (by decide) (fun _ => ?_) (fun qq => absurd (by decide) qq)
    refine jl_goto 571 935 C dl_571 (by decide) ?_
    refine jl_sub [0, 1, 2, 3, 4] rfl ?_
    exact jl_widen (by omega) (by omega) (kend _ _ _ hi)
  · skip
    refine jl_aload_n 482 C dl_482 rfl ?_
    refine jl_aload_n 483 C dl_483 rfl ?_
    refine jl_iload 484 C dl_484 rfl ?_
    refine jl_iconst 486 1 C dl_486 (by decide) ?_
    refine jl_iadd 487 C dl_487 ?_
    refine jl_sld 488 C dl_488 hX (ll_in hx4 (j := 1) rfl (by omega) hL2) ?_
    refine jl_top (ll_at hx4 (j := 1) rfl (by omega) hL2) ?_
    refine jl_aload_n 489 C dl_489 rfl ?_
    refine jl_iload 490 C dl_490 rfl ?_
    refine jl_iconst 492 2 C dl_492 (by decide) ?_
    refine jl_iadd 493 C dl_493 ?_
    refine jl_sld 494 C dl_494 hX (ll_in hx4 (j := 2) rfl (by omega) hL2) ?_
    refine jl_top (ll_at hx4 (j := 2) rfl (by omega) hL2) ?_
    refine jl_aload_n 495 C dl_495 rfl ?_
    refine jl_iload 496 C dl_496 rfl ?_
    refine jl_iconst 498 3 C dl_498 (by decide) ?_
    refine jl_iadd 499 C dl_499 ?_
    refine jl_sld 500 C dl_500 hX (ll_in hx4 (j := 3) rfl (by omega) hL2) ?_
    refine jl_top (ll_at hx4 (j := 3) rfl (by omega) hL2) ?_
    refine jl_aload_n 501 C dl_501 rfl ?_
    refine jl_iload 502 C dl_502 rfl ?_
    refine jl_iconst 504 4 C dl_504 (by decide) ?_
    refine jl_iadd 505 C dl_505 ?_
    refine jl_sld 506 C dl_506 hX (ll_in hx4 (j := 4) rfl (by omega) hL2) ?_
    refine jl_top (ll_at hx4 (j := 4) rfl (by omega) hL2) ?_
    refine jl_aload_n 507 C dl_507 rfl ?_
    refine jl_callH 508 [.ref (gz_ad (lz_G Z) 0), .int (xs (5 * c + 1)), .int (xs (5 * c + 2)), .int (xs (5 * c + 3)), .int (xs (5 * c + 4)), .ref (gz_ad (lz_G Z) 173)] C dl_508 (lh2_request (xz_l X) hl0 hI mm v h1) (lt_3 (i := 112) (by set_option maxRecDepth 100000 in exact rfl)) (lt_1 (i := 0) (by set_option maxRecDepth 100000 in exact rfl)) (lt_3 (i := 111) (by set_option maxRecDepth 100000 in exact rfl)) ll_64 (by decide) (n := 6) (by decide +kernel) (by decide) ⟨rfl, rfl⟩ ⟨by show 174 + c + 1 ≤ 601024; omega, by show 21461 + 6 * c + 6 ≤ 7293034; omega⟩ rfl rfl (Nat.le_of_ble_eq_true rfl) hx hxn hX.2.2 ?_
    refine jl_istore 511 [(0, .ref b), (1, .ref (gz_ad (lz_G Z) 0)), (2, .ref (gz_ad (lz_G Z) 152)), (3, .ref (gz_ad (lz_G Z) 173)), (4, .int x4), (5, .int 2)] C dl_511 rfl (by decide) rfl ?_
    refine jl_aload_n 513 C dl_513 rfl ?_
    refine jl_aload_n 514 C dl_514 rfl ?_
    refine jl_iload 515 C dl_515 rfl ?_
    refine jl_iconst 517 1 C dl_517 (by decide) ?_
    refine jl_iadd 518 C dl_518 ?_
    refine jl_sld 519 C dl_519 hX (ll_in hx4 (j := 1) rfl (by omega) hL2) ?_
    refine jl_top (ll_at hx4 (j := 1) rfl (by omega) hL2) ?_
    refine jl_aload_n 520 C dl_520 rfl ?_
    refine jl_iload 521 C dl_521 rfl ?_
    refine jl_iconst 523 2 C dl_523 (by decide) ?_
    refine jl_iadd 524 C dl_524 ?_
    refine jl_sld 525 C dl_525 hX (ll_in hx4 (j := 2) rfl (by omega) hL2) ?_
    refine jl_top (ll_at hx4 (j := 2) rfl (by omega) hL2) ?_
    refine jl_aload_n 526 C dl_526 rfl ?_
    refine jl_iload 527 C dl_527 rfl ?_
    refine jl_iconst 529 3 C dl_529 (by decide) ?_
    refine jl_iadd 530 C dl_530 ?_
    refine jl_sld 531 C dl_531 hX (ll_in hx4 (j := 3) rfl (by omega) hL2) ?_
    refine jl_top (ll_at hx4 (j := 3) rfl (by omega) hL2) ?_
    refine jl_aload_n 532 C dl_532 rfl ?_
    refine jl_iload 533 C dl_533 rfl ?_
    refine jl_iconst 535 4 C dl_535 (by decide) ?_
    refine jl_iadd 536 C dl_536 ?_
    refine jl_sld 537 C dl_537 hX (ll_in hx4 (j := 4) rfl (by omega) hL2) ?_
    refine jl_top (ll_at hx4 (j := 4) rfl (by omega) hL2) ?_
    refine jl_callV 538 [.int (xs (5 * c + 1)), .int (xs (5 * c + 2)), .int (xs (5 * c + 3)), .int (xs (5 * c + 4))] C dl_538 (lf_M hI mc v (c_Mo_request (xz_l X) (jz_I_sub lz_subM hI) h2)) sz_Mo_request tz_Mo_request ll_66 lo_Mo rfl (by decide) rfl rfl ⟨by show 174 + c + 1 ≤ 601024; omega, by show 21461 + 6 * c + 6 ≤ 7293034; omega⟩ (Nat.le_of_ble_eq_true rfl) rfl ?_
    refine jl_istore 541 [(0, .ref b), (1, .ref (gz_ad (lz_G Z) 0)), (2, .ref (gz_ad (lz_G Z) 152)), (3, .ref (gz_ad (lz_G Z) 173)), (4, .int x4), (5, .int 2), (6, .int q.1)] C dl_541 rfl (by decide) rfl ?_
    refine jl_aload_n 543 C dl_543 rfl ?_
    refine jl_callV 544 [] C dl_544 (lf_M hI mc v (c_Mo_thrown (xz_l X) (jz_I_sub lz_subM hI) (r := q.2 0 0) rfl)) sz_Mo_thrown tz_Mo_thrown ll_53 lo_Mo rfl (by decide) rfl rfl ⟨by show 174 + c + 1 ≤ 601024; omega, by show 21461 + 6 * c + 6 ≤ 7293034; omega⟩ (Nat.le_of_ble_eq_true rfl) rfl ?_
    refine jl_iload 547 C dl_547 rfl ?_
    refine jl_icmp_eq 549 554 C dl_549 (by decide) (fun _ => ?_) (fun qq => absurd (by rw [ht]) qq)
    refine jl_iload 554 C dl_554 rfl ?_
    refine jl_if_ne 556 571 C dl_556 (by decide) (fun _ => ?_) (fun qq => absurd (by decide) qq)
    refine jl_goto 571 935 C dl_571 (by decide) ?_
    refine jl_sub [0, 1, 2, 3, 4] rfl ?_
    exact jl_widen (by omega) (by omega) (kend _ _ _ hi)
  · skip
    refine jl_aload_n 482 C dl_482 rfl ?_
    refine jl_aload_n 483 C dl_483 rfl ?_
    refine jl_iload 484 C dl_484 rfl ?_
    refine jl_iconst 486 1 C dl_486 (by decide) ?_
    refine jl_iadd 487 C dl_487 ?_
    refine jl_sld 488 C dl_488 hX (ll_in hx4 (j := 1) rfl (by omega) hL2) ?_
    refine jl_top (ll_at hx4 (j := 1) rfl (by omega) hL2) ?_
    refine jl_aload_n 489 C dl_489 rfl ?_
    refine jl_iload 490 C dl_490 rfl ?_
    refine jl_iconst 492 2 C dl_492 (by decide) ?_
    refine jl_iadd 493 C dl_493 ?_
    refine jl_sld 494 C dl_494 hX (ll_in hx4 (j := 2) rfl (by omega) hL2) ?_
    refine jl_top (ll_at hx4 (j := 2) rfl (by omega) hL2) ?_
    refine jl_aload_n 495 C dl_495 rfl ?_
    refine jl_iload 496 C dl_496 rfl ?_
    refine jl_iconst 498 3 C dl_498 (by decide) ?_
    refine jl_iadd 499 C dl_499 ?_
    refine jl_sld 500 C dl_500 hX (ll_in hx4 (j := 3) rfl (by omega) hL2) ?_
    refine jl_top (ll_at hx4 (j := 3) rfl (by omega) hL2) ?_
    refine jl_aload_n 501 C dl_501 rfl ?_
    refine jl_iload 502 C dl_502 rfl ?_
    refine jl_iconst 504 4 C dl_504 (by decide) ?_
    refine jl_iadd 505 C dl_505 ?_
    refine jl_sld 506 C dl_506 hX (ll_in hx4 (j := 4) rfl (by omega) hL2) ?_
    refine jl_top (ll_at hx4 (j := 4) rfl (by omega) hL2) ?_
    refine jl_aload_n 507 C dl_507 rfl ?_
    refine jl_callH 508 [.ref (gz_ad (lz_G Z) 0), .int (xs (5 * c + 1)), .int (xs (5 * c + 2)), .int (xs (5 * c + 3)), .int (xs (5 * c + 4)), .ref (gz_ad (lz_G Z) 173)] C dl_508 (lh3_request (xz_l X) hl0 hI mm v h0 h1) (lt_3 (i := 112) (by set_option maxRecDepth 100000 in exact rfl)) (lt_1 (i := 0) (by set_option maxRecDepth 100000 in exact rfl)) (lt_3 (i := 111) (by set_option maxRecDepth 100000 in exact rfl)) ll_64 (by decide) (n := 6) (by decide +kernel) (by decide) ⟨rfl, rfl⟩ ⟨by show 174 + c + 1 ≤ 601024; omega, by show 21461 + 6 * c + 6 ≤ 7293034; omega⟩ rfl rfl (Nat.le_of_ble_eq_true rfl) hx hxn hX.2.2 ?_
    refine jl_istore 511 [(0, .ref b), (1, .ref (gz_ad (lz_G Z) 0)), (2, .ref (gz_ad (lz_G Z) 152)), (3, .ref (gz_ad (lz_G Z) 173)), (4, .int x4), (5, .int 3)] C dl_511 rfl (by decide) rfl ?_
    refine jl_aload_n 513 C dl_513 rfl ?_
    refine jl_aload_n 514 C dl_514 rfl ?_
    refine jl_iload 515 C dl_515 rfl ?_
    refine jl_iconst 517 1 C dl_517 (by decide) ?_
    refine jl_iadd 518 C dl_518 ?_
    refine jl_sld 519 C dl_519 hX (ll_in hx4 (j := 1) rfl (by omega) hL2) ?_
    refine jl_top (ll_at hx4 (j := 1) rfl (by omega) hL2) ?_
    refine jl_aload_n 520 C dl_520 rfl ?_
    refine jl_iload 521 C dl_521 rfl ?_
    refine jl_iconst 523 2 C dl_523 (by decide) ?_
    refine jl_iadd 524 C dl_524 ?_
    refine jl_sld 525 C dl_525 hX (ll_in hx4 (j := 2) rfl (by omega) hL2) ?_
    refine jl_top (ll_at hx4 (j := 2) rfl (by omega) hL2) ?_
    refine jl_aload_n 526 C dl_526 rfl ?_
    refine jl_iload 527 C dl_527 rfl ?_
    refine jl_iconst 529 3 C dl_529 (by decide) ?_
    refine jl_iadd 530 C dl_530 ?_
    refine jl_sld 531 C dl_531 hX (ll_in hx4 (j := 3) rfl (by omega) hL2) ?_
    refine jl_top (ll_at hx4 (j := 3) rfl (by omega) hL2) ?_
    refine jl_aload_n 532 C dl_532 rfl ?_
    refine jl_iload 533 C dl_533 rfl ?_
    refine jl_iconst 535 4 C dl_535 (by decide) ?_
    refine jl_iadd 536 C dl_536 ?_
    refine jl_sld 537 C dl_537 hX (ll_in hx4 (j := 4) rfl (by omega) hL2) ?_
    refine jl_top (ll_at hx4 (j := 4) rfl (by omega) hL2) ?_
    refine jl_callV 538 [.int (xs (5 * c + 1)), .int (xs (5 * c + 2)), .int (xs (5 * c + 3)), .int (xs (5 * c + 4))] C dl_538 (lf_M hI mc v (c_Mo_request (xz_l X) (jz_I_sub lz_subM hI) h2)) sz_Mo_request tz_Mo_request ll_66 lo_Mo rfl (by decide) rfl rfl ⟨by show 174 + c + 1 ≤ 601024; omega, by show 21461 + 6 * c + 6 ≤ 7293034; omega⟩ (Nat.le_of_ble_eq_true rfl) rfl ?_
    refine jl_istore 541 [(0, .ref b), (1, .ref (gz_ad (lz_G Z) 0)), (2, .ref (gz_ad (lz_G Z) 152)), (3, .ref (gz_ad (lz_G Z) 173)), (4, .int x4), (5, .int 3), (6, .int q.1)] C dl_541 rfl (by decide) rfl ?_
    refine jl_aload_n 543 C dl_543 rfl ?_
    refine jl_callV 544 [] C dl_544 (lf_M hI mc v (c_Mo_thrown (xz_l X) (jz_I_sub lz_subM hI) (r := q.2 0 0) rfl)) sz_Mo_thrown tz_Mo_thrown ll_53 lo_Mo rfl (by decide) rfl rfl ⟨by show 174 + c + 1 ≤ 601024; omega, by show 21461 + 6 * c + 6 ≤ 7293034; omega⟩ (Nat.le_of_ble_eq_true rfl) rfl ?_
    refine jl_iload 547 C dl_547 rfl ?_
    refine jl_icmp_eq 549 554 C dl_549 (by decide) (fun _ => ?_) (fun qq => absurd (by rw [ht]) qq)
    refine jl_iload 554 C dl_554 rfl ?_
    refine jl_if_ne 556 571 C dl_556 (by decide) (fun _ => ?_) (fun qq => absurd (by decide) qq)
    refine jl_goto 571 935 C dl_571 (by decide) ?_
    refine jl_sub [0, 1, 2, 3, 4] rfl ?_
    exact jl_widen (by omega) (by omega) (kend _ _ _ hi)
set_option maxHeartbeats 4000000 in
set_option maxRecDepth 100000 in
theorem lc_describe {X : jz_X} {Z : cz_Z} {b L : Nat} {xs : Nat → Int32} {Q : State → Prop} (C : jz_C X 7 code R_Lw (some .boolean) room_1 (lz_G Z)) (hX : jl_S X (lz_G Z) b L xs) (hI : jz_I (lz_G Z)) (hx : xz_ok (xz_s X)) (hxn : xn_ok (xz_s X)) (hl0 : (xz_l X).stackTraces = false) {I : Nat → jz_M → jz_M → Prop} (hs : sp_describe I) {c : Nat} {mc mm : jz_M} {v x4 : Int32} (hc : c < 512) (hInv : I c mc mm) (hx4 : x4 = nI (5 * c)) (hL : 5 * c + 5 ≤ L) (hL2 : L ≤ 2560) (kend : ∀ (mc2 mm2 : jz_M) (v2 : Int32), I (c + 1) mc2 mm2 → jl_J X 7 (lz_G Z) (174 + (c + 1)) (21461 + 6 * (c + 1)) Q (lm_ mc2 mm2 v2) [(0, .ref b), (1, .ref (gz_ad (lz_G Z) 0)), (2, .ref (gz_ad (lz_G Z) 152)), (3, .ref (gz_ad (lz_G Z) 173)), (4, .int x4)] 935 []) : jl_J X 7 (lz_G Z) (174 + c) (21461 + 6 * c) Q (lm_ mc mm v) [(0, .ref b), (1, .ref (gz_ad (lz_G Z) 0)), (2, .ref (gz_ad (lz_G Z) 152)), (3, .ref (gz_ad (lz_G Z) 173)), (4, .int x4)] 574 [] := by
  have hcs : 174 + c ≤ room_1.cells ∧ 21461 + 6 * c ≤ room_1.slots := ⟨by show 174 + c ≤ 601024; omega, by show 21461 + 6 * c ≤ 7293034; omega⟩
  obtain ⟨q, h2, hq⟩ := hs c mc mm hc hInv (xs (5 * c + 1))
  rcases hq with ⟨r, h1, ht, hr, hi⟩ | ⟨h1, ht, hi⟩
  · skip
    refine jl_aload_n 574 C dl_574 rfl ?_
    refine jl_aload_n 575 C dl_575 rfl ?_
    refine jl_iload 576 C dl_576 rfl ?_
    refine jl_iconst 578 1 C dl_578 (by decide) ?_
    refine jl_iadd 579 C dl_579 ?_
    refine jl_sld 580 C dl_580 hX (ll_in hx4 (j := 1) rfl (by omega) hL2) ?_
    refine jl_top (ll_at hx4 (j := 1) rfl (by omega) hL2) ?_
    refine jl_aload_n 581 C dl_581 rfl ?_
    refine jl_callH 582 [.ref (gz_ad (lz_G Z) 0), .int (xs (5 * c + 1)), .ref (gz_ad (lz_G Z) 173)] C dl_582 (lh0_describe (xz_l X) hI mm v h1) (lt_3 (i := 124) (by set_option maxRecDepth 100000 in exact rfl)) (lt_1 (i := 0) (by set_option maxRecDepth 100000 in exact rfl)) (lt_3 (i := 123) (by set_option maxRecDepth 100000 in exact rfl)) ll_67 (by decide) (n := 3) (by decide +kernel) (by decide) ⟨rfl, rfl⟩ ⟨by show 174 + c + 1 ≤ 601024; omega, by show 21461 + 6 * c + 6 ≤ 7293034; omega⟩ rfl rfl (Nat.le_of_ble_eq_true rfl) hx hxn hX.2.2 ?_
    refine jl_istore 585 [(0, .ref b), (1, .ref (gz_ad (lz_G Z) 0)), (2, .ref (gz_ad (lz_G Z) 152)), (3, .ref (gz_ad (lz_G Z) 173)), (4, .int x4), (5, .int 0)] C dl_585 rfl (by decide) rfl ?_
    refine jl_aload_n 587 C dl_587 rfl ?_
    refine jl_aload_n 588 C dl_588 rfl ?_
    refine jl_iload 589 C dl_589 rfl ?_
    refine jl_iconst 591 1 C dl_591 (by decide) ?_
    refine jl_iadd 592 C dl_592 ?_
    refine jl_sld 593 C dl_593 hX (ll_in hx4 (j := 1) rfl (by omega) hL2) ?_
    refine jl_top (ll_at hx4 (j := 1) rfl (by omega) hL2) ?_
    refine jl_callV 594 [.int (xs (5 * c + 1))] C dl_594 (lf_M hI r.2 r.1 (c_Mo_describe (xz_l X) (jz_I_sub lz_subM hI) h2)) sz_Mo_describe tz_Mo_describe ll_70 lo_Mo rfl (by decide) rfl rfl ⟨by show 174 + c + 1 ≤ 601024; omega, by show 21461 + 6 * c + 6 ≤ 7293034; omega⟩ (Nat.le_of_ble_eq_true rfl) rfl ?_
    refine jl_istore 597 [(0, .ref b), (1, .ref (gz_ad (lz_G Z) 0)), (2, .ref (gz_ad (lz_G Z) 152)), (3, .ref (gz_ad (lz_G Z) 173)), (4, .int x4), (5, .int 0), (6, .int q.1)] C dl_597 rfl (by decide) rfl ?_
    refine jl_aload_n 599 C dl_599 rfl ?_
    refine jl_callV 600 [] C dl_600 (lf_M hI r.2 r.1 (c_Mo_thrown (xz_l X) (jz_I_sub lz_subM hI) (r := q.2 0 0) rfl)) sz_Mo_thrown tz_Mo_thrown ll_53 lo_Mo rfl (by decide) rfl rfl ⟨by show 174 + c + 1 ≤ 601024; omega, by show 21461 + 6 * c + 6 ≤ 7293034; omega⟩ (Nat.le_of_ble_eq_true rfl) rfl ?_
    refine jl_iload 603 C dl_603 rfl ?_
    refine jl_icmp_eq 605 610 C dl_605 (by decide) (fun _ => ?_) (fun qq => absurd (by rw [ht]) qq)
    refine jl_iload 610 C dl_610 rfl ?_
    refine jl_if_ne 612 627 C dl_612 (by decide) (fun qq => absurd rfl qq) (fun _ => ?_)
    refine jl_aload_n 615 C dl_615 rfl ?_
    refine jl_iconst 616 0 C dl_616 (by decide) ?_
    refine jl_lald 617 C dl_617 ?_
    refine jl_iload 618 C dl_618 rfl ?_
    refine jl_i2l 620 C dl_620 ?_
    refine jl_lcmp 621 C dl_621 (by rw [hr]) ?_
    refine jl_if_eq 622 627 C dl_622 (by decide) (fun _ => ?_) (fun qq => absurd rfl qq)
    refine jl_goto 627 935 C dl_627 (by decide) ?_
    refine jl_sub [0, 1, 2, 3, 4] rfl ?_
    exact jl_widen (by omega) (by omega) (kend _ _ _ hi)
  · skip
    refine jl_aload_n 574 C dl_574 rfl ?_
    refine jl_aload_n 575 C dl_575 rfl ?_
    refine jl_iload 576 C dl_576 rfl ?_
    refine jl_iconst 578 1 C dl_578 (by decide) ?_
    refine jl_iadd 579 C dl_579 ?_
    refine jl_sld 580 C dl_580 hX (ll_in hx4 (j := 1) rfl (by omega) hL2) ?_
    refine jl_top (ll_at hx4 (j := 1) rfl (by omega) hL2) ?_
    refine jl_aload_n 581 C dl_581 rfl ?_
    refine jl_callH 582 [.ref (gz_ad (lz_G Z) 0), .int (xs (5 * c + 1)), .ref (gz_ad (lz_G Z) 173)] C dl_582 (lh1_describe (xz_l X) hl0 hI mm v h1) (lt_3 (i := 124) (by set_option maxRecDepth 100000 in exact rfl)) (lt_1 (i := 0) (by set_option maxRecDepth 100000 in exact rfl)) (lt_3 (i := 123) (by set_option maxRecDepth 100000 in exact rfl)) ll_67 (by decide) (n := 3) (by decide +kernel) (by decide) ⟨rfl, rfl⟩ ⟨by show 174 + c + 1 ≤ 601024; omega, by show 21461 + 6 * c + 6 ≤ 7293034; omega⟩ rfl rfl (Nat.le_of_ble_eq_true rfl) hx hxn hX.2.2 ?_
    refine jl_istore 585 [(0, .ref b), (1, .ref (gz_ad (lz_G Z) 0)), (2, .ref (gz_ad (lz_G Z) 152)), (3, .ref (gz_ad (lz_G Z) 173)), (4, .int x4), (5, .int 1)] C dl_585 rfl (by decide) rfl ?_
    refine jl_aload_n 587 C dl_587 rfl ?_
    refine jl_aload_n 588 C dl_588 rfl ?_
    refine jl_iload 589 C dl_589 rfl ?_
    refine jl_iconst 591 1 C dl_591 (by decide) ?_
    refine jl_iadd 592 C dl_592 ?_
    refine jl_sld 593 C dl_593 hX (ll_in hx4 (j := 1) rfl (by omega) hL2) ?_
    refine jl_top (ll_at hx4 (j := 1) rfl (by omega) hL2) ?_
    refine jl_callV 594 [.int (xs (5 * c + 1))] C dl_594 (lf_M hI mc v (c_Mo_describe (xz_l X) (jz_I_sub lz_subM hI) h2)) sz_Mo_describe tz_Mo_describe ll_70 lo_Mo rfl (by decide) rfl rfl ⟨by show 174 + c + 1 ≤ 601024; omega, by show 21461 + 6 * c + 6 ≤ 7293034; omega⟩ (Nat.le_of_ble_eq_true rfl) rfl ?_
    refine jl_istore 597 [(0, .ref b), (1, .ref (gz_ad (lz_G Z) 0)), (2, .ref (gz_ad (lz_G Z) 152)), (3, .ref (gz_ad (lz_G Z) 173)), (4, .int x4), (5, .int 1), (6, .int q.1)] C dl_597 rfl (by decide) rfl ?_
    refine jl_aload_n 599 C dl_599 rfl ?_
    refine jl_callV 600 [] C dl_600 (lf_M hI mc v (c_Mo_thrown (xz_l X) (jz_I_sub lz_subM hI) (r := q.2 0 0) rfl)) sz_Mo_thrown tz_Mo_thrown ll_53 lo_Mo rfl (by decide) rfl rfl ⟨by show 174 + c + 1 ≤ 601024; omega, by show 21461 + 6 * c + 6 ≤ 7293034; omega⟩ (Nat.le_of_ble_eq_true rfl) rfl ?_
    refine jl_iload 603 C dl_603 rfl ?_
    refine jl_icmp_eq 605 610 C dl_605 (by decide) (fun _ => ?_) (fun qq => absurd (by rw [ht]) qq)
    refine jl_iload 610 C dl_610 rfl ?_
    refine jl_if_ne 612 627 C dl_612 (by decide) (fun _ => ?_) (fun qq => absurd (by decide) qq)
    refine jl_goto 627 935 C dl_627 (by decide) ?_
    refine jl_sub [0, 1, 2, 3, 4] rfl ?_
    exact jl_widen (by omega) (by omega) (kend _ _ _ hi)
set_option maxHeartbeats 4000000 in
set_option maxRecDepth 100000 in
theorem lc_tick {X : jz_X} {Z : cz_Z} {b L : Nat} {xs : Nat → Int32} {Q : State → Prop} (C : jz_C X 7 code R_Lw (some .boolean) room_1 (lz_G Z)) (hX : jl_S X (lz_G Z) b L xs) (hI : jz_I (lz_G Z)) (hx : xz_ok (xz_s X)) (hxn : xn_ok (xz_s X)) (hl0 : (xz_l X).stackTraces = false) {I : Nat → jz_M → jz_M → Prop} (hs : sp_tick I) {c : Nat} {mc mm : jz_M} {v x4 : Int32} (hc : c < 512) (hInv : I c mc mm) (hx4 : x4 = nI (5 * c)) (hL : 5 * c + 5 ≤ L) (hL2 : L ≤ 2560) (kend : ∀ (mc2 mm2 : jz_M) (v2 : Int32), I (c + 1) mc2 mm2 → jl_J X 7 (lz_G Z) (174 + (c + 1)) (21461 + 6 * (c + 1)) Q (lm_ mc2 mm2 v2) [(0, .ref b), (1, .ref (gz_ad (lz_G Z) 0)), (2, .ref (gz_ad (lz_G Z) 152)), (3, .ref (gz_ad (lz_G Z) 173)), (4, .int x4)] 935 []) : jl_J X 7 (lz_G Z) (174 + c) (21461 + 6 * c) Q (lm_ mc mm v) [(0, .ref b), (1, .ref (gz_ad (lz_G Z) 0)), (2, .ref (gz_ad (lz_G Z) 152)), (3, .ref (gz_ad (lz_G Z) 173)), (4, .int x4)] 630 [] := by
  have hcs : 174 + c ≤ room_1.cells ∧ 21461 + 6 * c ≤ room_1.slots := ⟨by show 174 + c ≤ 601024; omega, by show 21461 + 6 * c ≤ 7293034; omega⟩
  obtain ⟨r, q, h1, h2, hi⟩ := hs c mc mm hc hInv
  refine jl_aload_n 630 C dl_630 rfl ?_
  refine jl_callV 631 [] C dl_631 (lf_C hI mm v (c_AR_tick (xz_l X) (jz_I_sub lz_subC hI) h1)) sz_AR_tick tz_AR_tick ll_71 lo_AR rfl (by decide) rfl rfl hcs (Nat.le_of_ble_eq_true rfl) rfl ?_
  refine jl_aload_n 634 C dl_634 rfl ?_
  refine jl_callV 635 [] C dl_635 (lf_M hI r v (c_Mo_tick (xz_l X) (jz_I_sub lz_subM hI) h2)) sz_Mo_tick tz_Mo_tick ll_74 lo_Mo rfl (by decide) rfl rfl hcs (Nat.le_of_ble_eq_true rfl) rfl ?_
  refine jl_goto 638 935 C dl_638 (by decide) ?_
  refine jl_sub [0, 1, 2, 3, 4] rfl ?_
  exact jl_widen (by omega) (by omega) (kend _ _ _ hi)
set_option maxHeartbeats 4000000 in
set_option maxRecDepth 100000 in
theorem lc_neighbour {X : jz_X} {Z : cz_Z} {b L : Nat} {xs : Nat → Int32} {Q : State → Prop} (C : jz_C X 7 code R_Lw (some .boolean) room_1 (lz_G Z)) (hX : jl_S X (lz_G Z) b L xs) (hI : jz_I (lz_G Z)) (hx : xz_ok (xz_s X)) (hxn : xn_ok (xz_s X)) (hl0 : (xz_l X).stackTraces = false) {I : Nat → jz_M → jz_M → Prop} (hs : sp_neighbour I) {c : Nat} {mc mm : jz_M} {v x4 : Int32} (hc : c < 512) (hInv : I c mc mm) (hx4 : x4 = nI (5 * c)) (hL : 5 * c + 5 ≤ L) (hL2 : L ≤ 2560) (kend : ∀ (mc2 mm2 : jz_M) (v2 : Int32), I (c + 1) mc2 mm2 → jl_J X 7 (lz_G Z) (174 + (c + 1)) (21461 + 6 * (c + 1)) Q (lm_ mc2 mm2 v2) [(0, .ref b), (1, .ref (gz_ad (lz_G Z) 0)), (2, .ref (gz_ad (lz_G Z) 152)), (3, .ref (gz_ad (lz_G Z) 173)), (4, .int x4)] 935 []) : jl_J X 7 (lz_G Z) (174 + c) (21461 + 6 * c) Q (lm_ mc mm v) [(0, .ref b), (1, .ref (gz_ad (lz_G Z) 0)), (2, .ref (gz_ad (lz_G Z) 152)), (3, .ref (gz_ad (lz_G Z) 173)), (4, .int x4)] 641 [] := by
  have hcs : 174 + c ≤ room_1.cells ∧ 21461 + 6 * c ≤ room_1.slots := ⟨by show 174 + c ≤ 601024; omega, by show 21461 + 6 * c ≤ 7293034; omega⟩
  obtain ⟨r, q, h1, h2, hr, hi⟩ := hs c mc mm hc hInv (xs (5 * c + 1)) (xs (5 * c + 2)) (xs (5 * c + 3)) (xs (5 * c + 4))
  refine jl_aload_n 641 C dl_641 rfl ?_
  refine jl_aload_n 642 C dl_642 rfl ?_
  refine jl_iload 643 C dl_643 rfl ?_
  refine jl_iconst 645 1 C dl_645 (by decide) ?_
  refine jl_iadd 646 C dl_646 ?_
  refine jl_sld 647 C dl_647 hX (ll_in hx4 (j := 1) rfl (by omega) hL2) ?_
  refine jl_top (ll_at hx4 (j := 1) rfl (by omega) hL2) ?_
  refine jl_aload_n 648 C dl_648 rfl ?_
  refine jl_iload 649 C dl_649 rfl ?_
  refine jl_iconst 651 2 C dl_651 (by decide) ?_
  refine jl_iadd 652 C dl_652 ?_
  refine jl_sld 653 C dl_653 hX (ll_in hx4 (j := 2) rfl (by omega) hL2) ?_
  refine jl_top (ll_at hx4 (j := 2) rfl (by omega) hL2) ?_
  refine jl_aload_n 654 C dl_654 rfl ?_
  refine jl_iload 655 C dl_655 rfl ?_
  refine jl_iconst 657 3 C dl_657 (by decide) ?_
  refine jl_iadd 658 C dl_658 ?_
  refine jl_sld 659 C dl_659 hX (ll_in hx4 (j := 3) rfl (by omega) hL2) ?_
  refine jl_top (ll_at hx4 (j := 3) rfl (by omega) hL2) ?_
  refine jl_aload_n 660 C dl_660 rfl ?_
  refine jl_iload 661 C dl_661 rfl ?_
  refine jl_iconst 663 4 C dl_663 (by decide) ?_
  refine jl_iadd 664 C dl_664 ?_
  refine jl_sld 665 C dl_665 hX (ll_in hx4 (j := 4) rfl (by omega) hL2) ?_
  refine jl_top (ll_at hx4 (j := 4) rfl (by omega) hL2) ?_
  refine jl_callV 666 [.int (xs (5 * c + 1)), .int (xs (5 * c + 2)), .int (xs (5 * c + 3)), .int (xs (5 * c + 4))] C dl_666 (lf_C hI mm v (c_AR_neighbour (xz_l X) (jz_I_sub lz_subC hI) h1)) sz_AR_neighbour tz_AR_neighbour ll_75 lo_AR rfl (by decide) rfl rfl hcs (Nat.le_of_ble_eq_true rfl) rfl ?_
  refine jl_aload_n 669 C dl_669 rfl ?_
  refine jl_aload_n 670 C dl_670 rfl ?_
  refine jl_iload 671 C dl_671 rfl ?_
  refine jl_iconst 673 1 C dl_673 (by decide) ?_
  refine jl_iadd 674 C dl_674 ?_
  refine jl_sld 675 C dl_675 hX (ll_in hx4 (j := 1) rfl (by omega) hL2) ?_
  refine jl_top (ll_at hx4 (j := 1) rfl (by omega) hL2) ?_
  refine jl_aload_n 676 C dl_676 rfl ?_
  refine jl_iload 677 C dl_677 rfl ?_
  refine jl_iconst 679 2 C dl_679 (by decide) ?_
  refine jl_iadd 680 C dl_680 ?_
  refine jl_sld 681 C dl_681 hX (ll_in hx4 (j := 2) rfl (by omega) hL2) ?_
  refine jl_top (ll_at hx4 (j := 2) rfl (by omega) hL2) ?_
  refine jl_aload_n 682 C dl_682 rfl ?_
  refine jl_iload 683 C dl_683 rfl ?_
  refine jl_iconst 685 3 C dl_685 (by decide) ?_
  refine jl_iadd 686 C dl_686 ?_
  refine jl_sld 687 C dl_687 hX (ll_in hx4 (j := 3) rfl (by omega) hL2) ?_
  refine jl_top (ll_at hx4 (j := 3) rfl (by omega) hL2) ?_
  refine jl_aload_n 688 C dl_688 rfl ?_
  refine jl_iload 689 C dl_689 rfl ?_
  refine jl_iconst 691 4 C dl_691 (by decide) ?_
  refine jl_iadd 692 C dl_692 ?_
  refine jl_sld 693 C dl_693 hX (ll_in hx4 (j := 4) rfl (by omega) hL2) ?_
  refine jl_top (ll_at hx4 (j := 4) rfl (by omega) hL2) ?_
  refine jl_callV 694 [.int (xs (5 * c + 1)), .int (xs (5 * c + 2)), .int (xs (5 * c + 3)), .int (xs (5 * c + 4))] C dl_694 (lf_M hI mc v (c_Mo_neighbour (xz_l X) (jz_I_sub lz_subM hI) h2)) sz_Mo_neighbour tz_Mo_neighbour ll_78 lo_Mo rfl (by decide) rfl rfl hcs (Nat.le_of_ble_eq_true rfl) rfl ?_
  refine jl_icmp_eq 697 935 C dl_697 (by decide) (fun _ => ?_) (fun qq => absurd hr qq)
  refine jl_sub [0, 1, 2, 3, 4] rfl ?_
  exact jl_widen (by omega) (by omega) (kend _ _ _ hi)
set_option maxHeartbeats 4000000 in
set_option maxRecDepth 100000 in
theorem lc_speaker {X : jz_X} {Z : cz_Z} {b L : Nat} {xs : Nat → Int32} {Q : State → Prop} (C : jz_C X 7 code R_Lw (some .boolean) room_1 (lz_G Z)) (hX : jl_S X (lz_G Z) b L xs) (hI : jz_I (lz_G Z)) (hx : xz_ok (xz_s X)) (hxn : xn_ok (xz_s X)) (hl0 : (xz_l X).stackTraces = false) {I : Nat → jz_M → jz_M → Prop} (hs : sp_speaker I) {c : Nat} {mc mm : jz_M} {v x4 : Int32} (hc : c < 512) (hInv : I c mc mm) (hx4 : x4 = nI (5 * c)) (hL : 5 * c + 5 ≤ L) (hL2 : L ≤ 2560) (kend : ∀ (mc2 mm2 : jz_M) (v2 : Int32), I (c + 1) mc2 mm2 → jl_J X 7 (lz_G Z) (174 + (c + 1)) (21461 + 6 * (c + 1)) Q (lm_ mc2 mm2 v2) [(0, .ref b), (1, .ref (gz_ad (lz_G Z) 0)), (2, .ref (gz_ad (lz_G Z) 152)), (3, .ref (gz_ad (lz_G Z) 173)), (4, .int x4)] 935 []) : jl_J X 7 (lz_G Z) (174 + c) (21461 + 6 * c) Q (lm_ mc mm v) [(0, .ref b), (1, .ref (gz_ad (lz_G Z) 0)), (2, .ref (gz_ad (lz_G Z) 152)), (3, .ref (gz_ad (lz_G Z) 173)), (4, .int x4)] 702 [] := by
  have hcs : 174 + c ≤ room_1.cells ∧ 21461 + 6 * c ≤ room_1.slots := ⟨by show 174 + c ≤ 601024; omega, by show 21461 + 6 * c ≤ 7293034; omega⟩
  obtain ⟨r, q, h1, h2, hr, hi⟩ := hs c mc mm hc hInv (xs (5 * c + 1)) (xs (5 * c + 2)) (xs (5 * c + 3))
  refine jl_aload_n 702 C dl_702 rfl ?_
  refine jl_aload_n 703 C dl_703 rfl ?_
  refine jl_iload 704 C dl_704 rfl ?_
  refine jl_iconst 706 1 C dl_706 (by decide) ?_
  refine jl_iadd 707 C dl_707 ?_
  refine jl_sld 708 C dl_708 hX (ll_in hx4 (j := 1) rfl (by omega) hL2) ?_
  refine jl_top (ll_at hx4 (j := 1) rfl (by omega) hL2) ?_
  refine jl_aload_n 709 C dl_709 rfl ?_
  refine jl_iload 710 C dl_710 rfl ?_
  refine jl_iconst 712 2 C dl_712 (by decide) ?_
  refine jl_iadd 713 C dl_713 ?_
  refine jl_sld 714 C dl_714 hX (ll_in hx4 (j := 2) rfl (by omega) hL2) ?_
  refine jl_top (ll_at hx4 (j := 2) rfl (by omega) hL2) ?_
  refine jl_aload_n 715 C dl_715 rfl ?_
  refine jl_iload 716 C dl_716 rfl ?_
  refine jl_iconst 718 3 C dl_718 (by decide) ?_
  refine jl_iadd 719 C dl_719 ?_
  refine jl_sld 720 C dl_720 hX (ll_in hx4 (j := 3) rfl (by omega) hL2) ?_
  refine jl_top (ll_at hx4 (j := 3) rfl (by omega) hL2) ?_
  refine jl_callV 721 [.int (xs (5 * c + 1)), .int (xs (5 * c + 2)), .int (xs (5 * c + 3))] C dl_721 (lf_C hI mm v (c_AR_speaker (xz_l X) (jz_I_sub lz_subC hI) h1)) sz_AR_speaker tz_AR_speaker ll_79 lo_AR rfl (by decide) rfl rfl hcs (Nat.le_of_ble_eq_true rfl) rfl ?_
  refine jl_aload_n 724 C dl_724 rfl ?_
  refine jl_aload_n 725 C dl_725 rfl ?_
  refine jl_iload 726 C dl_726 rfl ?_
  refine jl_iconst 728 1 C dl_728 (by decide) ?_
  refine jl_iadd 729 C dl_729 ?_
  refine jl_sld 730 C dl_730 hX (ll_in hx4 (j := 1) rfl (by omega) hL2) ?_
  refine jl_top (ll_at hx4 (j := 1) rfl (by omega) hL2) ?_
  refine jl_aload_n 731 C dl_731 rfl ?_
  refine jl_iload 732 C dl_732 rfl ?_
  refine jl_iconst 734 2 C dl_734 (by decide) ?_
  refine jl_iadd 735 C dl_735 ?_
  refine jl_sld 736 C dl_736 hX (ll_in hx4 (j := 2) rfl (by omega) hL2) ?_
  refine jl_top (ll_at hx4 (j := 2) rfl (by omega) hL2) ?_
  refine jl_aload_n 737 C dl_737 rfl ?_
  refine jl_iload 738 C dl_738 rfl ?_
  refine jl_iconst 740 3 C dl_740 (by decide) ?_
  refine jl_iadd 741 C dl_741 ?_
  refine jl_sld 742 C dl_742 hX (ll_in hx4 (j := 3) rfl (by omega) hL2) ?_
  refine jl_top (ll_at hx4 (j := 3) rfl (by omega) hL2) ?_
  refine jl_callV 743 [.int (xs (5 * c + 1)), .int (xs (5 * c + 2)), .int (xs (5 * c + 3))] C dl_743 (lf_M hI mc v (c_Mo_speaker (xz_l X) (jz_I_sub lz_subM hI) h2)) sz_Mo_speaker tz_Mo_speaker ll_82 lo_Mo rfl (by decide) rfl rfl hcs (Nat.le_of_ble_eq_true rfl) rfl ?_
  refine jl_icmp_eq 746 935 C dl_746 (by decide) (fun _ => ?_) (fun qq => absurd hr qq)
  refine jl_sub [0, 1, 2, 3, 4] rfl ?_
  exact jl_widen (by omega) (by omega) (kend _ _ _ hi)
set_option maxHeartbeats 4000000 in
set_option maxRecDepth 100000 in
theorem lc_description {X : jz_X} {Z : cz_Z} {b L : Nat} {xs : Nat → Int32} {Q : State → Prop} (C : jz_C X 7 code R_Lw (some .boolean) room_1 (lz_G Z)) (hX : jl_S X (lz_G Z) b L xs) (hI : jz_I (lz_G Z)) (hx : xz_ok (xz_s X)) (hxn : xn_ok (xz_s X)) (hl0 : (xz_l X).stackTraces = false) {I : Nat → jz_M → jz_M → Prop} (hs : sp_description I) {c : Nat} {mc mm : jz_M} {v x4 : Int32} (hc : c < 512) (hInv : I c mc mm) (hx4 : x4 = nI (5 * c)) (hL : 5 * c + 5 ≤ L) (hL2 : L ≤ 2560) (kend : ∀ (mc2 mm2 : jz_M) (v2 : Int32), I (c + 1) mc2 mm2 → jl_J X 7 (lz_G Z) (174 + (c + 1)) (21461 + 6 * (c + 1)) Q (lm_ mc2 mm2 v2) [(0, .ref b), (1, .ref (gz_ad (lz_G Z) 0)), (2, .ref (gz_ad (lz_G Z) 152)), (3, .ref (gz_ad (lz_G Z) 173)), (4, .int x4)] 935 []) : jl_J X 7 (lz_G Z) (174 + c) (21461 + 6 * c) Q (lm_ mc mm v) [(0, .ref b), (1, .ref (gz_ad (lz_G Z) 0)), (2, .ref (gz_ad (lz_G Z) 152)), (3, .ref (gz_ad (lz_G Z) 173)), (4, .int x4)] 751 [] := by
  have hcs : 174 + c ≤ room_1.cells ∧ 21461 + 6 * c ≤ room_1.slots := ⟨by show 174 + c ≤ 601024; omega, by show 21461 + 6 * c ≤ 7293034; omega⟩
  obtain ⟨r, q, h1, h2, hr, hi⟩ := hs c mc mm hc hInv (xs (5 * c + 1)) (xs (5 * c + 2)) (xs (5 * c + 3)) (xs (5 * c + 4))
  refine jl_aload_n 751 C dl_751 rfl ?_
  refine jl_aload_n 752 C dl_752 rfl ?_
  refine jl_iload 753 C dl_753 rfl ?_
  refine jl_iconst 755 1 C dl_755 (by decide) ?_
  refine jl_iadd 756 C dl_756 ?_
  refine jl_sld 757 C dl_757 hX (ll_in hx4 (j := 1) rfl (by omega) hL2) ?_
  refine jl_top (ll_at hx4 (j := 1) rfl (by omega) hL2) ?_
  refine jl_aload_n 758 C dl_758 rfl ?_
  refine jl_iload 759 C dl_759 rfl ?_
  refine jl_iconst 761 2 C dl_761 (by decide) ?_
  refine jl_iadd 762 C dl_762 ?_
  refine jl_sld 763 C dl_763 hX (ll_in hx4 (j := 2) rfl (by omega) hL2) ?_
  refine jl_top (ll_at hx4 (j := 2) rfl (by omega) hL2) ?_
  refine jl_aload_n 764 C dl_764 rfl ?_
  refine jl_iload 765 C dl_765 rfl ?_
  refine jl_iconst 767 3 C dl_767 (by decide) ?_
  refine jl_iadd 768 C dl_768 ?_
  refine jl_sld 769 C dl_769 hX (ll_in hx4 (j := 3) rfl (by omega) hL2) ?_
  refine jl_top (ll_at hx4 (j := 3) rfl (by omega) hL2) ?_
  refine jl_aload_n 770 C dl_770 rfl ?_
  refine jl_iload 771 C dl_771 rfl ?_
  refine jl_iconst 773 4 C dl_773 (by decide) ?_
  refine jl_iadd 774 C dl_774 ?_
  refine jl_sld 775 C dl_775 hX (ll_in hx4 (j := 4) rfl (by omega) hL2) ?_
  refine jl_top (ll_at hx4 (j := 4) rfl (by omega) hL2) ?_
  refine jl_callV 776 [.int (xs (5 * c + 1)), .int (xs (5 * c + 2)), .int (xs (5 * c + 3)), .int (xs (5 * c + 4))] C dl_776 (lf_C hI mm v (c_AR_description (xz_l X) (jz_I_sub lz_subC hI) h1)) sz_AR_description tz_AR_description ll_83 lo_AR rfl (by decide) rfl rfl hcs (Nat.le_of_ble_eq_true rfl) rfl ?_
  refine jl_aload_n 779 C dl_779 rfl ?_
  refine jl_aload_n 780 C dl_780 rfl ?_
  refine jl_iload 781 C dl_781 rfl ?_
  refine jl_iconst 783 1 C dl_783 (by decide) ?_
  refine jl_iadd 784 C dl_784 ?_
  refine jl_sld 785 C dl_785 hX (ll_in hx4 (j := 1) rfl (by omega) hL2) ?_
  refine jl_top (ll_at hx4 (j := 1) rfl (by omega) hL2) ?_
  refine jl_aload_n 786 C dl_786 rfl ?_
  refine jl_iload 787 C dl_787 rfl ?_
  refine jl_iconst 789 2 C dl_789 (by decide) ?_
  refine jl_iadd 790 C dl_790 ?_
  refine jl_sld 791 C dl_791 hX (ll_in hx4 (j := 2) rfl (by omega) hL2) ?_
  refine jl_top (ll_at hx4 (j := 2) rfl (by omega) hL2) ?_
  refine jl_aload_n 792 C dl_792 rfl ?_
  refine jl_iload 793 C dl_793 rfl ?_
  refine jl_iconst 795 3 C dl_795 (by decide) ?_
  refine jl_iadd 796 C dl_796 ?_
  refine jl_sld 797 C dl_797 hX (ll_in hx4 (j := 3) rfl (by omega) hL2) ?_
  refine jl_top (ll_at hx4 (j := 3) rfl (by omega) hL2) ?_
  refine jl_aload_n 798 C dl_798 rfl ?_
  refine jl_iload 799 C dl_799 rfl ?_
  refine jl_iconst 801 4 C dl_801 (by decide) ?_
  refine jl_iadd 802 C dl_802 ?_
  refine jl_sld 803 C dl_803 hX (ll_in hx4 (j := 4) rfl (by omega) hL2) ?_
  refine jl_top (ll_at hx4 (j := 4) rfl (by omega) hL2) ?_
  refine jl_callV 804 [.int (xs (5 * c + 1)), .int (xs (5 * c + 2)), .int (xs (5 * c + 3)), .int (xs (5 * c + 4))] C dl_804 (lf_M hI mc v (c_Mo_description (xz_l X) (jz_I_sub lz_subM hI) h2)) sz_Mo_description tz_Mo_description ll_86 lo_Mo rfl (by decide) rfl rfl hcs (Nat.le_of_ble_eq_true rfl) rfl ?_
  refine jl_icmp_eq 807 935 C dl_807 (by decide) (fun _ => ?_) (fun qq => absurd hr qq)
  refine jl_sub [0, 1, 2, 3, 4] rfl ?_
  exact jl_widen (by omega) (by omega) (kend _ _ _ hi)
set_option maxHeartbeats 4000000 in
set_option maxRecDepth 100000 in
theorem lc_marks {X : jz_X} {Z : cz_Z} {b L : Nat} {xs : Nat → Int32} {Q : State → Prop} (C : jz_C X 7 code R_Lw (some .boolean) room_1 (lz_G Z)) (hX : jl_S X (lz_G Z) b L xs) (hI : jz_I (lz_G Z)) (hx : xz_ok (xz_s X)) (hxn : xn_ok (xz_s X)) (hl0 : (xz_l X).stackTraces = false) {I : Nat → jz_M → jz_M → Prop} (hs : sp_marks I) {c : Nat} {mc mm : jz_M} {v x4 : Int32} (hc : c < 512) (hInv : I c mc mm) (hx4 : x4 = nI (5 * c)) (hL : 5 * c + 5 ≤ L) (hL2 : L ≤ 2560) (kend : ∀ (mc2 mm2 : jz_M) (v2 : Int32), I (c + 1) mc2 mm2 → jl_J X 7 (lz_G Z) (174 + (c + 1)) (21461 + 6 * (c + 1)) Q (lm_ mc2 mm2 v2) [(0, .ref b), (1, .ref (gz_ad (lz_G Z) 0)), (2, .ref (gz_ad (lz_G Z) 152)), (3, .ref (gz_ad (lz_G Z) 173)), (4, .int x4)] 935 []) : jl_J X 7 (lz_G Z) (174 + c) (21461 + 6 * c) Q (lm_ mc mm v) [(0, .ref b), (1, .ref (gz_ad (lz_G Z) 0)), (2, .ref (gz_ad (lz_G Z) 152)), (3, .ref (gz_ad (lz_G Z) 173)), (4, .int x4)] 812 [] := by
  have hcs : 174 + c ≤ room_1.cells ∧ 21461 + 6 * c ≤ room_1.slots := ⟨by show 174 + c ≤ 601024; omega, by show 21461 + 6 * c ≤ 7293034; omega⟩
  obtain ⟨r, q, h1, h2, hr, hi⟩ := hs c mc mm hc hInv (xs (5 * c + 1)) (xs (5 * c + 2)) (xs (5 * c + 3))
  refine jl_aload_n 812 C dl_812 rfl ?_
  refine jl_aload_n 813 C dl_813 rfl ?_
  refine jl_iload 814 C dl_814 rfl ?_
  refine jl_iconst 816 1 C dl_816 (by decide) ?_
  refine jl_iadd 817 C dl_817 ?_
  refine jl_sld 818 C dl_818 hX (ll_in hx4 (j := 1) rfl (by omega) hL2) ?_
  refine jl_top (ll_at hx4 (j := 1) rfl (by omega) hL2) ?_
  refine jl_aload_n 819 C dl_819 rfl ?_
  refine jl_iload 820 C dl_820 rfl ?_
  refine jl_iconst 822 2 C dl_822 (by decide) ?_
  refine jl_iadd 823 C dl_823 ?_
  refine jl_sld 824 C dl_824 hX (ll_in hx4 (j := 2) rfl (by omega) hL2) ?_
  refine jl_top (ll_at hx4 (j := 2) rfl (by omega) hL2) ?_
  refine jl_aload_n 825 C dl_825 rfl ?_
  refine jl_iload 826 C dl_826 rfl ?_
  refine jl_iconst 828 3 C dl_828 (by decide) ?_
  refine jl_iadd 829 C dl_829 ?_
  refine jl_sld 830 C dl_830 hX (ll_in hx4 (j := 3) rfl (by omega) hL2) ?_
  refine jl_top (ll_at hx4 (j := 3) rfl (by omega) hL2) ?_
  refine jl_callV 831 [.int (xs (5 * c + 1)), .int (xs (5 * c + 2)), .int (xs (5 * c + 3))] C dl_831 (lf_C hI mm v (c_AR_marks (xz_l X) (jz_I_sub lz_subC hI) h1)) sz_AR_marks tz_AR_marks ll_87 lo_AR rfl (by decide) rfl rfl hcs (Nat.le_of_ble_eq_true rfl) rfl ?_
  refine jl_aload_n 834 C dl_834 rfl ?_
  refine jl_aload_n 835 C dl_835 rfl ?_
  refine jl_iload 836 C dl_836 rfl ?_
  refine jl_iconst 838 1 C dl_838 (by decide) ?_
  refine jl_iadd 839 C dl_839 ?_
  refine jl_sld 840 C dl_840 hX (ll_in hx4 (j := 1) rfl (by omega) hL2) ?_
  refine jl_top (ll_at hx4 (j := 1) rfl (by omega) hL2) ?_
  refine jl_aload_n 841 C dl_841 rfl ?_
  refine jl_iload 842 C dl_842 rfl ?_
  refine jl_iconst 844 2 C dl_844 (by decide) ?_
  refine jl_iadd 845 C dl_845 ?_
  refine jl_sld 846 C dl_846 hX (ll_in hx4 (j := 2) rfl (by omega) hL2) ?_
  refine jl_top (ll_at hx4 (j := 2) rfl (by omega) hL2) ?_
  refine jl_aload_n 847 C dl_847 rfl ?_
  refine jl_iload 848 C dl_848 rfl ?_
  refine jl_iconst 850 3 C dl_850 (by decide) ?_
  refine jl_iadd 851 C dl_851 ?_
  refine jl_sld 852 C dl_852 hX (ll_in hx4 (j := 3) rfl (by omega) hL2) ?_
  refine jl_top (ll_at hx4 (j := 3) rfl (by omega) hL2) ?_
  refine jl_callV 853 [.int (xs (5 * c + 1)), .int (xs (5 * c + 2)), .int (xs (5 * c + 3))] C dl_853 (lf_M hI mc v (c_Mo_marks (xz_l X) (jz_I_sub lz_subM hI) h2)) sz_Mo_marks tz_Mo_marks ll_90 lo_Mo rfl (by decide) rfl rfl hcs (Nat.le_of_ble_eq_true rfl) rfl ?_
  refine jl_icmp_eq 856 935 C dl_856 (by decide) (fun _ => ?_) (fun qq => absurd hr qq)
  refine jl_sub [0, 1, 2, 3, 4] rfl ?_
  exact jl_widen (by omega) (by omega) (kend _ _ _ hi)
set_option maxHeartbeats 4000000 in
set_option maxRecDepth 100000 in
theorem lc_route {X : jz_X} {Z : cz_Z} {b L : Nat} {xs : Nat → Int32} {Q : State → Prop} (C : jz_C X 7 code R_Lw (some .boolean) room_1 (lz_G Z)) (hX : jl_S X (lz_G Z) b L xs) (hI : jz_I (lz_G Z)) (hx : xz_ok (xz_s X)) (hxn : xn_ok (xz_s X)) (hl0 : (xz_l X).stackTraces = false) {I : Nat → jz_M → jz_M → Prop} (hs : sp_route I) {c : Nat} {mc mm : jz_M} {v x4 : Int32} (hc : c < 512) (hInv : I c mc mm) (hx4 : x4 = nI (5 * c)) (hL : 5 * c + 5 ≤ L) (hL2 : L ≤ 2560) (kend : ∀ (mc2 mm2 : jz_M) (v2 : Int32), I (c + 1) mc2 mm2 → jl_J X 7 (lz_G Z) (174 + (c + 1)) (21461 + 6 * (c + 1)) Q (lm_ mc2 mm2 v2) [(0, .ref b), (1, .ref (gz_ad (lz_G Z) 0)), (2, .ref (gz_ad (lz_G Z) 152)), (3, .ref (gz_ad (lz_G Z) 173)), (4, .int x4)] 935 []) : jl_J X 7 (lz_G Z) (174 + c) (21461 + 6 * c) Q (lm_ mc mm v) [(0, .ref b), (1, .ref (gz_ad (lz_G Z) 0)), (2, .ref (gz_ad (lz_G Z) 152)), (3, .ref (gz_ad (lz_G Z) 173)), (4, .int x4)] 861 [] := by
  have hcs : 174 + c ≤ room_1.cells ∧ 21461 + 6 * c ≤ room_1.slots := ⟨by show 174 + c ≤ 601024; omega, by show 21461 + 6 * c ≤ 7293034; omega⟩
  obtain ⟨r, q, h1, h2, hr, hi⟩ := hs c mc mm hc hInv (xs (5 * c + 1)) (xs (5 * c + 2))
  refine jl_aload_n 861 C dl_861 rfl ?_
  refine jl_aload_n 862 C dl_862 rfl ?_
  refine jl_iload 863 C dl_863 rfl ?_
  refine jl_iconst 865 1 C dl_865 (by decide) ?_
  refine jl_iadd 866 C dl_866 ?_
  refine jl_sld 867 C dl_867 hX (ll_in hx4 (j := 1) rfl (by omega) hL2) ?_
  refine jl_top (ll_at hx4 (j := 1) rfl (by omega) hL2) ?_
  refine jl_aload_n 868 C dl_868 rfl ?_
  refine jl_iload 869 C dl_869 rfl ?_
  refine jl_iconst 871 2 C dl_871 (by decide) ?_
  refine jl_iadd 872 C dl_872 ?_
  refine jl_sld 873 C dl_873 hX (ll_in hx4 (j := 2) rfl (by omega) hL2) ?_
  refine jl_top (ll_at hx4 (j := 2) rfl (by omega) hL2) ?_
  refine jl_callV 874 [.int (xs (5 * c + 1)), .int (xs (5 * c + 2))] C dl_874 (lf_C hI mm v (c_AR_route (xz_l X) (jz_I_sub lz_subC hI) h1)) sz_AR_route tz_AR_route ll_91 lo_AR rfl (by decide) rfl rfl hcs (Nat.le_of_ble_eq_true rfl) rfl ?_
  refine jl_aload_n 877 C dl_877 rfl ?_
  refine jl_aload_n 878 C dl_878 rfl ?_
  refine jl_iload 879 C dl_879 rfl ?_
  refine jl_iconst 881 1 C dl_881 (by decide) ?_
  refine jl_iadd 882 C dl_882 ?_
  refine jl_sld 883 C dl_883 hX (ll_in hx4 (j := 1) rfl (by omega) hL2) ?_
  refine jl_top (ll_at hx4 (j := 1) rfl (by omega) hL2) ?_
  refine jl_aload_n 884 C dl_884 rfl ?_
  refine jl_iload 885 C dl_885 rfl ?_
  refine jl_iconst 887 2 C dl_887 (by decide) ?_
  refine jl_iadd 888 C dl_888 ?_
  refine jl_sld 889 C dl_889 hX (ll_in hx4 (j := 2) rfl (by omega) hL2) ?_
  refine jl_top (ll_at hx4 (j := 2) rfl (by omega) hL2) ?_
  refine jl_callV 890 [.int (xs (5 * c + 1)), .int (xs (5 * c + 2))] C dl_890 (lf_M hI r.2 v (c_Mo_route (xz_l X) (jz_I_sub lz_subM hI) h2)) sz_Mo_route tz_Mo_route ll_95 lo_Mo rfl (by decide) rfl rfl hcs (Nat.le_of_ble_eq_true rfl) rfl ?_
  refine jl_icmp_eq 893 935 C dl_893 (by decide) (fun _ => ?_) (fun qq => absurd hr qq)
  refine jl_sub [0, 1, 2, 3, 4] rfl ?_
  exact jl_widen (by omega) (by omega) (kend _ _ _ hi)
set_option maxHeartbeats 4000000 in
set_option maxRecDepth 100000 in
theorem lc_trace {X : jz_X} {Z : cz_Z} {b L : Nat} {xs : Nat → Int32} {Q : State → Prop} (C : jz_C X 7 code R_Lw (some .boolean) room_1 (lz_G Z)) (hX : jl_S X (lz_G Z) b L xs) (hI : jz_I (lz_G Z)) (hx : xz_ok (xz_s X)) (hxn : xn_ok (xz_s X)) (hl0 : (xz_l X).stackTraces = false) {I : Nat → jz_M → jz_M → Prop} (hs : sp_trace I) {c : Nat} {mc mm : jz_M} {v x4 : Int32} (hc : c < 512) (hInv : I c mc mm) (hx4 : x4 = nI (5 * c)) (hL : 5 * c + 5 ≤ L) (hL2 : L ≤ 2560) (kend : ∀ (mc2 mm2 : jz_M) (v2 : Int32), I (c + 1) mc2 mm2 → jl_J X 7 (lz_G Z) (174 + (c + 1)) (21461 + 6 * (c + 1)) Q (lm_ mc2 mm2 v2) [(0, .ref b), (1, .ref (gz_ad (lz_G Z) 0)), (2, .ref (gz_ad (lz_G Z) 152)), (3, .ref (gz_ad (lz_G Z) 173)), (4, .int x4)] 935 []) : jl_J X 7 (lz_G Z) (174 + c) (21461 + 6 * c) Q (lm_ mc mm v) [(0, .ref b), (1, .ref (gz_ad (lz_G Z) 0)), (2, .ref (gz_ad (lz_G Z) 152)), (3, .ref (gz_ad (lz_G Z) 173)), (4, .int x4)] 898 [] := by
  have hcs : 174 + c ≤ room_1.cells ∧ 21461 + 6 * c ≤ room_1.slots := ⟨by show 174 + c ≤ 601024; omega, by show 21461 + 6 * c ≤ 7293034; omega⟩
  obtain ⟨r, q, h1, h2, hr, hi⟩ := hs c mc mm hc hInv (xs (5 * c + 1)) (xs (5 * c + 2))
  refine jl_aload_n 898 C dl_898 rfl ?_
  refine jl_aload_n 899 C dl_899 rfl ?_
  refine jl_iload 900 C dl_900 rfl ?_
  refine jl_iconst 902 1 C dl_902 (by decide) ?_
  refine jl_iadd 903 C dl_903 ?_
  refine jl_sld 904 C dl_904 hX (ll_in hx4 (j := 1) rfl (by omega) hL2) ?_
  refine jl_top (ll_at hx4 (j := 1) rfl (by omega) hL2) ?_
  refine jl_aload_n 905 C dl_905 rfl ?_
  refine jl_iload 906 C dl_906 rfl ?_
  refine jl_iconst 908 2 C dl_908 (by decide) ?_
  refine jl_iadd 909 C dl_909 ?_
  refine jl_sld 910 C dl_910 hX (ll_in hx4 (j := 2) rfl (by omega) hL2) ?_
  refine jl_top (ll_at hx4 (j := 2) rfl (by omega) hL2) ?_
  refine jl_callV 911 [.int (xs (5 * c + 1)), .int (xs (5 * c + 2))] C dl_911 (lf_C hI mm v (c_AR_trace (xz_l X) (jz_I_sub lz_subC hI) h1)) sz_AR_trace tz_AR_trace ll_96 lo_AR rfl (by decide) rfl rfl hcs (Nat.le_of_ble_eq_true rfl) rfl ?_
  refine jl_aload_n 914 C dl_914 rfl ?_
  refine jl_aload_n 915 C dl_915 rfl ?_
  refine jl_iload 916 C dl_916 rfl ?_
  refine jl_iconst 918 1 C dl_918 (by decide) ?_
  refine jl_iadd 919 C dl_919 ?_
  refine jl_sld 920 C dl_920 hX (ll_in hx4 (j := 1) rfl (by omega) hL2) ?_
  refine jl_top (ll_at hx4 (j := 1) rfl (by omega) hL2) ?_
  refine jl_aload_n 921 C dl_921 rfl ?_
  refine jl_iload 922 C dl_922 rfl ?_
  refine jl_iconst 924 2 C dl_924 (by decide) ?_
  refine jl_iadd 925 C dl_925 ?_
  refine jl_sld 926 C dl_926 hX (ll_in hx4 (j := 2) rfl (by omega) hL2) ?_
  refine jl_top (ll_at hx4 (j := 2) rfl (by omega) hL2) ?_
  refine jl_callV 927 [.int (xs (5 * c + 1)), .int (xs (5 * c + 2))] C dl_927 (lf_M hI r.2 v (c_Mo_trace (xz_l X) (jz_I_sub lz_subM hI) h2)) sz_Mo_trace tz_Mo_trace ll_99 lo_Mo rfl (by decide) rfl rfl hcs (Nat.le_of_ble_eq_true rfl) rfl ?_
  refine jl_icmp_eq 930 935 C dl_930 (by decide) (fun _ => ?_) (fun qq => absurd hr qq)
  refine jl_sub [0, 1, 2, 3, 4] rfl ?_
  exact jl_widen (by omega) (by omega) (kend _ _ _ hi)
