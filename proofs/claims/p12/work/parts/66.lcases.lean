/-! the law's cases -/
set_option maxHeartbeats 4000000 in
set_option maxRecDepth 100000 in
theorem lc_place {X : jz_X} {Z : cz_Z} {b L : Nat} {xs : Nat → Int32} {Q : State → Prop} (C : jz_C X 7 code R_Lw (some .boolean) room_1 (lz_G Z)) (hX : jl_S X (lz_G Z) b L xs) (hI : jz_I (lz_G Z)) (hx : xz_ok (xz_s X)) (hxn : xn_ok (xz_s X)) (hl0 : (xz_l X).stackTraces = false) {I : Nat → jz_M → jz_M → Prop} (hs : sp_place I) {c : Nat} {mc mm : jz_M} {v x4 : Int32} (hc : c < 512) (hInv : I c mc mm) (hx4 : x4 = nI (5 * c)) (hL : 5 * c + 5 ≤ L) (hL2 : L ≤ 2560) (kend : ∀ (mc2 mm2 : jz_M) (v2 : Int32), I (c + 1) mc2 mm2 → jl_J X 7 (lz_G Z) (174 + (c + 1)) (21461 + 6 * (c + 1)) Q (lm_ mc2 mm2 v2) [(0, .ref b), (1, .ref (gz_ad (lz_G Z) 0)), (2, .ref (gz_ad (lz_G Z) 152)), (3, .ref (gz_ad (lz_G Z) 173)), (4, .int x4)] 795 []) : jl_J X 7 (lz_G Z) (174 + c) (21461 + 6 * c) Q (lm_ mc mm v) [(0, .ref b), (1, .ref (gz_ad (lz_G Z) 0)), (2, .ref (gz_ad (lz_G Z) 152)), (3, .ref (gz_ad (lz_G Z) 173)), (4, .int x4)] 108 [] := by
  have hcs : 174 + c ≤ room_1.cells ∧ 21461 + 6 * c ≤ room_1.slots := ⟨by show 174 + c ≤ 601024; omega, by show 21461 + 6 * c ≤ 7293034; omega⟩
  obtain ⟨r, q, h1, h2, hr, hi⟩ := hs c mc mm hc hInv (xs (5 * c + 1)) (xs (5 * c + 2)) (xs (5 * c + 3))
  refine jl_aload_n 108 C dl_108 rfl ?_
  refine jl_aload_n 109 C dl_109 rfl ?_
  refine jl_iload 110 C dl_110 rfl ?_
  refine jl_iconst 112 1 C dl_112 (by decide) ?_
  refine jl_iadd 113 C dl_113 ?_
  refine jl_sld 114 C dl_114 hX (ll_in hx4 (j := 1) rfl (by omega) hL2) ?_
  refine jl_top (ll_at hx4 (j := 1) rfl (by omega) hL2) ?_
  refine jl_aload_n 115 C dl_115 rfl ?_
  refine jl_iload 116 C dl_116 rfl ?_
  refine jl_iconst 118 2 C dl_118 (by decide) ?_
  refine jl_iadd 119 C dl_119 ?_
  refine jl_sld 120 C dl_120 hX (ll_in hx4 (j := 2) rfl (by omega) hL2) ?_
  refine jl_top (ll_at hx4 (j := 2) rfl (by omega) hL2) ?_
  refine jl_aload_n 121 C dl_121 rfl ?_
  refine jl_iload 122 C dl_122 rfl ?_
  refine jl_iconst 124 3 C dl_124 (by decide) ?_
  refine jl_iadd 125 C dl_125 ?_
  refine jl_sld 126 C dl_126 hX (ll_in hx4 (j := 3) rfl (by omega) hL2) ?_
  refine jl_top (ll_at hx4 (j := 3) rfl (by omega) hL2) ?_
  refine jl_callV 127 [.int (xs (5 * c + 1)), .int (xs (5 * c + 2)), .int (xs (5 * c + 3))] C dl_127 (lf_C hI mm v (c_AR_place (xz_l X) (jz_I_sub lz_subC hI) h1)) sz_AR_place tz_AR_place ll_37 lo_AR rfl (by decide) rfl rfl hcs (Nat.le_of_ble_eq_true rfl) rfl ?_
  refine jl_pop 130 C dl_130 rfl ?_
  refine jl_aload_n 131 C dl_131 rfl ?_
  refine jl_aload_n 132 C dl_132 rfl ?_
  refine jl_iload 133 C dl_133 rfl ?_
  refine jl_iconst 135 1 C dl_135 (by decide) ?_
  refine jl_iadd 136 C dl_136 ?_
  refine jl_sld 137 C dl_137 hX (ll_in hx4 (j := 1) rfl (by omega) hL2) ?_
  refine jl_top (ll_at hx4 (j := 1) rfl (by omega) hL2) ?_
  refine jl_aload_n 138 C dl_138 rfl ?_
  refine jl_iload 139 C dl_139 rfl ?_
  refine jl_iconst 141 2 C dl_141 (by decide) ?_
  refine jl_iadd 142 C dl_142 ?_
  refine jl_sld 143 C dl_143 hX (ll_in hx4 (j := 2) rfl (by omega) hL2) ?_
  refine jl_top (ll_at hx4 (j := 2) rfl (by omega) hL2) ?_
  refine jl_aload_n 144 C dl_144 rfl ?_
  refine jl_iload 145 C dl_145 rfl ?_
  refine jl_iconst 147 3 C dl_147 (by decide) ?_
  refine jl_iadd 148 C dl_148 ?_
  refine jl_sld 149 C dl_149 hX (ll_in hx4 (j := 3) rfl (by omega) hL2) ?_
  refine jl_top (ll_at hx4 (j := 3) rfl (by omega) hL2) ?_
  refine jl_callV 150 [.int (xs (5 * c + 1)), .int (xs (5 * c + 2)), .int (xs (5 * c + 3))] C dl_150 (lf_M hI r.2 v (c_Mo_place (xz_l X) (jz_I_sub lz_subM hI) h2)) sz_Mo_place tz_Mo_place ll_41 lo_Mo rfl (by decide) rfl rfl hcs (Nat.le_of_ble_eq_true rfl) rfl ?_
  refine jl_pop 153 C dl_153 rfl ?_
  refine jl_goto 154 795 C dl_154 (by decide) ?_
  refine jl_sub [0, 1, 2, 3, 4] rfl ?_
  exact jl_widen (by omega) (by omega) (kend _ _ _ hi)
set_option maxHeartbeats 4000000 in
set_option maxRecDepth 100000 in
theorem lc_attach {X : jz_X} {Z : cz_Z} {b L : Nat} {xs : Nat → Int32} {Q : State → Prop} (C : jz_C X 7 code R_Lw (some .boolean) room_1 (lz_G Z)) (hX : jl_S X (lz_G Z) b L xs) (hI : jz_I (lz_G Z)) (hx : xz_ok (xz_s X)) (hxn : xn_ok (xz_s X)) (hl0 : (xz_l X).stackTraces = false) {I : Nat → jz_M → jz_M → Prop} (hs : sp_attach I) {c : Nat} {mc mm : jz_M} {v x4 : Int32} (hc : c < 512) (hInv : I c mc mm) (hx4 : x4 = nI (5 * c)) (hL : 5 * c + 5 ≤ L) (hL2 : L ≤ 2560) (kend : ∀ (mc2 mm2 : jz_M) (v2 : Int32), I (c + 1) mc2 mm2 → jl_J X 7 (lz_G Z) (174 + (c + 1)) (21461 + 6 * (c + 1)) Q (lm_ mc2 mm2 v2) [(0, .ref b), (1, .ref (gz_ad (lz_G Z) 0)), (2, .ref (gz_ad (lz_G Z) 152)), (3, .ref (gz_ad (lz_G Z) 173)), (4, .int x4)] 795 []) : jl_J X 7 (lz_G Z) (174 + c) (21461 + 6 * c) Q (lm_ mc mm v) [(0, .ref b), (1, .ref (gz_ad (lz_G Z) 0)), (2, .ref (gz_ad (lz_G Z) 152)), (3, .ref (gz_ad (lz_G Z) 173)), (4, .int x4)] 157 [] := by
  have hcs : 174 + c ≤ room_1.cells ∧ 21461 + 6 * c ≤ room_1.slots := ⟨by show 174 + c ≤ 601024; omega, by show 21461 + 6 * c ≤ 7293034; omega⟩
  obtain ⟨r, q, h1, h2, hr, hi⟩ := hs c mc mm hc hInv (xs (5 * c + 1)) (xs (5 * c + 2)) (xs (5 * c + 3)) (xs (5 * c + 4))
  refine jl_aload_n 157 C dl_157 rfl ?_
  refine jl_aload_n 158 C dl_158 rfl ?_
  refine jl_iload 159 C dl_159 rfl ?_
  refine jl_iconst 161 1 C dl_161 (by decide) ?_
  refine jl_iadd 162 C dl_162 ?_
  refine jl_sld 163 C dl_163 hX (ll_in hx4 (j := 1) rfl (by omega) hL2) ?_
  refine jl_top (ll_at hx4 (j := 1) rfl (by omega) hL2) ?_
  refine jl_aload_n 164 C dl_164 rfl ?_
  refine jl_iload 165 C dl_165 rfl ?_
  refine jl_iconst 167 2 C dl_167 (by decide) ?_
  refine jl_iadd 168 C dl_168 ?_
  refine jl_sld 169 C dl_169 hX (ll_in hx4 (j := 2) rfl (by omega) hL2) ?_
  refine jl_top (ll_at hx4 (j := 2) rfl (by omega) hL2) ?_
  refine jl_aload_n 170 C dl_170 rfl ?_
  refine jl_iload 171 C dl_171 rfl ?_
  refine jl_iconst 173 3 C dl_173 (by decide) ?_
  refine jl_iadd 174 C dl_174 ?_
  refine jl_sld 175 C dl_175 hX (ll_in hx4 (j := 3) rfl (by omega) hL2) ?_
  refine jl_top (ll_at hx4 (j := 3) rfl (by omega) hL2) ?_
  refine jl_aload_n 176 C dl_176 rfl ?_
  refine jl_iload 177 C dl_177 rfl ?_
  refine jl_iconst 179 4 C dl_179 (by decide) ?_
  refine jl_iadd 180 C dl_180 ?_
  refine jl_sld 181 C dl_181 hX (ll_in hx4 (j := 4) rfl (by omega) hL2) ?_
  refine jl_top (ll_at hx4 (j := 4) rfl (by omega) hL2) ?_
  refine jl_callV 182 [.int (xs (5 * c + 1)), .int (xs (5 * c + 2)), .int (xs (5 * c + 3)), .int (xs (5 * c + 4))] C dl_182 (lf_C hI mm v (c_AR_attach (xz_l X) (jz_I_sub lz_subC hI) h1)) sz_AR_attach tz_AR_attach ll_42 lo_AR rfl (by decide) rfl rfl hcs (Nat.le_of_ble_eq_true rfl) rfl ?_
  refine jl_pop 185 C dl_185 rfl ?_
  refine jl_aload_n 186 C dl_186 rfl ?_
  refine jl_aload_n 187 C dl_187 rfl ?_
  refine jl_iload 188 C dl_188 rfl ?_
  refine jl_iconst 190 1 C dl_190 (by decide) ?_
  refine jl_iadd 191 C dl_191 ?_
  refine jl_sld 192 C dl_192 hX (ll_in hx4 (j := 1) rfl (by omega) hL2) ?_
  refine jl_top (ll_at hx4 (j := 1) rfl (by omega) hL2) ?_
  refine jl_aload_n 193 C dl_193 rfl ?_
  refine jl_iload 194 C dl_194 rfl ?_
  refine jl_iconst 196 2 C dl_196 (by decide) ?_
  refine jl_iadd 197 C dl_197 ?_
  refine jl_sld 198 C dl_198 hX (ll_in hx4 (j := 2) rfl (by omega) hL2) ?_
  refine jl_top (ll_at hx4 (j := 2) rfl (by omega) hL2) ?_
  refine jl_aload_n 199 C dl_199 rfl ?_
  refine jl_iload 200 C dl_200 rfl ?_
  refine jl_iconst 202 3 C dl_202 (by decide) ?_
  refine jl_iadd 203 C dl_203 ?_
  refine jl_sld 204 C dl_204 hX (ll_in hx4 (j := 3) rfl (by omega) hL2) ?_
  refine jl_top (ll_at hx4 (j := 3) rfl (by omega) hL2) ?_
  refine jl_aload_n 205 C dl_205 rfl ?_
  refine jl_iload 206 C dl_206 rfl ?_
  refine jl_iconst 208 4 C dl_208 (by decide) ?_
  refine jl_iadd 209 C dl_209 ?_
  refine jl_sld 210 C dl_210 hX (ll_in hx4 (j := 4) rfl (by omega) hL2) ?_
  refine jl_top (ll_at hx4 (j := 4) rfl (by omega) hL2) ?_
  refine jl_callV 211 [.int (xs (5 * c + 1)), .int (xs (5 * c + 2)), .int (xs (5 * c + 3)), .int (xs (5 * c + 4))] C dl_211 (lf_M hI r.2 v (c_Mo_attach (xz_l X) (jz_I_sub lz_subM hI) h2)) sz_Mo_attach tz_Mo_attach ll_46 lo_Mo rfl (by decide) rfl rfl hcs (Nat.le_of_ble_eq_true rfl) rfl ?_
  refine jl_pop 214 C dl_214 rfl ?_
  refine jl_goto 215 795 C dl_215 (by decide) ?_
  refine jl_sub [0, 1, 2, 3, 4] rfl ?_
  exact jl_widen (by omega) (by omega) (kend _ _ _ hi)
set_option maxHeartbeats 4000000 in
set_option maxRecDepth 100000 in
theorem lc_hello {X : jz_X} {Z : cz_Z} {b L : Nat} {xs : Nat → Int32} {Q : State → Prop} (C : jz_C X 7 code R_Lw (some .boolean) room_1 (lz_G Z)) (hX : jl_S X (lz_G Z) b L xs) (hI : jz_I (lz_G Z)) (hx : xz_ok (xz_s X)) (hxn : xn_ok (xz_s X)) (hl0 : (xz_l X).stackTraces = false) {I : Nat → jz_M → jz_M → Prop} (hs : sp_hello I) {c : Nat} {mc mm : jz_M} {v x4 : Int32} (hc : c < 512) (hInv : I c mc mm) (hx4 : x4 = nI (5 * c)) (hL : 5 * c + 5 ≤ L) (hL2 : L ≤ 2560) (kend : ∀ (mc2 mm2 : jz_M) (v2 : Int32), I (c + 1) mc2 mm2 → jl_J X 7 (lz_G Z) (174 + (c + 1)) (21461 + 6 * (c + 1)) Q (lm_ mc2 mm2 v2) [(0, .ref b), (1, .ref (gz_ad (lz_G Z) 0)), (2, .ref (gz_ad (lz_G Z) 152)), (3, .ref (gz_ad (lz_G Z) 173)), (4, .int x4)] 795 []) : jl_J X 7 (lz_G Z) (174 + c) (21461 + 6 * c) Q (lm_ mc mm v) [(0, .ref b), (1, .ref (gz_ad (lz_G Z) 0)), (2, .ref (gz_ad (lz_G Z) 152)), (3, .ref (gz_ad (lz_G Z) 173)), (4, .int x4)] 218 [] := by
  have hcs : 174 + c ≤ room_1.cells ∧ 21461 + 6 * c ≤ room_1.slots := ⟨by show 174 + c ≤ 601024; omega, by show 21461 + 6 * c ≤ 7293034; omega⟩
  obtain ⟨q, h2, hq⟩ := hs c mc mm hc hInv (xs (5 * c + 1)) (xs (5 * c + 2)) (xs (5 * c + 3))
  rcases hq with ⟨r, h1, ht, hr, hi⟩ | ⟨h1, ht, hi⟩ | ⟨h1, ht, hi⟩
  · skip
    refine jl_aload_n 218 C dl_218 rfl ?_
    refine jl_aload_n 219 C dl_219 rfl ?_
    refine jl_iload 220 C dl_220 rfl ?_
    refine jl_iconst 222 1 C dl_222 (by decide) ?_
    refine jl_iadd 223 C dl_223 ?_
    refine jl_sld 224 C dl_224 hX (ll_in hx4 (j := 1) rfl (by omega) hL2) ?_
    refine jl_top (ll_at hx4 (j := 1) rfl (by omega) hL2) ?_
    refine jl_aload_n 225 C dl_225 rfl ?_
    refine jl_iload 226 C dl_226 rfl ?_
    refine jl_iconst 228 2 C dl_228 (by decide) ?_
    refine jl_iadd 229 C dl_229 ?_
    refine jl_sld 230 C dl_230 hX (ll_in hx4 (j := 2) rfl (by omega) hL2) ?_
    refine jl_top (ll_at hx4 (j := 2) rfl (by omega) hL2) ?_
    refine jl_aload_n 231 C dl_231 rfl ?_
    refine jl_iload 232 C dl_232 rfl ?_
    refine jl_iconst 234 3 C dl_234 (by decide) ?_
    refine jl_iadd 235 C dl_235 ?_
    refine jl_sld 236 C dl_236 hX (ll_in hx4 (j := 3) rfl (by omega) hL2) ?_
    refine jl_top (ll_at hx4 (j := 3) rfl (by omega) hL2) ?_
    refine jl_aload_n 237 C dl_237 rfl ?_
    refine jl_callH 238 [.ref (gz_ad (lz_G Z) 0), .int (xs (5 * c + 1)), .int (xs (5 * c + 2)), .int (xs (5 * c + 3)), .ref (gz_ad (lz_G Z) 173)] C dl_238 (lh0_hello (xz_l X) hI mm v h1) (lt_2 (i := 97) (by set_option maxRecDepth 100000 in exact rfl)) (lt_1 (i := 0) (by set_option maxRecDepth 100000 in exact rfl)) (lt_2 (i := 96) (by set_option maxRecDepth 100000 in exact rfl)) ll_47 (by decide) (n := 5) (by decide +kernel) (by decide) ⟨rfl, rfl⟩ ⟨by show 174 + c + 1 ≤ 601024; omega, by show 21461 + 6 * c + 6 ≤ 7293034; omega⟩ rfl rfl (Nat.le_of_ble_eq_true rfl) hx hxn hX.2.2 ?_
    refine jl_istore 241 [(0, .ref b), (1, .ref (gz_ad (lz_G Z) 0)), (2, .ref (gz_ad (lz_G Z) 152)), (3, .ref (gz_ad (lz_G Z) 173)), (4, .int x4), (5, .int 0)] C dl_241 rfl (by decide) rfl ?_
    refine jl_aload_n 243 C dl_243 rfl ?_
    refine jl_aload_n 244 C dl_244 rfl ?_
    refine jl_iload 245 C dl_245 rfl ?_
    refine jl_iconst 247 1 C dl_247 (by decide) ?_
    refine jl_iadd 248 C dl_248 ?_
    refine jl_sld 249 C dl_249 hX (ll_in hx4 (j := 1) rfl (by omega) hL2) ?_
    refine jl_top (ll_at hx4 (j := 1) rfl (by omega) hL2) ?_
    refine jl_aload_n 250 C dl_250 rfl ?_
    refine jl_iload 251 C dl_251 rfl ?_
    refine jl_iconst 253 2 C dl_253 (by decide) ?_
    refine jl_iadd 254 C dl_254 ?_
    refine jl_sld 255 C dl_255 hX (ll_in hx4 (j := 2) rfl (by omega) hL2) ?_
    refine jl_top (ll_at hx4 (j := 2) rfl (by omega) hL2) ?_
    refine jl_aload_n 256 C dl_256 rfl ?_
    refine jl_iload 257 C dl_257 rfl ?_
    refine jl_iconst 259 3 C dl_259 (by decide) ?_
    refine jl_iadd 260 C dl_260 ?_
    refine jl_sld 261 C dl_261 hX (ll_in hx4 (j := 3) rfl (by omega) hL2) ?_
    refine jl_top (ll_at hx4 (j := 3) rfl (by omega) hL2) ?_
    refine jl_callV 262 [.int (xs (5 * c + 1)), .int (xs (5 * c + 2)), .int (xs (5 * c + 3))] C dl_262 (lf_M hI r.2 r.1 (c_Mo_hello (xz_l X) (jz_I_sub lz_subM hI) h2)) sz_Mo_hello tz_Mo_hello ll_52 lo_Mo rfl (by decide) rfl rfl ⟨by show 174 + c + 1 ≤ 601024; omega, by show 21461 + 6 * c + 6 ≤ 7293034; omega⟩ (Nat.le_of_ble_eq_true rfl) rfl ?_
    refine jl_istore 265 [(0, .ref b), (1, .ref (gz_ad (lz_G Z) 0)), (2, .ref (gz_ad (lz_G Z) 152)), (3, .ref (gz_ad (lz_G Z) 173)), (4, .int x4), (5, .int 0), (6, .int q.1)] C dl_265 rfl (by decide) rfl ?_
    refine jl_goto 267 795 C dl_267 (by decide) ?_
    refine jl_sub [0, 1, 2, 3, 4] rfl ?_
    exact jl_widen (by omega) (by omega) (kend _ _ _ hi)
  · skip
    refine jl_aload_n 218 C dl_218 rfl ?_
    refine jl_aload_n 219 C dl_219 rfl ?_
    refine jl_iload 220 C dl_220 rfl ?_
    refine jl_iconst 222 1 C dl_222 (by decide) ?_
    refine jl_iadd 223 C dl_223 ?_
    refine jl_sld 224 C dl_224 hX (ll_in hx4 (j := 1) rfl (by omega) hL2) ?_
    refine jl_top (ll_at hx4 (j := 1) rfl (by omega) hL2) ?_
    refine jl_aload_n 225 C dl_225 rfl ?_
    refine jl_iload 226 C dl_226 rfl ?_
    refine jl_iconst 228 2 C dl_228 (by decide) ?_
    refine jl_iadd 229 C dl_229 ?_
    refine jl_sld 230 C dl_230 hX (ll_in hx4 (j := 2) rfl (by omega) hL2) ?_
    refine jl_top (ll_at hx4 (j := 2) rfl (by omega) hL2) ?_
    refine jl_aload_n 231 C dl_231 rfl ?_
    refine jl_iload 232 C dl_232 rfl ?_
    refine jl_iconst 234 3 C dl_234 (by decide) ?_
    refine jl_iadd 235 C dl_235 ?_
    refine jl_sld 236 C dl_236 hX (ll_in hx4 (j := 3) rfl (by omega) hL2) ?_
    refine jl_top (ll_at hx4 (j := 3) rfl (by omega) hL2) ?_
    refine jl_aload_n 237 C dl_237 rfl ?_
    refine jl_callH 238 [.ref (gz_ad (lz_G Z) 0), .int (xs (5 * c + 1)), .int (xs (5 * c + 2)), .int (xs (5 * c + 3)), .ref (gz_ad (lz_G Z) 173)] C dl_238 (lh1_hello (xz_l X) hl0 hI mm v h1) (lt_2 (i := 97) (by set_option maxRecDepth 100000 in exact rfl)) (lt_1 (i := 0) (by set_option maxRecDepth 100000 in exact rfl)) (lt_2 (i := 96) (by set_option maxRecDepth 100000 in exact rfl)) ll_47 (by decide) (n := 5) (by decide +kernel) (by decide) ⟨rfl, rfl⟩ ⟨by show 174 + c + 1 ≤ 601024; omega, by show 21461 + 6 * c + 6 ≤ 7293034; omega⟩ rfl rfl (Nat.le_of_ble_eq_true rfl) hx hxn hX.2.2 ?_
    refine jl_istore 241 [(0, .ref b), (1, .ref (gz_ad (lz_G Z) 0)), (2, .ref (gz_ad (lz_G Z) 152)), (3, .ref (gz_ad (lz_G Z) 173)), (4, .int x4), (5, .int 1)] C dl_241 rfl (by decide) rfl ?_
    refine jl_aload_n 243 C dl_243 rfl ?_
    refine jl_aload_n 244 C dl_244 rfl ?_
    refine jl_iload 245 C dl_245 rfl ?_
    refine jl_iconst 247 1 C dl_247 (by decide) ?_
    refine jl_iadd 248 C dl_248 ?_
    refine jl_sld 249 C dl_249 hX (ll_in hx4 (j := 1) rfl (by omega) hL2) ?_
    refine jl_top (ll_at hx4 (j := 1) rfl (by omega) hL2) ?_
    refine jl_aload_n 250 C dl_250 rfl ?_
    refine jl_iload 251 C dl_251 rfl ?_
    refine jl_iconst 253 2 C dl_253 (by decide) ?_
    refine jl_iadd 254 C dl_254 ?_
    refine jl_sld 255 C dl_255 hX (ll_in hx4 (j := 2) rfl (by omega) hL2) ?_
    refine jl_top (ll_at hx4 (j := 2) rfl (by omega) hL2) ?_
    refine jl_aload_n 256 C dl_256 rfl ?_
    refine jl_iload 257 C dl_257 rfl ?_
    refine jl_iconst 259 3 C dl_259 (by decide) ?_
    refine jl_iadd 260 C dl_260 ?_
    refine jl_sld 261 C dl_261 hX (ll_in hx4 (j := 3) rfl (by omega) hL2) ?_
    refine jl_top (ll_at hx4 (j := 3) rfl (by omega) hL2) ?_
    refine jl_callV 262 [.int (xs (5 * c + 1)), .int (xs (5 * c + 2)), .int (xs (5 * c + 3))] C dl_262 (lf_M hI mc v (c_Mo_hello (xz_l X) (jz_I_sub lz_subM hI) h2)) sz_Mo_hello tz_Mo_hello ll_52 lo_Mo rfl (by decide) rfl rfl ⟨by show 174 + c + 1 ≤ 601024; omega, by show 21461 + 6 * c + 6 ≤ 7293034; omega⟩ (Nat.le_of_ble_eq_true rfl) rfl ?_
    refine jl_istore 265 [(0, .ref b), (1, .ref (gz_ad (lz_G Z) 0)), (2, .ref (gz_ad (lz_G Z) 152)), (3, .ref (gz_ad (lz_G Z) 173)), (4, .int x4), (5, .int 1), (6, .int q.1)] C dl_265 rfl (by decide) rfl ?_
    refine jl_goto 267 795 C dl_267 (by decide) ?_
    refine jl_sub [0, 1, 2, 3, 4] rfl ?_
    exact jl_widen (by omega) (by omega) (kend _ _ _ hi)
  · skip
    refine jl_aload_n 218 C dl_218 rfl ?_
    refine jl_aload_n 219 C dl_219 rfl ?_
    refine jl_iload 220 C dl_220 rfl ?_
    refine jl_iconst 222 1 C dl_222 (by decide) ?_
    refine jl_iadd 223 C dl_223 ?_
    refine jl_sld 224 C dl_224 hX (ll_in hx4 (j := 1) rfl (by omega) hL2) ?_
    refine jl_top (ll_at hx4 (j := 1) rfl (by omega) hL2) ?_
    refine jl_aload_n 225 C dl_225 rfl ?_
    refine jl_iload 226 C dl_226 rfl ?_
    refine jl_iconst 228 2 C dl_228 (by decide) ?_
    refine jl_iadd 229 C dl_229 ?_
    refine jl_sld 230 C dl_230 hX (ll_in hx4 (j := 2) rfl (by omega) hL2) ?_
    refine jl_top (ll_at hx4 (j := 2) rfl (by omega) hL2) ?_
    refine jl_aload_n 231 C dl_231 rfl ?_
    refine jl_iload 232 C dl_232 rfl ?_
    refine jl_iconst 234 3 C dl_234 (by decide) ?_
    refine jl_iadd 235 C dl_235 ?_
    refine jl_sld 236 C dl_236 hX (ll_in hx4 (j := 3) rfl (by omega) hL2) ?_
    refine jl_top (ll_at hx4 (j := 3) rfl (by omega) hL2) ?_
    refine jl_aload_n 237 C dl_237 rfl ?_
    refine jl_callH 238 [.ref (gz_ad (lz_G Z) 0), .int (xs (5 * c + 1)), .int (xs (5 * c + 2)), .int (xs (5 * c + 3)), .ref (gz_ad (lz_G Z) 173)] C dl_238 (lh2_hello (xz_l X) hl0 hI mm v h1) (lt_2 (i := 97) (by set_option maxRecDepth 100000 in exact rfl)) (lt_1 (i := 0) (by set_option maxRecDepth 100000 in exact rfl)) (lt_2 (i := 96) (by set_option maxRecDepth 100000 in exact rfl)) ll_47 (by decide) (n := 5) (by decide +kernel) (by decide) ⟨rfl, rfl⟩ ⟨by show 174 + c + 1 ≤ 601024; omega, by show 21461 + 6 * c + 6 ≤ 7293034; omega⟩ rfl rfl (Nat.le_of_ble_eq_true rfl) hx hxn hX.2.2 ?_
    refine jl_istore 241 [(0, .ref b), (1, .ref (gz_ad (lz_G Z) 0)), (2, .ref (gz_ad (lz_G Z) 152)), (3, .ref (gz_ad (lz_G Z) 173)), (4, .int x4), (5, .int 2)] C dl_241 rfl (by decide) rfl ?_
    refine jl_aload_n 243 C dl_243 rfl ?_
    refine jl_aload_n 244 C dl_244 rfl ?_
    refine jl_iload 245 C dl_245 rfl ?_
    refine jl_iconst 247 1 C dl_247 (by decide) ?_
    refine jl_iadd 248 C dl_248 ?_
    refine jl_sld 249 C dl_249 hX (ll_in hx4 (j := 1) rfl (by omega) hL2) ?_
    refine jl_top (ll_at hx4 (j := 1) rfl (by omega) hL2) ?_
    refine jl_aload_n 250 C dl_250 rfl ?_
    refine jl_iload 251 C dl_251 rfl ?_
    refine jl_iconst 253 2 C dl_253 (by decide) ?_
    refine jl_iadd 254 C dl_254 ?_
    refine jl_sld 255 C dl_255 hX (ll_in hx4 (j := 2) rfl (by omega) hL2) ?_
    refine jl_top (ll_at hx4 (j := 2) rfl (by omega) hL2) ?_
    refine jl_aload_n 256 C dl_256 rfl ?_
    refine jl_iload 257 C dl_257 rfl ?_
    refine jl_iconst 259 3 C dl_259 (by decide) ?_
    refine jl_iadd 260 C dl_260 ?_
    refine jl_sld 261 C dl_261 hX (ll_in hx4 (j := 3) rfl (by omega) hL2) ?_
    refine jl_top (ll_at hx4 (j := 3) rfl (by omega) hL2) ?_
    refine jl_callV 262 [.int (xs (5 * c + 1)), .int (xs (5 * c + 2)), .int (xs (5 * c + 3))] C dl_262 (lf_M hI mc v (c_Mo_hello (xz_l X) (jz_I_sub lz_subM hI) h2)) sz_Mo_hello tz_Mo_hello ll_52 lo_Mo rfl (by decide) rfl rfl ⟨by show 174 + c + 1 ≤ 601024; omega, by show 21461 + 6 * c + 6 ≤ 7293034; omega⟩ (Nat.le_of_ble_eq_true rfl) rfl ?_
    refine jl_istore 265 [(0, .ref b), (1, .ref (gz_ad (lz_G Z) 0)), (2, .ref (gz_ad (lz_G Z) 152)), (3, .ref (gz_ad (lz_G Z) 173)), (4, .int x4), (5, .int 2), (6, .int q.1)] C dl_265 rfl (by decide) rfl ?_
    refine jl_goto 267 795 C dl_267 (by decide) ?_
    refine jl_sub [0, 1, 2, 3, 4] rfl ?_
    exact jl_widen (by omega) (by omega) (kend _ _ _ hi)
set_option maxHeartbeats 4000000 in
set_option maxRecDepth 100000 in
theorem lc_spread {X : jz_X} {Z : cz_Z} {b L : Nat} {xs : Nat → Int32} {Q : State → Prop} (C : jz_C X 7 code R_Lw (some .boolean) room_1 (lz_G Z)) (hX : jl_S X (lz_G Z) b L xs) (hI : jz_I (lz_G Z)) (hx : xz_ok (xz_s X)) (hxn : xn_ok (xz_s X)) (hl0 : (xz_l X).stackTraces = false) {I : Nat → jz_M → jz_M → Prop} (hs : sp_spread I) {c : Nat} {mc mm : jz_M} {v x4 : Int32} (hc : c < 512) (hInv : I c mc mm) (hx4 : x4 = nI (5 * c)) (hL : 5 * c + 5 ≤ L) (hL2 : L ≤ 2560) (kend : ∀ (mc2 mm2 : jz_M) (v2 : Int32), I (c + 1) mc2 mm2 → jl_J X 7 (lz_G Z) (174 + (c + 1)) (21461 + 6 * (c + 1)) Q (lm_ mc2 mm2 v2) [(0, .ref b), (1, .ref (gz_ad (lz_G Z) 0)), (2, .ref (gz_ad (lz_G Z) 152)), (3, .ref (gz_ad (lz_G Z) 173)), (4, .int x4)] 795 []) : jl_J X 7 (lz_G Z) (174 + c) (21461 + 6 * c) Q (lm_ mc mm v) [(0, .ref b), (1, .ref (gz_ad (lz_G Z) 0)), (2, .ref (gz_ad (lz_G Z) 152)), (3, .ref (gz_ad (lz_G Z) 173)), (4, .int x4)] 270 [] := by
  have hcs : 174 + c ≤ room_1.cells ∧ 21461 + 6 * c ≤ room_1.slots := ⟨by show 174 + c ≤ 601024; omega, by show 21461 + 6 * c ≤ 7293034; omega⟩
  obtain ⟨q, h2, hq⟩ := hs c mc mm hc hInv (xs (5 * c + 1)) (xs (5 * c + 2)) (xs (5 * c + 3)) (xs (5 * c + 4))
  rcases hq with ⟨r, h1, ht, hr, hi⟩ | ⟨h1, ht, hi⟩ | ⟨h1, ht, hi⟩ | ⟨h0, h1, ht, hi⟩
  · skip
    refine jl_aload_n 270 C dl_270 rfl ?_
    refine jl_aload_n 271 C dl_271 rfl ?_
    refine jl_iload 272 C dl_272 rfl ?_
    refine jl_iconst 274 1 C dl_274 (by decide) ?_
    refine jl_iadd 275 C dl_275 ?_
    refine jl_sld 276 C dl_276 hX (ll_in hx4 (j := 1) rfl (by omega) hL2) ?_
    refine jl_top (ll_at hx4 (j := 1) rfl (by omega) hL2) ?_
    refine jl_aload_n 277 C dl_277 rfl ?_
    refine jl_iload 278 C dl_278 rfl ?_
    refine jl_iconst 280 2 C dl_280 (by decide) ?_
    refine jl_iadd 281 C dl_281 ?_
    refine jl_sld 282 C dl_282 hX (ll_in hx4 (j := 2) rfl (by omega) hL2) ?_
    refine jl_top (ll_at hx4 (j := 2) rfl (by omega) hL2) ?_
    refine jl_aload_n 283 C dl_283 rfl ?_
    refine jl_iload 284 C dl_284 rfl ?_
    refine jl_iconst 286 3 C dl_286 (by decide) ?_
    refine jl_iadd 287 C dl_287 ?_
    refine jl_sld 288 C dl_288 hX (ll_in hx4 (j := 3) rfl (by omega) hL2) ?_
    refine jl_top (ll_at hx4 (j := 3) rfl (by omega) hL2) ?_
    refine jl_aload_n 289 C dl_289 rfl ?_
    refine jl_iload 290 C dl_290 rfl ?_
    refine jl_iconst 292 4 C dl_292 (by decide) ?_
    refine jl_iadd 293 C dl_293 ?_
    refine jl_sld 294 C dl_294 hX (ll_in hx4 (j := 4) rfl (by omega) hL2) ?_
    refine jl_top (ll_at hx4 (j := 4) rfl (by omega) hL2) ?_
    refine jl_aload_n 295 C dl_295 rfl ?_
    refine jl_callH 296 [.ref (gz_ad (lz_G Z) 0), .int (xs (5 * c + 1)), .int (xs (5 * c + 2)), .int (xs (5 * c + 3)), .int (xs (5 * c + 4)), .ref (gz_ad (lz_G Z) 173)] C dl_296 (lh0_spread (xz_l X) hI mm v h1) (lt_2 (i := 209) (by set_option maxRecDepth 100000 in exact rfl)) (lt_1 (i := 0) (by set_option maxRecDepth 100000 in exact rfl)) (lt_2 (i := 208) (by set_option maxRecDepth 100000 in exact rfl)) ll_53 (by decide) (n := 6) (by decide +kernel) (by decide) ⟨rfl, rfl⟩ ⟨by show 174 + c + 1 ≤ 601024; omega, by show 21461 + 6 * c + 6 ≤ 7293034; omega⟩ rfl rfl (Nat.le_of_ble_eq_true rfl) hx hxn hX.2.2 ?_
    refine jl_istore 299 [(0, .ref b), (1, .ref (gz_ad (lz_G Z) 0)), (2, .ref (gz_ad (lz_G Z) 152)), (3, .ref (gz_ad (lz_G Z) 173)), (4, .int x4), (5, .int 0)] C dl_299 rfl (by decide) rfl ?_
    refine jl_aload_n 301 C dl_301 rfl ?_
    refine jl_aload_n 302 C dl_302 rfl ?_
    refine jl_iload 303 C dl_303 rfl ?_
    refine jl_iconst 305 1 C dl_305 (by decide) ?_
    refine jl_iadd 306 C dl_306 ?_
    refine jl_sld 307 C dl_307 hX (ll_in hx4 (j := 1) rfl (by omega) hL2) ?_
    refine jl_top (ll_at hx4 (j := 1) rfl (by omega) hL2) ?_
    refine jl_aload_n 308 C dl_308 rfl ?_
    refine jl_iload 309 C dl_309 rfl ?_
    refine jl_iconst 311 2 C dl_311 (by decide) ?_
    refine jl_iadd 312 C dl_312 ?_
    refine jl_sld 313 C dl_313 hX (ll_in hx4 (j := 2) rfl (by omega) hL2) ?_
    refine jl_top (ll_at hx4 (j := 2) rfl (by omega) hL2) ?_
    refine jl_aload_n 314 C dl_314 rfl ?_
    refine jl_iload 315 C dl_315 rfl ?_
    refine jl_iconst 317 3 C dl_317 (by decide) ?_
    refine jl_iadd 318 C dl_318 ?_
    refine jl_sld 319 C dl_319 hX (ll_in hx4 (j := 3) rfl (by omega) hL2) ?_
    refine jl_top (ll_at hx4 (j := 3) rfl (by omega) hL2) ?_
    refine jl_aload_n 320 C dl_320 rfl ?_
    refine jl_iload 321 C dl_321 rfl ?_
    refine jl_iconst 323 4 C dl_323 (by decide) ?_
    refine jl_iadd 324 C dl_324 ?_
    refine jl_sld 325 C dl_325 hX (ll_in hx4 (j := 4) rfl (by omega) hL2) ?_
    refine jl_top (ll_at hx4 (j := 4) rfl (by omega) hL2) ?_
    refine jl_callV 326 [.int (xs (5 * c + 1)), .int (xs (5 * c + 2)), .int (xs (5 * c + 3)), .int (xs (5 * c + 4))] C dl_326 (lf_M hI r.2 r.1 (c_Mo_spread (xz_l X) (jz_I_sub lz_subM hI) h2)) sz_Mo_spread tz_Mo_spread ll_56 lo_Mo rfl (by decide) rfl rfl ⟨by show 174 + c + 1 ≤ 601024; omega, by show 21461 + 6 * c + 6 ≤ 7293034; omega⟩ (Nat.le_of_ble_eq_true rfl) rfl ?_
    refine jl_istore 329 [(0, .ref b), (1, .ref (gz_ad (lz_G Z) 0)), (2, .ref (gz_ad (lz_G Z) 152)), (3, .ref (gz_ad (lz_G Z) 173)), (4, .int x4), (5, .int 0), (6, .int q.1)] C dl_329 rfl (by decide) rfl ?_
    refine jl_goto 331 795 C dl_331 (by decide) ?_
    refine jl_sub [0, 1, 2, 3, 4] rfl ?_
    exact jl_widen (by omega) (by omega) (kend _ _ _ hi)
  · skip
    refine jl_aload_n 270 C dl_270 rfl ?_
    refine jl_aload_n 271 C dl_271 rfl ?_
    refine jl_iload 272 C dl_272 rfl ?_
    refine jl_iconst 274 1 C dl_274 (by decide) ?_
    refine jl_iadd 275 C dl_275 ?_
    refine jl_sld 276 C dl_276 hX (ll_in hx4 (j := 1) rfl (by omega) hL2) ?_
    refine jl_top (ll_at hx4 (j := 1) rfl (by omega) hL2) ?_
    refine jl_aload_n 277 C dl_277 rfl ?_
    refine jl_iload 278 C dl_278 rfl ?_
    refine jl_iconst 280 2 C dl_280 (by decide) ?_
    refine jl_iadd 281 C dl_281 ?_
    refine jl_sld 282 C dl_282 hX (ll_in hx4 (j := 2) rfl (by omega) hL2) ?_
    refine jl_top (ll_at hx4 (j := 2) rfl (by omega) hL2) ?_
    refine jl_aload_n 283 C dl_283 rfl ?_
    refine jl_iload 284 C dl_284 rfl ?_
    refine jl_iconst 286 3 C dl_286 (by decide) ?_
    refine jl_iadd 287 C dl_287 ?_
    refine jl_sld 288 C dl_288 hX (ll_in hx4 (j := 3) rfl (by omega) hL2) ?_
    refine jl_top (ll_at hx4 (j := 3) rfl (by omega) hL2) ?_
    refine jl_aload_n 289 C dl_289 rfl ?_
    refine jl_iload 290 C dl_290 rfl ?_
    refine jl_iconst 292 4 C dl_292 (by decide) ?_
    refine jl_iadd 293 C dl_293 ?_
    refine jl_sld 294 C dl_294 hX (ll_in hx4 (j := 4) rfl (by omega) hL2) ?_
    refine jl_top (ll_at hx4 (j := 4) rfl (by omega) hL2) ?_
    refine jl_aload_n 295 C dl_295 rfl ?_
    refine jl_callH 296 [.ref (gz_ad (lz_G Z) 0), .int (xs (5 * c + 1)), .int (xs (5 * c + 2)), .int (xs (5 * c + 3)), .int (xs (5 * c + 4)), .ref (gz_ad (lz_G Z) 173)] C dl_296 (lh1_spread (xz_l X) hl0 hI mm v h1) (lt_2 (i := 209) (by set_option maxRecDepth 100000 in exact rfl)) (lt_1 (i := 0) (by set_option maxRecDepth 100000 in exact rfl)) (lt_2 (i := 208) (by set_option maxRecDepth 100000 in exact rfl)) ll_53 (by decide) (n := 6) (by decide +kernel) (by decide) ⟨rfl, rfl⟩ ⟨by show 174 + c + 1 ≤ 601024; omega, by show 21461 + 6 * c + 6 ≤ 7293034; omega⟩ rfl rfl (Nat.le_of_ble_eq_true rfl) hx hxn hX.2.2 ?_
    refine jl_istore 299 [(0, .ref b), (1, .ref (gz_ad (lz_G Z) 0)), (2, .ref (gz_ad (lz_G Z) 152)), (3, .ref (gz_ad (lz_G Z) 173)), (4, .int x4), (5, .int 1)] C dl_299 rfl (by decide) rfl ?_
    refine jl_aload_n 301 C dl_301 rfl ?_
    refine jl_aload_n 302 C dl_302 rfl ?_
    refine jl_iload 303 C dl_303 rfl ?_
    refine jl_iconst 305 1 C dl_305 (by decide) ?_
    refine jl_iadd 306 C dl_306 ?_
    refine jl_sld 307 C dl_307 hX (ll_in hx4 (j := 1) rfl (by omega) hL2) ?_
    refine jl_top (ll_at hx4 (j := 1) rfl (by omega) hL2) ?_
    refine jl_aload_n 308 C dl_308 rfl ?_
    refine jl_iload 309 C dl_309 rfl ?_
    refine jl_iconst 311 2 C dl_311 (by decide) ?_
    refine jl_iadd 312 C dl_312 ?_
    refine jl_sld 313 C dl_313 hX (ll_in hx4 (j := 2) rfl (by omega) hL2) ?_
    refine jl_top (ll_at hx4 (j := 2) rfl (by omega) hL2) ?_
    refine jl_aload_n 314 C dl_314 rfl ?_
    refine jl_iload 315 C dl_315 rfl ?_
    refine jl_iconst 317 3 C dl_317 (by decide) ?_
    refine jl_iadd 318 C dl_318 ?_
    refine jl_sld 319 C dl_319 hX (ll_in hx4 (j := 3) rfl (by omega) hL2) ?_
    refine jl_top (ll_at hx4 (j := 3) rfl (by omega) hL2) ?_
    refine jl_aload_n 320 C dl_320 rfl ?_
    refine jl_iload 321 C dl_321 rfl ?_
    refine jl_iconst 323 4 C dl_323 (by decide) ?_
    refine jl_iadd 324 C dl_324 ?_
    refine jl_sld 325 C dl_325 hX (ll_in hx4 (j := 4) rfl (by omega) hL2) ?_
    refine jl_top (ll_at hx4 (j := 4) rfl (by omega) hL2) ?_
    refine jl_callV 326 [.int (xs (5 * c + 1)), .int (xs (5 * c + 2)), .int (xs (5 * c + 3)), .int (xs (5 * c + 4))] C dl_326 (lf_M hI mc v (c_Mo_spread (xz_l X) (jz_I_sub lz_subM hI) h2)) sz_Mo_spread tz_Mo_spread ll_56 lo_Mo rfl (by decide) rfl rfl ⟨by show 174 + c + 1 ≤ 601024; omega, by show 21461 + 6 * c + 6 ≤ 7293034; omega⟩ (Nat.le_of_ble_eq_true rfl) rfl ?_
    refine jl_istore 329 [(0, .ref b), (1, .ref (gz_ad (lz_G Z) 0)), (2, .ref (gz_ad (lz_G Z) 152)), (3, .ref (gz_ad (lz_G Z) 173)), (4, .int x4), (5, .int 1), (6, .int q.1)] C dl_329 rfl (by decide) rfl ?_
    refine jl_goto 331 795 C dl_331 (by decide) ?_
    refine jl_sub [0, 1, 2, 3, 4] rfl ?_
    exact jl_widen (by omega) (by omega) (kend _ _ _ hi)
  · skip
    refine jl_aload_n 270 C dl_270 rfl ?_
    refine jl_aload_n 271 C dl_271 rfl ?_
    refine jl_iload 272 C dl_272 rfl ?_
    refine jl_iconst 274 1 C dl_274 (by decide) ?_
    refine jl_iadd 275 C dl_275 ?_
    refine jl_sld 276 C dl_276 hX (ll_in hx4 (j := 1) rfl (by omega) hL2) ?_
    refine jl_top (ll_at hx4 (j := 1) rfl (by omega) hL2) ?_
    refine jl_aload_n 277 C dl_277 rfl ?_
    refine jl_iload 278 C dl_278 rfl ?_
    refine jl_iconst 280 2 C dl_280 (by decide) ?_
    refine jl_iadd 281 C dl_281 ?_
    refine jl_sld 282 C dl_282 hX (ll_in hx4 (j := 2) rfl (by omega) hL2) ?_
    refine jl_top (ll_at hx4 (j := 2) rfl (by omega) hL2) ?_
    refine jl_aload_n 283 C dl_283 rfl ?_
    refine jl_iload 284 C dl_284 rfl ?_
    refine jl_iconst 286 3 C dl_286 (by decide) ?_
    refine jl_iadd 287 C dl_287 ?_
    refine jl_sld 288 C dl_288 hX (ll_in hx4 (j := 3) rfl (by omega) hL2) ?_
    refine jl_top (ll_at hx4 (j := 3) rfl (by omega) hL2) ?_
    refine jl_aload_n 289 C dl_289 rfl ?_
    refine jl_iload 290 C dl_290 rfl ?_
    refine jl_iconst 292 4 C dl_292 (by decide) ?_
    refine jl_iadd 293 C dl_293 ?_
    refine jl_sld 294 C dl_294 hX (ll_in hx4 (j := 4) rfl (by omega) hL2) ?_
    refine jl_top (ll_at hx4 (j := 4) rfl (by omega) hL2) ?_
    refine jl_aload_n 295 C dl_295 rfl ?_
    refine jl_callH 296 [.ref (gz_ad (lz_G Z) 0), .int (xs (5 * c + 1)), .int (xs (5 * c + 2)), .int (xs (5 * c + 3)), .int (xs (5 * c + 4)), .ref (gz_ad (lz_G Z) 173)] C dl_296 (lh2_spread (xz_l X) hl0 hI mm v h1) (lt_2 (i := 209) (by set_option maxRecDepth 100000 in exact rfl)) (lt_1 (i := 0) (by set_option maxRecDepth 100000 in exact rfl)) (lt_2 (i := 208) (by set_option maxRecDepth 100000 in exact rfl)) ll_53 (by decide) (n := 6) (by decide +kernel) (by decide) ⟨rfl, rfl⟩ ⟨by show 174 + c + 1 ≤ 601024; omega, by show 21461 + 6 * c + 6 ≤ 7293034; omega⟩ rfl rfl (Nat.le_of_ble_eq_true rfl) hx hxn hX.2.2 ?_
    refine jl_istore 299 [(0, .ref b), (1, .ref (gz_ad (lz_G Z) 0)), (2, .ref (gz_ad (lz_G Z) 152)), (3, .ref (gz_ad (lz_G Z) 173)), (4, .int x4), (5, .int 2)] C dl_299 rfl (by decide) rfl ?_
    refine jl_aload_n 301 C dl_301 rfl ?_
    refine jl_aload_n 302 C dl_302 rfl ?_
    refine jl_iload 303 C dl_303 rfl ?_
    refine jl_iconst 305 1 C dl_305 (by decide) ?_
    refine jl_iadd 306 C dl_306 ?_
    refine jl_sld 307 C dl_307 hX (ll_in hx4 (j := 1) rfl (by omega) hL2) ?_
    refine jl_top (ll_at hx4 (j := 1) rfl (by omega) hL2) ?_
    refine jl_aload_n 308 C dl_308 rfl ?_
    refine jl_iload 309 C dl_309 rfl ?_
    refine jl_iconst 311 2 C dl_311 (by decide) ?_
    refine jl_iadd 312 C dl_312 ?_
    refine jl_sld 313 C dl_313 hX (ll_in hx4 (j := 2) rfl (by omega) hL2) ?_
    refine jl_top (ll_at hx4 (j := 2) rfl (by omega) hL2) ?_
    refine jl_aload_n 314 C dl_314 rfl ?_
    refine jl_iload 315 C dl_315 rfl ?_
    refine jl_iconst 317 3 C dl_317 (by decide) ?_
    refine jl_iadd 318 C dl_318 ?_
    refine jl_sld 319 C dl_319 hX (ll_in hx4 (j := 3) rfl (by omega) hL2) ?_
    refine jl_top (ll_at hx4 (j := 3) rfl (by omega) hL2) ?_
    refine jl_aload_n 320 C dl_320 rfl ?_
    refine jl_iload 321 C dl_321 rfl ?_
    refine jl_iconst 323 4 C dl_323 (by decide) ?_
    refine jl_iadd 324 C dl_324 ?_
    refine jl_sld 325 C dl_325 hX (ll_in hx4 (j := 4) rfl (by omega) hL2) ?_
    refine jl_top (ll_at hx4 (j := 4) rfl (by omega) hL2) ?_
    refine jl_callV 326 [.int (xs (5 * c + 1)), .int (xs (5 * c + 2)), .int (xs (5 * c + 3)), .int (xs (5 * c + 4))] C dl_326 (lf_M hI mc v (c_Mo_spread (xz_l X) (jz_I_sub lz_subM hI) h2)) sz_Mo_spread tz_Mo_spread ll_56 lo_Mo rfl (by decide) rfl rfl ⟨by show 174 + c + 1 ≤ 601024; omega, by show 21461 + 6 * c + 6 ≤ 7293034; omega⟩ (Nat.le_of_ble_eq_true rfl) rfl ?_
    refine jl_istore 329 [(0, .ref b), (1, .ref (gz_ad (lz_G Z) 0)), (2, .ref (gz_ad (lz_G Z) 152)), (3, .ref (gz_ad (lz_G Z) 173)), (4, .int x4), (5, .int 2), (6, .int q.1)] C dl_329 rfl (by decide) rfl ?_
    refine jl_goto 331 795 C dl_331 (by decide) ?_
    refine jl_sub [0, 1, 2, 3, 4] rfl ?_
    exact jl_widen (by omega) (by omega) (kend _ _ _ hi)
  · skip
    refine jl_aload_n 270 C dl_270 rfl ?_
    refine jl_aload_n 271 C dl_271 rfl ?_
    refine jl_iload 272 C dl_272 rfl ?_
    refine jl_iconst 274 1 C dl_274 (by decide) ?_
    refine jl_iadd 275 C dl_275 ?_
    refine jl_sld 276 C dl_276 hX (ll_in hx4 (j := 1) rfl (by omega) hL2) ?_
    refine jl_top (ll_at hx4 (j := 1) rfl (by omega) hL2) ?_
    refine jl_aload_n 277 C dl_277 rfl ?_
    refine jl_iload 278 C dl_278 rfl ?_
    refine jl_iconst 280 2 C dl_280 (by decide) ?_
    refine jl_iadd 281 C dl_281 ?_
    refine jl_sld 282 C dl_282 hX (ll_in hx4 (j := 2) rfl (by omega) hL2) ?_
    refine jl_top (ll_at hx4 (j := 2) rfl (by omega) hL2) ?_
    refine jl_aload_n 283 C dl_283 rfl ?_
    refine jl_iload 284 C dl_284 rfl ?_
    refine jl_iconst 286 3 C dl_286 (by decide) ?_
    refine jl_iadd 287 C dl_287 ?_
    refine jl_sld 288 C dl_288 hX (ll_in hx4 (j := 3) rfl (by omega) hL2) ?_
    refine jl_top (ll_at hx4 (j := 3) rfl (by omega) hL2) ?_
    refine jl_aload_n 289 C dl_289 rfl ?_
    refine jl_iload 290 C dl_290 rfl ?_
    refine jl_iconst 292 4 C dl_292 (by decide) ?_
    refine jl_iadd 293 C dl_293 ?_
    refine jl_sld 294 C dl_294 hX (ll_in hx4 (j := 4) rfl (by omega) hL2) ?_
    refine jl_top (ll_at hx4 (j := 4) rfl (by omega) hL2) ?_
    refine jl_aload_n 295 C dl_295 rfl ?_
    refine jl_callH 296 [.ref (gz_ad (lz_G Z) 0), .int (xs (5 * c + 1)), .int (xs (5 * c + 2)), .int (xs (5 * c + 3)), .int (xs (5 * c + 4)), .ref (gz_ad (lz_G Z) 173)] C dl_296 (lh3_spread (xz_l X) hl0 hI mm v h0 h1) (lt_2 (i := 209) (by set_option maxRecDepth 100000 in exact rfl)) (lt_1 (i := 0) (by set_option maxRecDepth 100000 in exact rfl)) (lt_2 (i := 208) (by set_option maxRecDepth 100000 in exact rfl)) ll_53 (by decide) (n := 6) (by decide +kernel) (by decide) ⟨rfl, rfl⟩ ⟨by show 174 + c + 1 ≤ 601024; omega, by show 21461 + 6 * c + 6 ≤ 7293034; omega⟩ rfl rfl (Nat.le_of_ble_eq_true rfl) hx hxn hX.2.2 ?_
    refine jl_istore 299 [(0, .ref b), (1, .ref (gz_ad (lz_G Z) 0)), (2, .ref (gz_ad (lz_G Z) 152)), (3, .ref (gz_ad (lz_G Z) 173)), (4, .int x4), (5, .int 3)] C dl_299 rfl (by decide) rfl ?_
    refine jl_aload_n 301 C dl_301 rfl ?_
    refine jl_aload_n 302 C dl_302 rfl ?_
    refine jl_iload 303 C dl_303 rfl ?_
    refine jl_iconst 305 1 C dl_305 (by decide) ?_
    refine jl_iadd 306 C dl_306 ?_
    refine jl_sld 307 C dl_307 hX (ll_in hx4 (j := 1) rfl (by omega) hL2) ?_
    refine jl_top (ll_at hx4 (j := 1) rfl (by omega) hL2) ?_
    refine jl_aload_n 308 C dl_308 rfl ?_
    refine jl_iload 309 C dl_309 rfl ?_
    refine jl_iconst 311 2 C dl_311 (by decide) ?_
    refine jl_iadd 312 C dl_312 ?_
    refine jl_sld 313 C dl_313 hX (ll_in hx4 (j := 2) rfl (by omega) hL2) ?_
    refine jl_top (ll_at hx4 (j := 2) rfl (by omega) hL2) ?_
    refine jl_aload_n 314 C dl_314 rfl ?_
    refine jl_iload 315 C dl_315 rfl ?_
    refine jl_iconst 317 3 C dl_317 (by decide) ?_
    refine jl_iadd 318 C dl_318 ?_
    refine jl_sld 319 C dl_319 hX (ll_in hx4 (j := 3) rfl (by omega) hL2) ?_
    refine jl_top (ll_at hx4 (j := 3) rfl (by omega) hL2) ?_
    refine jl_aload_n 320 C dl_320 rfl ?_
    refine jl_iload 321 C dl_321 rfl ?_
    refine jl_iconst 323 4 C dl_323 (by decide) ?_
    refine jl_iadd 324 C dl_324 ?_
    refine jl_sld 325 C dl_325 hX (ll_in hx4 (j := 4) rfl (by omega) hL2) ?_
    refine jl_top (ll_at hx4 (j := 4) rfl (by omega) hL2) ?_
    refine jl_callV 326 [.int (xs (5 * c + 1)), .int (xs (5 * c + 2)), .int (xs (5 * c + 3)), .int (xs (5 * c + 4))] C dl_326 (lf_M hI mc v (c_Mo_spread (xz_l X) (jz_I_sub lz_subM hI) h2)) sz_Mo_spread tz_Mo_spread ll_56 lo_Mo rfl (by decide) rfl rfl ⟨by show 174 + c + 1 ≤ 601024; omega, by show 21461 + 6 * c + 6 ≤ 7293034; omega⟩ (Nat.le_of_ble_eq_true rfl) rfl ?_
    refine jl_istore 329 [(0, .ref b), (1, .ref (gz_ad (lz_G Z) 0)), (2, .ref (gz_ad (lz_G Z) 152)), (3, .ref (gz_ad (lz_G Z) 173)), (4, .int x4), (5, .int 3), (6, .int q.1)] C dl_329 rfl (by decide) rfl ?_
    refine jl_goto 331 795 C dl_331 (by decide) ?_
    refine jl_sub [0, 1, 2, 3, 4] rfl ?_
    exact jl_widen (by omega) (by omega) (kend _ _ _ hi)
set_option maxHeartbeats 4000000 in
set_option maxRecDepth 100000 in
theorem lc_summary {X : jz_X} {Z : cz_Z} {b L : Nat} {xs : Nat → Int32} {Q : State → Prop} (C : jz_C X 7 code R_Lw (some .boolean) room_1 (lz_G Z)) (hX : jl_S X (lz_G Z) b L xs) (hI : jz_I (lz_G Z)) (hx : xz_ok (xz_s X)) (hxn : xn_ok (xz_s X)) (hl0 : (xz_l X).stackTraces = false) {I : Nat → jz_M → jz_M → Prop} (hs : sp_summary I) {c : Nat} {mc mm : jz_M} {v x4 : Int32} (hc : c < 512) (hInv : I c mc mm) (hx4 : x4 = nI (5 * c)) (hL : 5 * c + 5 ≤ L) (hL2 : L ≤ 2560) (kend : ∀ (mc2 mm2 : jz_M) (v2 : Int32), I (c + 1) mc2 mm2 → jl_J X 7 (lz_G Z) (174 + (c + 1)) (21461 + 6 * (c + 1)) Q (lm_ mc2 mm2 v2) [(0, .ref b), (1, .ref (gz_ad (lz_G Z) 0)), (2, .ref (gz_ad (lz_G Z) 152)), (3, .ref (gz_ad (lz_G Z) 173)), (4, .int x4)] 795 []) : jl_J X 7 (lz_G Z) (174 + c) (21461 + 6 * c) Q (lm_ mc mm v) [(0, .ref b), (1, .ref (gz_ad (lz_G Z) 0)), (2, .ref (gz_ad (lz_G Z) 152)), (3, .ref (gz_ad (lz_G Z) 173)), (4, .int x4)] 334 [] := by
  have hcs : 174 + c ≤ room_1.cells ∧ 21461 + 6 * c ≤ room_1.slots := ⟨by show 174 + c ≤ 601024; omega, by show 21461 + 6 * c ≤ 7293034; omega⟩
  obtain ⟨q, h2, hq⟩ := hs c mc mm hc hInv (xs (5 * c + 1)) (xs (5 * c + 2)) (xs (5 * c + 3)) (xs (5 * c + 4))
  rcases hq with ⟨r, h1, ht, hr, hi⟩ | ⟨h1, ht, hi⟩ | ⟨h1, ht, hi⟩ | ⟨h0, h1, ht, hi⟩
  · skip
    refine jl_aload_n 334 C dl_334 rfl ?_
    refine jl_aload_n 335 C dl_335 rfl ?_
    refine jl_iload 336 C dl_336 rfl ?_
    refine jl_iconst 338 1 C dl_338 (by decide) ?_
    refine jl_iadd 339 C dl_339 ?_
    refine jl_sld 340 C dl_340 hX (ll_in hx4 (j := 1) rfl (by omega) hL2) ?_
    refine jl_top (ll_at hx4 (j := 1) rfl (by omega) hL2) ?_
    refine jl_aload_n 341 C dl_341 rfl ?_
    refine jl_iload 342 C dl_342 rfl ?_
    refine jl_iconst 344 2 C dl_344 (by decide) ?_
    refine jl_iadd 345 C dl_345 ?_
    refine jl_sld 346 C dl_346 hX (ll_in hx4 (j := 2) rfl (by omega) hL2) ?_
    refine jl_top (ll_at hx4 (j := 2) rfl (by omega) hL2) ?_
    refine jl_aload_n 347 C dl_347 rfl ?_
    refine jl_iload 348 C dl_348 rfl ?_
    refine jl_iconst 350 3 C dl_350 (by decide) ?_
    refine jl_iadd 351 C dl_351 ?_
    refine jl_sld 352 C dl_352 hX (ll_in hx4 (j := 3) rfl (by omega) hL2) ?_
    refine jl_top (ll_at hx4 (j := 3) rfl (by omega) hL2) ?_
    refine jl_aload_n 353 C dl_353 rfl ?_
    refine jl_iload 354 C dl_354 rfl ?_
    refine jl_iconst 356 4 C dl_356 (by decide) ?_
    refine jl_iadd 357 C dl_357 ?_
    refine jl_sld 358 C dl_358 hX (ll_in hx4 (j := 4) rfl (by omega) hL2) ?_
    refine jl_top (ll_at hx4 (j := 4) rfl (by omega) hL2) ?_
    refine jl_aload_n 359 C dl_359 rfl ?_
    refine jl_callH 360 [.ref (gz_ad (lz_G Z) 0), .int (xs (5 * c + 1)), .int (xs (5 * c + 2)), .int (xs (5 * c + 3)), .int (xs (5 * c + 4)), .ref (gz_ad (lz_G Z) 173)] C dl_360 (lh0_summary (xz_l X) hI mm v h1) (lt_3 (i := 90) (by set_option maxRecDepth 100000 in exact rfl)) (lt_1 (i := 0) (by set_option maxRecDepth 100000 in exact rfl)) (lt_3 (i := 89) (by set_option maxRecDepth 100000 in exact rfl)) ll_57 (by decide) (n := 6) (by decide +kernel) (by decide) ⟨rfl, rfl⟩ ⟨by show 174 + c + 1 ≤ 601024; omega, by show 21461 + 6 * c + 6 ≤ 7293034; omega⟩ rfl rfl (Nat.le_of_ble_eq_true rfl) hx hxn hX.2.2 ?_
    refine jl_istore 363 [(0, .ref b), (1, .ref (gz_ad (lz_G Z) 0)), (2, .ref (gz_ad (lz_G Z) 152)), (3, .ref (gz_ad (lz_G Z) 173)), (4, .int x4), (5, .int 0)] C dl_363 rfl (by decide) rfl ?_
    refine jl_aload_n 365 C dl_365 rfl ?_
    refine jl_aload_n 366 C dl_366 rfl ?_
    refine jl_iload 367 C dl_367 rfl ?_
    refine jl_iconst 369 1 C dl_369 (by decide) ?_
    refine jl_iadd 370 C dl_370 ?_
    refine jl_sld 371 C dl_371 hX (ll_in hx4 (j := 1) rfl (by omega) hL2) ?_
    refine jl_top (ll_at hx4 (j := 1) rfl (by omega) hL2) ?_
    refine jl_aload_n 372 C dl_372 rfl ?_
    refine jl_iload 373 C dl_373 rfl ?_
    refine jl_iconst 375 2 C dl_375 (by decide) ?_
    refine jl_iadd 376 C dl_376 ?_
    refine jl_sld 377 C dl_377 hX (ll_in hx4 (j := 2) rfl (by omega) hL2) ?_
    refine jl_top (ll_at hx4 (j := 2) rfl (by omega) hL2) ?_
    refine jl_aload_n 378 C dl_378 rfl ?_
    refine jl_iload 379 C dl_379 rfl ?_
    refine jl_iconst 381 3 C dl_381 (by decide) ?_
    refine jl_iadd 382 C dl_382 ?_
    refine jl_sld 383 C dl_383 hX (ll_in hx4 (j := 3) rfl (by omega) hL2) ?_
    refine jl_top (ll_at hx4 (j := 3) rfl (by omega) hL2) ?_
    refine jl_aload_n 384 C dl_384 rfl ?_
    refine jl_iload 385 C dl_385 rfl ?_
    refine jl_iconst 387 4 C dl_387 (by decide) ?_
    refine jl_iadd 388 C dl_388 ?_
    refine jl_sld 389 C dl_389 hX (ll_in hx4 (j := 4) rfl (by omega) hL2) ?_
    refine jl_top (ll_at hx4 (j := 4) rfl (by omega) hL2) ?_
    refine jl_callV 390 [.int (xs (5 * c + 1)), .int (xs (5 * c + 2)), .int (xs (5 * c + 3)), .int (xs (5 * c + 4))] C dl_390 (lf_M hI r.2 r.1 (c_Mo_summary (xz_l X) (jz_I_sub lz_subM hI) h2)) sz_Mo_summary tz_Mo_summary ll_59 lo_Mo rfl (by decide) rfl rfl ⟨by show 174 + c + 1 ≤ 601024; omega, by show 21461 + 6 * c + 6 ≤ 7293034; omega⟩ (Nat.le_of_ble_eq_true rfl) rfl ?_
    refine jl_istore 393 [(0, .ref b), (1, .ref (gz_ad (lz_G Z) 0)), (2, .ref (gz_ad (lz_G Z) 152)), (3, .ref (gz_ad (lz_G Z) 173)), (4, .int x4), (5, .int 0), (6, .int q.1)] C dl_393 rfl (by decide) rfl ?_
    refine jl_goto 395 795 C dl_395 (by decide) ?_
    refine jl_sub [0, 1, 2, 3, 4] rfl ?_
    exact jl_widen (by omega) (by omega) (kend _ _ _ hi)
  · skip
    refine jl_aload_n 334 C dl_334 rfl ?_
    refine jl_aload_n 335 C dl_335 rfl ?_
    refine jl_iload 336 C dl_336 rfl ?_
    refine jl_iconst 338 1 C dl_338 (by decide) ?_
    refine jl_iadd 339 C dl_339 ?_
    refine jl_sld 340 C dl_340 hX (ll_in hx4 (j := 1) rfl (by omega) hL2) ?_
    refine jl_top (ll_at hx4 (j := 1) rfl (by omega) hL2) ?_
    refine jl_aload_n 341 C dl_341 rfl ?_
    refine jl_iload 342 C dl_342 rfl ?_
    refine jl_iconst 344 2 C dl_344 (by decide) ?_
    refine jl_iadd 345 C dl_345 ?_
    refine jl_sld 346 C dl_346 hX (ll_in hx4 (j := 2) rfl (by omega) hL2) ?_
    refine jl_top (ll_at hx4 (j := 2) rfl (by omega) hL2) ?_
    refine jl_aload_n 347 C dl_347 rfl ?_
    refine jl_iload 348 C dl_348 rfl ?_
    refine jl_iconst 350 3 C dl_350 (by decide) ?_
    refine jl_iadd 351 C dl_351 ?_
    refine jl_sld 352 C dl_352 hX (ll_in hx4 (j := 3) rfl (by omega) hL2) ?_
    refine jl_top (ll_at hx4 (j := 3) rfl (by omega) hL2) ?_
    refine jl_aload_n 353 C dl_353 rfl ?_
    refine jl_iload 354 C dl_354 rfl ?_
    refine jl_iconst 356 4 C dl_356 (by decide) ?_
    refine jl_iadd 357 C dl_357 ?_
    refine jl_sld 358 C dl_358 hX (ll_in hx4 (j := 4) rfl (by omega) hL2) ?_
    refine jl_top (ll_at hx4 (j := 4) rfl (by omega) hL2) ?_
    refine jl_aload_n 359 C dl_359 rfl ?_
    refine jl_callH 360 [.ref (gz_ad (lz_G Z) 0), .int (xs (5 * c + 1)), .int (xs (5 * c + 2)), .int (xs (5 * c + 3)), .int (xs (5 * c + 4)), .ref (gz_ad (lz_G Z) 173)] C dl_360 (lh1_summary (xz_l X) hl0 hI mm v h1) (lt_3 (i := 90) (by set_option maxRecDepth 100000 in exact rfl)) (lt_1 (i := 0) (by set_option maxRecDepth 100000 in exact rfl)) (lt_3 (i := 89) (by set_option maxRecDepth 100000 in exact rfl)) ll_57 (by decide) (n := 6) (by decide +kernel) (by decide) ⟨rfl, rfl⟩ ⟨by show 174 + c + 1 ≤ 601024; omega, by show 21461 + 6 * c + 6 ≤ 7293034; omega⟩ rfl rfl (Nat.le_of_ble_eq_true rfl) hx hxn hX.2.2 ?_
    refine jl_istore 363 [(0, .ref b), (1, .ref (gz_ad (lz_G Z) 0)), (2, .ref (gz_ad (lz_G Z) 152)), (3, .ref (gz_ad (lz_G Z) 173)), (4, .int x4), (5, .int 1)] C dl_363 rfl (by decide) rfl ?_
    refine jl_aload_n 365 C dl_365 rfl ?_
    refine jl_aload_n 366 C dl_366 rfl ?_
    refine jl_iload 367 C dl_367 rfl ?_
    refine jl_iconst 369 1 C dl_369 (by decide) ?_
    refine jl_iadd 370 C dl_370 ?_
    refine jl_sld 371 C dl_371 hX (ll_in hx4 (j := 1) rfl (by omega) hL2) ?_
    refine jl_top (ll_at hx4 (j := 1) rfl (by omega) hL2) ?_
    refine jl_aload_n 372 C dl_372 rfl ?_
    refine jl_iload 373 C dl_373 rfl ?_
    refine jl_iconst 375 2 C dl_375 (by decide) ?_
    refine jl_iadd 376 C dl_376 ?_
    refine jl_sld 377 C dl_377 hX (ll_in hx4 (j := 2) rfl (by omega) hL2) ?_
    refine jl_top (ll_at hx4 (j := 2) rfl (by omega) hL2) ?_
    refine jl_aload_n 378 C dl_378 rfl ?_
    refine jl_iload 379 C dl_379 rfl ?_
    refine jl_iconst 381 3 C dl_381 (by decide) ?_
    refine jl_iadd 382 C dl_382 ?_
    refine jl_sld 383 C dl_383 hX (ll_in hx4 (j := 3) rfl (by omega) hL2) ?_
    refine jl_top (ll_at hx4 (j := 3) rfl (by omega) hL2) ?_
    refine jl_aload_n 384 C dl_384 rfl ?_
    refine jl_iload 385 C dl_385 rfl ?_
    refine jl_iconst 387 4 C dl_387 (by decide) ?_
    refine jl_iadd 388 C dl_388 ?_
    refine jl_sld 389 C dl_389 hX (ll_in hx4 (j := 4) rfl (by omega) hL2) ?_
    refine jl_top (ll_at hx4 (j := 4) rfl (by omega) hL2) ?_
    refine jl_callV 390 [.int (xs (5 * c + 1)), .int (xs (5 * c + 2)), .int (xs (5 * c + 3)), .int (xs (5 * c + 4))] C dl_390 (lf_M hI mc v (c_Mo_summary (xz_l X) (jz_I_sub lz_subM hI) h2)) sz_Mo_summary tz_Mo_summary ll_59 lo_Mo rfl (by decide) rfl rfl ⟨by show 174 + c + 1 ≤ 601024; omega, by show 21461 + 6 * c + 6 ≤ 7293034; omega⟩ (Nat.le_of_ble_eq_true rfl) rfl ?_
    refine jl_istore 393 [(0, .ref b), (1, .ref (gz_ad (lz_G Z) 0)), (2, .ref (gz_ad (lz_G Z) 152)), (3, .ref (gz_ad (lz_G Z) 173)), (4, .int x4), (5, .int 1), (6, .int q.1)] C dl_393 rfl (by decide) rfl ?_
    refine jl_goto 395 795 C dl_395 (by decide) ?_
    refine jl_sub [0, 1, 2, 3, 4] rfl ?_
    exact jl_widen (by omega) (by omega) (kend _ _ _ hi)
  · skip
    refine jl_aload_n 334 C dl_334 rfl ?_
    refine jl_aload_n 335 C dl_335 rfl ?_
    refine jl_iload 336 C dl_336 rfl ?_
    refine jl_iconst 338 1 C dl_338 (by decide) ?_
    refine jl_iadd 339 C dl_339 ?_
    refine jl_sld 340 C dl_340 hX (ll_in hx4 (j := 1) rfl (by omega) hL2) ?_
    refine jl_top (ll_at hx4 (j := 1) rfl (by omega) hL2) ?_
    refine jl_aload_n 341 C dl_341 rfl ?_
    refine jl_iload 342 C dl_342 rfl ?_
    refine jl_iconst 344 2 C dl_344 (by decide) ?_
    refine jl_iadd 345 C dl_345 ?_
    refine jl_sld 346 C dl_346 hX (ll_in hx4 (j := 2) rfl (by omega) hL2) ?_
    refine jl_top (ll_at hx4 (j := 2) rfl (by omega) hL2) ?_
    refine jl_aload_n 347 C dl_347 rfl ?_
    refine jl_iload 348 C dl_348 rfl ?_
    refine jl_iconst 350 3 C dl_350 (by decide) ?_
    refine jl_iadd 351 C dl_351 ?_
    refine jl_sld 352 C dl_352 hX (ll_in hx4 (j := 3) rfl (by omega) hL2) ?_
    refine jl_top (ll_at hx4 (j := 3) rfl (by omega) hL2) ?_
    refine jl_aload_n 353 C dl_353 rfl ?_
    refine jl_iload 354 C dl_354 rfl ?_
    refine jl_iconst 356 4 C dl_356 (by decide) ?_
    refine jl_iadd 357 C dl_357 ?_
    refine jl_sld 358 C dl_358 hX (ll_in hx4 (j := 4) rfl (by omega) hL2) ?_
    refine jl_top (ll_at hx4 (j := 4) rfl (by omega) hL2) ?_
    refine jl_aload_n 359 C dl_359 rfl ?_
    refine jl_callH 360 [.ref (gz_ad (lz_G Z) 0), .int (xs (5 * c + 1)), .int (xs (5 * c + 2)), .int (xs (5 * c + 3)), .int (xs (5 * c + 4)), .ref (gz_ad (lz_G Z) 173)] C dl_360 (lh2_summary (xz_l X) hl0 hI mm v h1) (lt_3 (i := 90) (by set_option maxRecDepth 100000 in exact rfl)) (lt_1 (i := 0) (by set_option maxRecDepth 100000 in exact rfl)) (lt_3 (i := 89) (by set_option maxRecDepth 100000 in exact rfl)) ll_57 (by decide) (n := 6) (by decide +kernel) (by decide) ⟨rfl, rfl⟩ ⟨by show 174 + c + 1 ≤ 601024; omega, by show 21461 + 6 * c + 6 ≤ 7293034; omega⟩ rfl rfl (Nat.le_of_ble_eq_true rfl) hx hxn hX.2.2 ?_
    refine jl_istore 363 [(0, .ref b), (1, .ref (gz_ad (lz_G Z) 0)), (2, .ref (gz_ad (lz_G Z) 152)), (3, .ref (gz_ad (lz_G Z) 173)), (4, .int x4), (5, .int 2)] C dl_363 rfl (by decide) rfl ?_
    refine jl_aload_n 365 C dl_365 rfl ?_
    refine jl_aload_n 366 C dl_366 rfl ?_
    refine jl_iload 367 C dl_367 rfl ?_
    refine jl_iconst 369 1 C dl_369 (by decide) ?_
    refine jl_iadd 370 C dl_370 ?_
    refine jl_sld 371 C dl_371 hX (ll_in hx4 (j := 1) rfl (by omega) hL2) ?_
    refine jl_top (ll_at hx4 (j := 1) rfl (by omega) hL2) ?_
    refine jl_aload_n 372 C dl_372 rfl ?_
    refine jl_iload 373 C dl_373 rfl ?_
    refine jl_iconst 375 2 C dl_375 (by decide) ?_
    refine jl_iadd 376 C dl_376 ?_
    refine jl_sld 377 C dl_377 hX (ll_in hx4 (j := 2) rfl (by omega) hL2) ?_
    refine jl_top (ll_at hx4 (j := 2) rfl (by omega) hL2) ?_
    refine jl_aload_n 378 C dl_378 rfl ?_
    refine jl_iload 379 C dl_379 rfl ?_
    refine jl_iconst 381 3 C dl_381 (by decide) ?_
    refine jl_iadd 382 C dl_382 ?_
    refine jl_sld 383 C dl_383 hX (ll_in hx4 (j := 3) rfl (by omega) hL2) ?_
    refine jl_top (ll_at hx4 (j := 3) rfl (by omega) hL2) ?_
    refine jl_aload_n 384 C dl_384 rfl ?_
    refine jl_iload 385 C dl_385 rfl ?_
    refine jl_iconst 387 4 C dl_387 (by decide) ?_
    refine jl_iadd 388 C dl_388 ?_
    refine jl_sld 389 C dl_389 hX (ll_in hx4 (j := 4) rfl (by omega) hL2) ?_
    refine jl_top (ll_at hx4 (j := 4) rfl (by omega) hL2) ?_
    refine jl_callV 390 [.int (xs (5 * c + 1)), .int (xs (5 * c + 2)), .int (xs (5 * c + 3)), .int (xs (5 * c + 4))] C dl_390 (lf_M hI mc v (c_Mo_summary (xz_l X) (jz_I_sub lz_subM hI) h2)) sz_Mo_summary tz_Mo_summary ll_59 lo_Mo rfl (by decide) rfl rfl ⟨by show 174 + c + 1 ≤ 601024; omega, by show 21461 + 6 * c + 6 ≤ 7293034; omega⟩ (Nat.le_of_ble_eq_true rfl) rfl ?_
    refine jl_istore 393 [(0, .ref b), (1, .ref (gz_ad (lz_G Z) 0)), (2, .ref (gz_ad (lz_G Z) 152)), (3, .ref (gz_ad (lz_G Z) 173)), (4, .int x4), (5, .int 2), (6, .int q.1)] C dl_393 rfl (by decide) rfl ?_
    refine jl_goto 395 795 C dl_395 (by decide) ?_
    refine jl_sub [0, 1, 2, 3, 4] rfl ?_
    exact jl_widen (by omega) (by omega) (kend _ _ _ hi)
  · skip
    refine jl_aload_n 334 C dl_334 rfl ?_
    refine jl_aload_n 335 C dl_335 rfl ?_
    refine jl_iload 336 C dl_336 rfl ?_
    refine jl_iconst 338 1 C dl_338 (by decide) ?_
    refine jl_iadd 339 C dl_339 ?_
    refine jl_sld 340 C dl_340 hX (ll_in hx4 (j := 1) rfl (by omega) hL2) ?_
    refine jl_top (ll_at hx4 (j := 1) rfl (by omega) hL2) ?_
    refine jl_aload_n 341 C dl_341 rfl ?_
    refine jl_iload 342 C dl_342 rfl ?_
    refine jl_iconst 344 2 C dl_344 (by decide) ?_
    refine jl_iadd 345 C dl_345 ?_
    refine jl_sld 346 C dl_346 hX (ll_in hx4 (j := 2) rfl (by omega) hL2) ?_
    refine jl_top (ll_at hx4 (j := 2) rfl (by omega) hL2) ?_
    refine jl_aload_n 347 C dl_347 rfl ?_
    refine jl_iload 348 C dl_348 rfl ?_
    refine jl_iconst 350 3 C dl_350 (by decide) ?_
    refine jl_iadd 351 C dl_351 ?_
    refine jl_sld 352 C dl_352 hX (ll_in hx4 (j := 3) rfl (by omega) hL2) ?_
    refine jl_top (ll_at hx4 (j := 3) rfl (by omega) hL2) ?_
    refine jl_aload_n 353 C dl_353 rfl ?_
    refine jl_iload 354 C dl_354 rfl ?_
    refine jl_iconst 356 4 C dl_356 (by decide) ?_
    refine jl_iadd 357 C dl_357 ?_
    refine jl_sld 358 C dl_358 hX (ll_in hx4 (j := 4) rfl (by omega) hL2) ?_
    refine jl_top (ll_at hx4 (j := 4) rfl (by omega) hL2) ?_
    refine jl_aload_n 359 C dl_359 rfl ?_
    refine jl_callH 360 [.ref (gz_ad (lz_G Z) 0), .int (xs (5 * c + 1)), .int (xs (5 * c + 2)), .int (xs (5 * c + 3)), .int (xs (5 * c + 4)), .ref (gz_ad (lz_G Z) 173)] C dl_360 (lh3_summary (xz_l X) hl0 hI mm v h0 h1) (lt_3 (i := 90) (by set_option maxRecDepth 100000 in exact rfl)) (lt_1 (i := 0) (by set_option maxRecDepth 100000 in exact rfl)) (lt_3 (i := 89) (by set_option maxRecDepth 100000 in exact rfl)) ll_57 (by decide) (n := 6) (by decide +kernel) (by decide) ⟨rfl, rfl⟩ ⟨by show 174 + c + 1 ≤ 601024; omega, by show 21461 + 6 * c + 6 ≤ 7293034; omega⟩ rfl rfl (Nat.le_of_ble_eq_true rfl) hx hxn hX.2.2 ?_
    refine jl_istore 363 [(0, .ref b), (1, .ref (gz_ad (lz_G Z) 0)), (2, .ref (gz_ad (lz_G Z) 152)), (3, .ref (gz_ad (lz_G Z) 173)), (4, .int x4), (5, .int 3)] C dl_363 rfl (by decide) rfl ?_
    refine jl_aload_n 365 C dl_365 rfl ?_
    refine jl_aload_n 366 C dl_366 rfl ?_
    refine jl_iload 367 C dl_367 rfl ?_
    refine jl_iconst 369 1 C dl_369 (by decide) ?_
    refine jl_iadd 370 C dl_370 ?_
    refine jl_sld 371 C dl_371 hX (ll_in hx4 (j := 1) rfl (by omega) hL2) ?_
    refine jl_top (ll_at hx4 (j := 1) rfl (by omega) hL2) ?_
    refine jl_aload_n 372 C dl_372 rfl ?_
    refine jl_iload 373 C dl_373 rfl ?_
    refine jl_iconst 375 2 C dl_375 (by decide) ?_
    refine jl_iadd 376 C dl_376 ?_
    refine jl_sld 377 C dl_377 hX (ll_in hx4 (j := 2) rfl (by omega) hL2) ?_
    refine jl_top (ll_at hx4 (j := 2) rfl (by omega) hL2) ?_
    refine jl_aload_n 378 C dl_378 rfl ?_
    refine jl_iload 379 C dl_379 rfl ?_
    refine jl_iconst 381 3 C dl_381 (by decide) ?_
    refine jl_iadd 382 C dl_382 ?_
    refine jl_sld 383 C dl_383 hX (ll_in hx4 (j := 3) rfl (by omega) hL2) ?_
    refine jl_top (ll_at hx4 (j := 3) rfl (by omega) hL2) ?_
    refine jl_aload_n 384 C dl_384 rfl ?_
    refine jl_iload 385 C dl_385 rfl ?_
    refine jl_iconst 387 4 C dl_387 (by decide) ?_
    refine jl_iadd 388 C dl_388 ?_
    refine jl_sld 389 C dl_389 hX (ll_in hx4 (j := 4) rfl (by omega) hL2) ?_
    refine jl_top (ll_at hx4 (j := 4) rfl (by omega) hL2) ?_
    refine jl_callV 390 [.int (xs (5 * c + 1)), .int (xs (5 * c + 2)), .int (xs (5 * c + 3)), .int (xs (5 * c + 4))] C dl_390 (lf_M hI mc v (c_Mo_summary (xz_l X) (jz_I_sub lz_subM hI) h2)) sz_Mo_summary tz_Mo_summary ll_59 lo_Mo rfl (by decide) rfl rfl ⟨by show 174 + c + 1 ≤ 601024; omega, by show 21461 + 6 * c + 6 ≤ 7293034; omega⟩ (Nat.le_of_ble_eq_true rfl) rfl ?_
    refine jl_istore 393 [(0, .ref b), (1, .ref (gz_ad (lz_G Z) 0)), (2, .ref (gz_ad (lz_G Z) 152)), (3, .ref (gz_ad (lz_G Z) 173)), (4, .int x4), (5, .int 3), (6, .int q.1)] C dl_393 rfl (by decide) rfl ?_
    refine jl_goto 395 795 C dl_395 (by decide) ?_
    refine jl_sub [0, 1, 2, 3, 4] rfl ?_
    exact jl_widen (by omega) (by omega) (kend _ _ _ hi)
set_option maxHeartbeats 4000000 in
set_option maxRecDepth 100000 in
theorem lc_request {X : jz_X} {Z : cz_Z} {b L : Nat} {xs : Nat → Int32} {Q : State → Prop} (C : jz_C X 7 code R_Lw (some .boolean) room_1 (lz_G Z)) (hX : jl_S X (lz_G Z) b L xs) (hI : jz_I (lz_G Z)) (hx : xz_ok (xz_s X)) (hxn : xn_ok (xz_s X)) (hl0 : (xz_l X).stackTraces = false) {I : Nat → jz_M → jz_M → Prop} (hs : sp_request I) {c : Nat} {mc mm : jz_M} {v x4 : Int32} (hc : c < 512) (hInv : I c mc mm) (hx4 : x4 = nI (5 * c)) (hL : 5 * c + 5 ≤ L) (hL2 : L ≤ 2560) (kend : ∀ (mc2 mm2 : jz_M) (v2 : Int32), I (c + 1) mc2 mm2 → jl_J X 7 (lz_G Z) (174 + (c + 1)) (21461 + 6 * (c + 1)) Q (lm_ mc2 mm2 v2) [(0, .ref b), (1, .ref (gz_ad (lz_G Z) 0)), (2, .ref (gz_ad (lz_G Z) 152)), (3, .ref (gz_ad (lz_G Z) 173)), (4, .int x4)] 795 []) : jl_J X 7 (lz_G Z) (174 + c) (21461 + 6 * c) Q (lm_ mc mm v) [(0, .ref b), (1, .ref (gz_ad (lz_G Z) 0)), (2, .ref (gz_ad (lz_G Z) 152)), (3, .ref (gz_ad (lz_G Z) 173)), (4, .int x4)] 398 [] := by
  have hcs : 174 + c ≤ room_1.cells ∧ 21461 + 6 * c ≤ room_1.slots := ⟨by show 174 + c ≤ 601024; omega, by show 21461 + 6 * c ≤ 7293034; omega⟩
  obtain ⟨q, h2, hq⟩ := hs c mc mm hc hInv (xs (5 * c + 1)) (xs (5 * c + 2)) (xs (5 * c + 3)) (xs (5 * c + 4))
  rcases hq with ⟨r, h1, ht, hr, hi⟩ | ⟨h1, ht, hi⟩ | ⟨h1, ht, hi⟩ | ⟨h0, h1, ht, hi⟩
  · skip
    refine jl_aload_n 398 C dl_398 rfl ?_
    refine jl_aload_n 399 C dl_399 rfl ?_
    refine jl_iload 400 C dl_400 rfl ?_
    refine jl_iconst 402 1 C dl_402 (by decide) ?_
    refine jl_iadd 403 C dl_403 ?_
    refine jl_sld 404 C dl_404 hX (ll_in hx4 (j := 1) rfl (by omega) hL2) ?_
    refine jl_top (ll_at hx4 (j := 1) rfl (by omega) hL2) ?_
    refine jl_aload_n 405 C dl_405 rfl ?_
    refine jl_iload 406 C dl_406 rfl ?_
    refine jl_iconst 408 2 C dl_408 (by decide) ?_
    refine jl_iadd 409 C dl_409 ?_
    refine jl_sld 410 C dl_410 hX (ll_in hx4 (j := 2) rfl (by omega) hL2) ?_
    refine jl_top (ll_at hx4 (j := 2) rfl (by omega) hL2) ?_
    refine jl_aload_n 411 C dl_411 rfl ?_
    refine jl_iload 412 C dl_412 rfl ?_
    refine jl_iconst 414 3 C dl_414 (by decide) ?_
    refine jl_iadd 415 C dl_415 ?_
    refine jl_sld 416 C dl_416 hX (ll_in hx4 (j := 3) rfl (by omega) hL2) ?_
    refine jl_top (ll_at hx4 (j := 3) rfl (by omega) hL2) ?_
    refine jl_aload_n 417 C dl_417 rfl ?_
    refine jl_iload 418 C dl_418 rfl ?_
    refine jl_iconst 420 4 C dl_420 (by decide) ?_
    refine jl_iadd 421 C dl_421 ?_
    refine jl_sld 422 C dl_422 hX (ll_in hx4 (j := 4) rfl (by omega) hL2) ?_
    refine jl_top (ll_at hx4 (j := 4) rfl (by omega) hL2) ?_
    refine jl_aload_n 423 C dl_423 rfl ?_
    refine jl_callH 424 [.ref (gz_ad (lz_G Z) 0), .int (xs (5 * c + 1)), .int (xs (5 * c + 2)), .int (xs (5 * c + 3)), .int (xs (5 * c + 4)), .ref (gz_ad (lz_G Z) 173)] C dl_424 (lh0_request (xz_l X) hI mm v h1) (lt_3 (i := 112) (by set_option maxRecDepth 100000 in exact rfl)) (lt_1 (i := 0) (by set_option maxRecDepth 100000 in exact rfl)) (lt_3 (i := 111) (by set_option maxRecDepth 100000 in exact rfl)) ll_60 (by decide) (n := 6) (by decide +kernel) (by decide) ⟨rfl, rfl⟩ ⟨by show 174 + c + 1 ≤ 601024; omega, by show 21461 + 6 * c + 6 ≤ 7293034; omega⟩ rfl rfl (Nat.le_of_ble_eq_true rfl) hx hxn hX.2.2 ?_
    refine jl_istore 427 [(0, .ref b), (1, .ref (gz_ad (lz_G Z) 0)), (2, .ref (gz_ad (lz_G Z) 152)), (3, .ref (gz_ad (lz_G Z) 173)), (4, .int x4), (5, .int 0)] C dl_427 rfl (by decide) rfl ?_
    refine jl_aload_n 429 C dl_429 rfl ?_
    refine jl_aload_n 430 C dl_430 rfl ?_
    refine jl_iload 431 C dl_431 rfl ?_
    refine jl_iconst 433 1 C dl_433 (by decide) ?_
    refine jl_iadd 434 C dl_434 ?_
    refine jl_sld 435 C dl_435 hX (ll_in hx4 (j := 1) rfl (by omega) hL2) ?_
    refine jl_top (ll_at hx4 (j := 1) rfl (by omega) hL2) ?_
    refine jl_aload_n 436 C dl_436 rfl ?_
    refine jl_iload 437 C dl_437 rfl ?_
    refine jl_iconst 439 2 C dl_439 (by decide) ?_
    refine jl_iadd 440 C dl_440 ?_
    refine jl_sld 441 C dl_441 hX (ll_in hx4 (j := 2) rfl (by omega) hL2) ?_
    refine jl_top (ll_at hx4 (j := 2) rfl (by omega) hL2) ?_
    refine jl_aload_n 442 C dl_442 rfl ?_
    refine jl_iload 443 C dl_443 rfl ?_
    refine jl_iconst 445 3 C dl_445 (by decide) ?_
    refine jl_iadd 446 C dl_446 ?_
    refine jl_sld 447 C dl_447 hX (ll_in hx4 (j := 3) rfl (by omega) hL2) ?_
    refine jl_top (ll_at hx4 (j := 3) rfl (by omega) hL2) ?_
    refine jl_aload_n 448 C dl_448 rfl ?_
    refine jl_iload 449 C dl_449 rfl ?_
    refine jl_iconst 451 4 C dl_451 (by decide) ?_
    refine jl_iadd 452 C dl_452 ?_
    refine jl_sld 453 C dl_453 hX (ll_in hx4 (j := 4) rfl (by omega) hL2) ?_
    refine jl_top (ll_at hx4 (j := 4) rfl (by omega) hL2) ?_
    refine jl_callV 454 [.int (xs (5 * c + 1)), .int (xs (5 * c + 2)), .int (xs (5 * c + 3)), .int (xs (5 * c + 4))] C dl_454 (lf_M hI r.2 r.1 (c_Mo_request (xz_l X) (jz_I_sub lz_subM hI) h2)) sz_Mo_request tz_Mo_request ll_62 lo_Mo rfl (by decide) rfl rfl ⟨by show 174 + c + 1 ≤ 601024; omega, by show 21461 + 6 * c + 6 ≤ 7293034; omega⟩ (Nat.le_of_ble_eq_true rfl) rfl ?_
    refine jl_istore 457 [(0, .ref b), (1, .ref (gz_ad (lz_G Z) 0)), (2, .ref (gz_ad (lz_G Z) 152)), (3, .ref (gz_ad (lz_G Z) 173)), (4, .int x4), (5, .int 0), (6, .int q.1)] C dl_457 rfl (by decide) rfl ?_
    refine jl_goto 459 795 C dl_459 (by decide) ?_
    refine jl_sub [0, 1, 2, 3, 4] rfl ?_
    exact jl_widen (by omega) (by omega) (kend _ _ _ hi)
  · skip
    refine jl_aload_n 398 C dl_398 rfl ?_
    refine jl_aload_n 399 C dl_399 rfl ?_
    refine jl_iload 400 C dl_400 rfl ?_
    refine jl_iconst 402 1 C dl_402 (by decide) ?_
    refine jl_iadd 403 C dl_403 ?_
    refine jl_sld 404 C dl_404 hX (ll_in hx4 (j := 1) rfl (by omega) hL2) ?_
    refine jl_top (ll_at hx4 (j := 1) rfl (by omega) hL2) ?_
    refine jl_aload_n 405 C dl_405 rfl ?_
    refine jl_iload 406 C dl_406 rfl ?_
    refine jl_iconst 408 2 C dl_408 (by decide) ?_
    refine jl_iadd 409 C dl_409 ?_
    refine jl_sld 410 C dl_410 hX (ll_in hx4 (j := 2) rfl (by omega) hL2) ?_
    refine jl_top (ll_at hx4 (j := 2) rfl (by omega) hL2) ?_
    refine jl_aload_n 411 C dl_411 rfl ?_
    refine jl_iload 412 C dl_412 rfl ?_
    refine jl_iconst 414 3 C dl_414 (by decide) ?_
    refine jl_iadd 415 C dl_415 ?_
    refine jl_sld 416 C dl_416 hX (ll_in hx4 (j := 3) rfl (by omega) hL2) ?_
    refine jl_top (ll_at hx4 (j := 3) rfl (by omega) hL2) ?_
    refine jl_aload_n 417 C dl_417 rfl ?_
    refine jl_iload 418 C dl_418 rfl ?_
    refine jl_iconst 420 4 C dl_420 (by decide) ?_
    refine jl_iadd 421 C dl_421 ?_
    refine jl_sld 422 C dl_422 hX (ll_in hx4 (j := 4) rfl (by omega) hL2) ?_
    refine jl_top (ll_at hx4 (j := 4) rfl (by omega) hL2) ?_
    refine jl_aload_n 423 C dl_423 rfl ?_
    refine jl_callH 424 [.ref (gz_ad (lz_G Z) 0), .int (xs (5 * c + 1)), .int (xs (5 * c + 2)), .int (xs (5 * c + 3)), .int (xs (5 * c + 4)), .ref (gz_ad (lz_G Z) 173)] C dl_424 (lh1_request (xz_l X) hl0 hI mm v h1) (lt_3 (i := 112) (by set_option maxRecDepth 100000 in exact rfl)) (lt_1 (i := 0) (by set_option maxRecDepth 100000 in exact rfl)) (lt_3 (i := 111) (by set_option maxRecDepth 100000 in exact rfl)) ll_60 (by decide) (n := 6) (by decide +kernel) (by decide) ⟨rfl, rfl⟩ ⟨by show 174 + c + 1 ≤ 601024; omega, by show 21461 + 6 * c + 6 ≤ 7293034; omega⟩ rfl rfl (Nat.le_of_ble_eq_true rfl) hx hxn hX.2.2 ?_
    refine jl_istore 427 [(0, .ref b), (1, .ref (gz_ad (lz_G Z) 0)), (2, .ref (gz_ad (lz_G Z) 152)), (3, .ref (gz_ad (lz_G Z) 173)), (4, .int x4), (5, .int 1)] C dl_427 rfl (by decide) rfl ?_
    refine jl_aload_n 429 C dl_429 rfl ?_
    refine jl_aload_n 430 C dl_430 rfl ?_
    refine jl_iload 431 C dl_431 rfl ?_
    refine jl_iconst 433 1 C dl_433 (by decide) ?_
    refine jl_iadd 434 C dl_434 ?_
    refine jl_sld 435 C dl_435 hX (ll_in hx4 (j := 1) rfl (by omega) hL2) ?_
    refine jl_top (ll_at hx4 (j := 1) rfl (by omega) hL2) ?_
    refine jl_aload_n 436 C dl_436 rfl ?_
    refine jl_iload 437 C dl_437 rfl ?_
    refine jl_iconst 439 2 C dl_439 (by decide) ?_
    refine jl_iadd 440 C dl_440 ?_
    refine jl_sld 441 C dl_441 hX (ll_in hx4 (j := 2) rfl (by omega) hL2) ?_
    refine jl_top (ll_at hx4 (j := 2) rfl (by omega) hL2) ?_
    refine jl_aload_n 442 C dl_442 rfl ?_
    refine jl_iload 443 C dl_443 rfl ?_
    refine jl_iconst 445 3 C dl_445 (by decide) ?_
    refine jl_iadd 446 C dl_446 ?_
    refine jl_sld 447 C dl_447 hX (ll_in hx4 (j := 3) rfl (by omega) hL2) ?_
    refine jl_top (ll_at hx4 (j := 3) rfl (by omega) hL2) ?_
    refine jl_aload_n 448 C dl_448 rfl ?_
    refine jl_iload 449 C dl_449 rfl ?_
    refine jl_iconst 451 4 C dl_451 (by decide) ?_
    refine jl_iadd 452 C dl_452 ?_
    refine jl_sld 453 C dl_453 hX (ll_in hx4 (j := 4) rfl (by omega) hL2) ?_
    refine jl_top (ll_at hx4 (j := 4) rfl (by omega) hL2) ?_
    refine jl_callV 454 [.int (xs (5 * c + 1)), .int (xs (5 * c + 2)), .int (xs (5 * c + 3)), .int (xs (5 * c + 4))] C dl_454 (lf_M hI mc v (c_Mo_request (xz_l X) (jz_I_sub lz_subM hI) h2)) sz_Mo_request tz_Mo_request ll_62 lo_Mo rfl (by decide) rfl rfl ⟨by show 174 + c + 1 ≤ 601024; omega, by show 21461 + 6 * c + 6 ≤ 7293034; omega⟩ (Nat.le_of_ble_eq_true rfl) rfl ?_
    refine jl_istore 457 [(0, .ref b), (1, .ref (gz_ad (lz_G Z) 0)), (2, .ref (gz_ad (lz_G Z) 152)), (3, .ref (gz_ad (lz_G Z) 173)), (4, .int x4), (5, .int 1), (6, .int q.1)] C dl_457 rfl (by decide) rfl ?_
    refine jl_goto 459 795 C dl_459 (by decide) ?_
    refine jl_sub [0, 1, 2, 3, 4] rfl ?_
    exact jl_widen (by omega) (by omega) (kend _ _ _ hi)
  · skip
    refine jl_aload_n 398 C dl_398 rfl ?_
    refine jl_aload_n 399 C dl_399 rfl ?_
    refine jl_iload 400 C dl_400 rfl ?_
    refine jl_iconst 402 1 C dl_402 (by decide) ?_
    refine jl_iadd 403 C dl_403 ?_
    refine jl_sld 404 C dl_404 hX (ll_in hx4 (j := 1) rfl (by omega) hL2) ?_
    refine jl_top (ll_at hx4 (j := 1) rfl (by omega) hL2) ?_
    refine jl_aload_n 405 C dl_405 rfl ?_
    refine jl_iload 406 C dl_406 rfl ?_
    refine jl_iconst 408 2 C dl_408 (by decide) ?_
    refine jl_iadd 409 C dl_409 ?_
    refine jl_sld 410 C dl_410 hX (ll_in hx4 (j := 2) rfl (by omega) hL2) ?_
    refine jl_top (ll_at hx4 (j := 2) rfl (by omega) hL2) ?_
    refine jl_aload_n 411 C dl_411 rfl ?_
    refine jl_iload 412 C dl_412 rfl ?_
    refine jl_iconst 414 3 C dl_414 (by decide) ?_
    refine jl_iadd 415 C dl_415 ?_
    refine jl_sld 416 C dl_416 hX (ll_in hx4 (j := 3) rfl (by omega) hL2) ?_
    refine jl_top (ll_at hx4 (j := 3) rfl (by omega) hL2) ?_
    refine jl_aload_n 417 C dl_417 rfl ?_
    refine jl_iload 418 C dl_418 rfl ?_
    refine jl_iconst 420 4 C dl_420 (by decide) ?_
    refine jl_iadd 421 C dl_421 ?_
    refine jl_sld 422 C dl_422 hX (ll_in hx4 (j := 4) rfl (by omega) hL2) ?_
    refine jl_top (ll_at hx4 (j := 4) rfl (by omega) hL2) ?_
    refine jl_aload_n 423 C dl_423 rfl ?_
    refine jl_callH 424 [.ref (gz_ad (lz_G Z) 0), .int (xs (5 * c + 1)), .int (xs (5 * c + 2)), .int (xs (5 * c + 3)), .int (xs (5 * c + 4)), .ref (gz_ad (lz_G Z) 173)] C dl_424 (lh2_request (xz_l X) hl0 hI mm v h1) (lt_3 (i := 112) (by set_option maxRecDepth 100000 in exact rfl)) (lt_1 (i := 0) (by set_option maxRecDepth 100000 in exact rfl)) (lt_3 (i := 111) (by set_option maxRecDepth 100000 in exact rfl)) ll_60 (by decide) (n := 6) (by decide +kernel) (by decide) ⟨rfl, rfl⟩ ⟨by show 174 + c + 1 ≤ 601024; omega, by show 21461 + 6 * c + 6 ≤ 7293034; omega⟩ rfl rfl (Nat.le_of_ble_eq_true rfl) hx hxn hX.2.2 ?_
    refine jl_istore 427 [(0, .ref b), (1, .ref (gz_ad (lz_G Z) 0)), (2, .ref (gz_ad (lz_G Z) 152)), (3, .ref (gz_ad (lz_G Z) 173)), (4, .int x4), (5, .int 2)] C dl_427 rfl (by decide) rfl ?_
    refine jl_aload_n 429 C dl_429 rfl ?_
    refine jl_aload_n 430 C dl_430 rfl ?_
    refine jl_iload 431 C dl_431 rfl ?_
    refine jl_iconst 433 1 C dl_433 (by decide) ?_
    refine jl_iadd 434 C dl_434 ?_
    refine jl_sld 435 C dl_435 hX (ll_in hx4 (j := 1) rfl (by omega) hL2) ?_
    refine jl_top (ll_at hx4 (j := 1) rfl (by omega) hL2) ?_
    refine jl_aload_n 436 C dl_436 rfl ?_
    refine jl_iload 437 C dl_437 rfl ?_
    refine jl_iconst 439 2 C dl_439 (by decide) ?_
    refine jl_iadd 440 C dl_440 ?_
    refine jl_sld 441 C dl_441 hX (ll_in hx4 (j := 2) rfl (by omega) hL2) ?_
    refine jl_top (ll_at hx4 (j := 2) rfl (by omega) hL2) ?_
    refine jl_aload_n 442 C dl_442 rfl ?_
    refine jl_iload 443 C dl_443 rfl ?_
    refine jl_iconst 445 3 C dl_445 (by decide) ?_
    refine jl_iadd 446 C dl_446 ?_
    refine jl_sld 447 C dl_447 hX (ll_in hx4 (j := 3) rfl (by omega) hL2) ?_
    refine jl_top (ll_at hx4 (j := 3) rfl (by omega) hL2) ?_
    refine jl_aload_n 448 C dl_448 rfl ?_
    refine jl_iload 449 C dl_449 rfl ?_
    refine jl_iconst 451 4 C dl_451 (by decide) ?_
    refine jl_iadd 452 C dl_452 ?_
    refine jl_sld 453 C dl_453 hX (ll_in hx4 (j := 4) rfl (by omega) hL2) ?_
    refine jl_top (ll_at hx4 (j := 4) rfl (by omega) hL2) ?_
    refine jl_callV 454 [.int (xs (5 * c + 1)), .int (xs (5 * c + 2)), .int (xs (5 * c + 3)), .int (xs (5 * c + 4))] C dl_454 (lf_M hI mc v (c_Mo_request (xz_l X) (jz_I_sub lz_subM hI) h2)) sz_Mo_request tz_Mo_request ll_62 lo_Mo rfl (by decide) rfl rfl ⟨by show 174 + c + 1 ≤ 601024; omega, by show 21461 + 6 * c + 6 ≤ 7293034; omega⟩ (Nat.le_of_ble_eq_true rfl) rfl ?_
    refine jl_istore 457 [(0, .ref b), (1, .ref (gz_ad (lz_G Z) 0)), (2, .ref (gz_ad (lz_G Z) 152)), (3, .ref (gz_ad (lz_G Z) 173)), (4, .int x4), (5, .int 2), (6, .int q.1)] C dl_457 rfl (by decide) rfl ?_
    refine jl_goto 459 795 C dl_459 (by decide) ?_
    refine jl_sub [0, 1, 2, 3, 4] rfl ?_
    exact jl_widen (by omega) (by omega) (kend _ _ _ hi)
  · skip
    refine jl_aload_n 398 C dl_398 rfl ?_
    refine jl_aload_n 399 C dl_399 rfl ?_
    refine jl_iload 400 C dl_400 rfl ?_
    refine jl_iconst 402 1 C dl_402 (by decide) ?_
    refine jl_iadd 403 C dl_403 ?_
    refine jl_sld 404 C dl_404 hX (ll_in hx4 (j := 1) rfl (by omega) hL2) ?_
    refine jl_top (ll_at hx4 (j := 1) rfl (by omega) hL2) ?_
    refine jl_aload_n 405 C dl_405 rfl ?_
    refine jl_iload 406 C dl_406 rfl ?_
    refine jl_iconst 408 2 C dl_408 (by decide) ?_
    refine jl_iadd 409 C dl_409 ?_
    refine jl_sld 410 C dl_410 hX (ll_in hx4 (j := 2) rfl (by omega) hL2) ?_
    refine jl_top (ll_at hx4 (j := 2) rfl (by omega) hL2) ?_
    refine jl_aload_n 411 C dl_411 rfl ?_
    refine jl_iload 412 C dl_412 rfl ?_
    refine jl_iconst 414 3 C dl_414 (by decide) ?_
    refine jl_iadd 415 C dl_415 ?_
    refine jl_sld 416 C dl_416 hX (ll_in hx4 (j := 3) rfl (by omega) hL2) ?_
    refine jl_top (ll_at hx4 (j := 3) rfl (by omega) hL2) ?_
    refine jl_aload_n 417 C dl_417 rfl ?_
    refine jl_iload 418 C dl_418 rfl ?_
    refine jl_iconst 420 4 C dl_420 (by decide) ?_
    refine jl_iadd 421 C dl_421 ?_
    refine jl_sld 422 C dl_422 hX (ll_in hx4 (j := 4) rfl (by omega) hL2) ?_
    refine jl_top (ll_at hx4 (j := 4) rfl (by omega) hL2) ?_
    refine jl_aload_n 423 C dl_423 rfl ?_
    refine jl_callH 424 [.ref (gz_ad (lz_G Z) 0), .int (xs (5 * c + 1)), .int (xs (5 * c + 2)), .int (xs (5 * c + 3)), .int (xs (5 * c + 4)), .ref (gz_ad (lz_G Z) 173)] C dl_424 (lh3_request (xz_l X) hl0 hI mm v h0 h1) (lt_3 (i := 112) (by set_option maxRecDepth 100000 in exact rfl)) (lt_1 (i := 0) (by set_option maxRecDepth 100000 in exact rfl)) (lt_3 (i := 111) (by set_option maxRecDepth 100000 in exact rfl)) ll_60 (by decide) (n := 6) (by decide +kernel) (by decide) ⟨rfl, rfl⟩ ⟨by show 174 + c + 1 ≤ 601024; omega, by show 21461 + 6 * c + 6 ≤ 7293034; omega⟩ rfl rfl (Nat.le_of_ble_eq_true rfl) hx hxn hX.2.2 ?_
    refine jl_istore 427 [(0, .ref b), (1, .ref (gz_ad (lz_G Z) 0)), (2, .ref (gz_ad (lz_G Z) 152)), (3, .ref (gz_ad (lz_G Z) 173)), (4, .int x4), (5, .int 3)] C dl_427 rfl (by decide) rfl ?_
    refine jl_aload_n 429 C dl_429 rfl ?_
    refine jl_aload_n 430 C dl_430 rfl ?_
    refine jl_iload 431 C dl_431 rfl ?_
    refine jl_iconst 433 1 C dl_433 (by decide) ?_
    refine jl_iadd 434 C dl_434 ?_
    refine jl_sld 435 C dl_435 hX (ll_in hx4 (j := 1) rfl (by omega) hL2) ?_
    refine jl_top (ll_at hx4 (j := 1) rfl (by omega) hL2) ?_
    refine jl_aload_n 436 C dl_436 rfl ?_
    refine jl_iload 437 C dl_437 rfl ?_
    refine jl_iconst 439 2 C dl_439 (by decide) ?_
    refine jl_iadd 440 C dl_440 ?_
    refine jl_sld 441 C dl_441 hX (ll_in hx4 (j := 2) rfl (by omega) hL2) ?_
    refine jl_top (ll_at hx4 (j := 2) rfl (by omega) hL2) ?_
    refine jl_aload_n 442 C dl_442 rfl ?_
    refine jl_iload 443 C dl_443 rfl ?_
    refine jl_iconst 445 3 C dl_445 (by decide) ?_
    refine jl_iadd 446 C dl_446 ?_
    refine jl_sld 447 C dl_447 hX (ll_in hx4 (j := 3) rfl (by omega) hL2) ?_
    refine jl_top (ll_at hx4 (j := 3) rfl (by omega) hL2) ?_
    refine jl_aload_n 448 C dl_448 rfl ?_
    refine jl_iload 449 C dl_449 rfl ?_
    refine jl_iconst 451 4 C dl_451 (by decide) ?_
    refine jl_iadd 452 C dl_452 ?_
    refine jl_sld 453 C dl_453 hX (ll_in hx4 (j := 4) rfl (by omega) hL2) ?_
    refine jl_top (ll_at hx4 (j := 4) rfl (by omega) hL2) ?_
    refine jl_callV 454 [.int (xs (5 * c + 1)), .int (xs (5 * c + 2)), .int (xs (5 * c + 3)), .int (xs (5 * c + 4))] C dl_454 (lf_M hI mc v (c_Mo_request (xz_l X) (jz_I_sub lz_subM hI) h2)) sz_Mo_request tz_Mo_request ll_62 lo_Mo rfl (by decide) rfl rfl ⟨by show 174 + c + 1 ≤ 601024; omega, by show 21461 + 6 * c + 6 ≤ 7293034; omega⟩ (Nat.le_of_ble_eq_true rfl) rfl ?_
    refine jl_istore 457 [(0, .ref b), (1, .ref (gz_ad (lz_G Z) 0)), (2, .ref (gz_ad (lz_G Z) 152)), (3, .ref (gz_ad (lz_G Z) 173)), (4, .int x4), (5, .int 3), (6, .int q.1)] C dl_457 rfl (by decide) rfl ?_
    refine jl_goto 459 795 C dl_459 (by decide) ?_
    refine jl_sub [0, 1, 2, 3, 4] rfl ?_
    exact jl_widen (by omega) (by omega) (kend _ _ _ hi)
set_option maxHeartbeats 4000000 in
set_option maxRecDepth 100000 in
theorem lc_describe {X : jz_X} {Z : cz_Z} {b L : Nat} {xs : Nat → Int32} {Q : State → Prop} (C : jz_C X 7 code R_Lw (some .boolean) room_1 (lz_G Z)) (hX : jl_S X (lz_G Z) b L xs) (hI : jz_I (lz_G Z)) (hx : xz_ok (xz_s X)) (hxn : xn_ok (xz_s X)) (hl0 : (xz_l X).stackTraces = false) {I : Nat → jz_M → jz_M → Prop} (hs : sp_describe I) {c : Nat} {mc mm : jz_M} {v x4 : Int32} (hc : c < 512) (hInv : I c mc mm) (hx4 : x4 = nI (5 * c)) (hL : 5 * c + 5 ≤ L) (hL2 : L ≤ 2560) (kend : ∀ (mc2 mm2 : jz_M) (v2 : Int32), I (c + 1) mc2 mm2 → jl_J X 7 (lz_G Z) (174 + (c + 1)) (21461 + 6 * (c + 1)) Q (lm_ mc2 mm2 v2) [(0, .ref b), (1, .ref (gz_ad (lz_G Z) 0)), (2, .ref (gz_ad (lz_G Z) 152)), (3, .ref (gz_ad (lz_G Z) 173)), (4, .int x4)] 795 []) : jl_J X 7 (lz_G Z) (174 + c) (21461 + 6 * c) Q (lm_ mc mm v) [(0, .ref b), (1, .ref (gz_ad (lz_G Z) 0)), (2, .ref (gz_ad (lz_G Z) 152)), (3, .ref (gz_ad (lz_G Z) 173)), (4, .int x4)] 462 [] := by
  have hcs : 174 + c ≤ room_1.cells ∧ 21461 + 6 * c ≤ room_1.slots := ⟨by show 174 + c ≤ 601024; omega, by show 21461 + 6 * c ≤ 7293034; omega⟩
  obtain ⟨q, h2, hq⟩ := hs c mc mm hc hInv (xs (5 * c + 1))
  rcases hq with ⟨r, h1, ht, hr, hi⟩ | ⟨h1, ht, hi⟩
  · skip
    refine jl_aload_n 462 C dl_462 rfl ?_
    refine jl_aload_n 463 C dl_463 rfl ?_
    refine jl_iload 464 C dl_464 rfl ?_
    refine jl_iconst 466 1 C dl_466 (by decide) ?_
    refine jl_iadd 467 C dl_467 ?_
    refine jl_sld 468 C dl_468 hX (ll_in hx4 (j := 1) rfl (by omega) hL2) ?_
    refine jl_top (ll_at hx4 (j := 1) rfl (by omega) hL2) ?_
    refine jl_aload_n 469 C dl_469 rfl ?_
    refine jl_callH 470 [.ref (gz_ad (lz_G Z) 0), .int (xs (5 * c + 1)), .ref (gz_ad (lz_G Z) 173)] C dl_470 (lh0_describe (xz_l X) hI mm v h1) (lt_3 (i := 124) (by set_option maxRecDepth 100000 in exact rfl)) (lt_1 (i := 0) (by set_option maxRecDepth 100000 in exact rfl)) (lt_3 (i := 123) (by set_option maxRecDepth 100000 in exact rfl)) ll_63 (by decide) (n := 3) (by decide +kernel) (by decide) ⟨rfl, rfl⟩ ⟨by show 174 + c + 1 ≤ 601024; omega, by show 21461 + 6 * c + 6 ≤ 7293034; omega⟩ rfl rfl (Nat.le_of_ble_eq_true rfl) hx hxn hX.2.2 ?_
    refine jl_istore 473 [(0, .ref b), (1, .ref (gz_ad (lz_G Z) 0)), (2, .ref (gz_ad (lz_G Z) 152)), (3, .ref (gz_ad (lz_G Z) 173)), (4, .int x4), (5, .int 0)] C dl_473 rfl (by decide) rfl ?_
    refine jl_aload_n 475 C dl_475 rfl ?_
    refine jl_aload_n 476 C dl_476 rfl ?_
    refine jl_iload 477 C dl_477 rfl ?_
    refine jl_iconst 479 1 C dl_479 (by decide) ?_
    refine jl_iadd 480 C dl_480 ?_
    refine jl_sld 481 C dl_481 hX (ll_in hx4 (j := 1) rfl (by omega) hL2) ?_
    refine jl_top (ll_at hx4 (j := 1) rfl (by omega) hL2) ?_
    refine jl_callV 482 [.int (xs (5 * c + 1))] C dl_482 (lf_M hI r.2 r.1 (c_Mo_describe (xz_l X) (jz_I_sub lz_subM hI) h2)) sz_Mo_describe tz_Mo_describe ll_66 lo_Mo rfl (by decide) rfl rfl ⟨by show 174 + c + 1 ≤ 601024; omega, by show 21461 + 6 * c + 6 ≤ 7293034; omega⟩ (Nat.le_of_ble_eq_true rfl) rfl ?_
    refine jl_istore 485 [(0, .ref b), (1, .ref (gz_ad (lz_G Z) 0)), (2, .ref (gz_ad (lz_G Z) 152)), (3, .ref (gz_ad (lz_G Z) 173)), (4, .int x4), (5, .int 0), (6, .int q.1)] C dl_485 rfl (by decide) rfl ?_
    refine jl_goto 487 795 C dl_487 (by decide) ?_
    refine jl_sub [0, 1, 2, 3, 4] rfl ?_
    exact jl_widen (by omega) (by omega) (kend _ _ _ hi)
  · skip
    refine jl_aload_n 462 C dl_462 rfl ?_
    refine jl_aload_n 463 C dl_463 rfl ?_
    refine jl_iload 464 C dl_464 rfl ?_
    refine jl_iconst 466 1 C dl_466 (by decide) ?_
    refine jl_iadd 467 C dl_467 ?_
    refine jl_sld 468 C dl_468 hX (ll_in hx4 (j := 1) rfl (by omega) hL2) ?_
    refine jl_top (ll_at hx4 (j := 1) rfl (by omega) hL2) ?_
    refine jl_aload_n 469 C dl_469 rfl ?_
    refine jl_callH 470 [.ref (gz_ad (lz_G Z) 0), .int (xs (5 * c + 1)), .ref (gz_ad (lz_G Z) 173)] C dl_470 (lh1_describe (xz_l X) hl0 hI mm v h1) (lt_3 (i := 124) (by set_option maxRecDepth 100000 in exact rfl)) (lt_1 (i := 0) (by set_option maxRecDepth 100000 in exact rfl)) (lt_3 (i := 123) (by set_option maxRecDepth 100000 in exact rfl)) ll_63 (by decide) (n := 3) (by decide +kernel) (by decide) ⟨rfl, rfl⟩ ⟨by show 174 + c + 1 ≤ 601024; omega, by show 21461 + 6 * c + 6 ≤ 7293034; omega⟩ rfl rfl (Nat.le_of_ble_eq_true rfl) hx hxn hX.2.2 ?_
    refine jl_istore 473 [(0, .ref b), (1, .ref (gz_ad (lz_G Z) 0)), (2, .ref (gz_ad (lz_G Z) 152)), (3, .ref (gz_ad (lz_G Z) 173)), (4, .int x4), (5, .int 1)] C dl_473 rfl (by decide) rfl ?_
    refine jl_aload_n 475 C dl_475 rfl ?_
    refine jl_aload_n 476 C dl_476 rfl ?_
    refine jl_iload 477 C dl_477 rfl ?_
    refine jl_iconst 479 1 C dl_479 (by decide) ?_
    refine jl_iadd 480 C dl_480 ?_
    refine jl_sld 481 C dl_481 hX (ll_in hx4 (j := 1) rfl (by omega) hL2) ?_
    refine jl_top (ll_at hx4 (j := 1) rfl (by omega) hL2) ?_
    refine jl_callV 482 [.int (xs (5 * c + 1))] C dl_482 (lf_M hI mc v (c_Mo_describe (xz_l X) (jz_I_sub lz_subM hI) h2)) sz_Mo_describe tz_Mo_describe ll_66 lo_Mo rfl (by decide) rfl rfl ⟨by show 174 + c + 1 ≤ 601024; omega, by show 21461 + 6 * c + 6 ≤ 7293034; omega⟩ (Nat.le_of_ble_eq_true rfl) rfl ?_
    refine jl_istore 485 [(0, .ref b), (1, .ref (gz_ad (lz_G Z) 0)), (2, .ref (gz_ad (lz_G Z) 152)), (3, .ref (gz_ad (lz_G Z) 173)), (4, .int x4), (5, .int 1), (6, .int q.1)] C dl_485 rfl (by decide) rfl ?_
    refine jl_goto 487 795 C dl_487 (by decide) ?_
    refine jl_sub [0, 1, 2, 3, 4] rfl ?_
    exact jl_widen (by omega) (by omega) (kend _ _ _ hi)
set_option maxHeartbeats 4000000 in
set_option maxRecDepth 100000 in
theorem lc_tick {X : jz_X} {Z : cz_Z} {b L : Nat} {xs : Nat → Int32} {Q : State → Prop} (C : jz_C X 7 code R_Lw (some .boolean) room_1 (lz_G Z)) (hX : jl_S X (lz_G Z) b L xs) (hI : jz_I (lz_G Z)) (hx : xz_ok (xz_s X)) (hxn : xn_ok (xz_s X)) (hl0 : (xz_l X).stackTraces = false) {I : Nat → jz_M → jz_M → Prop} (hs : sp_tick I) {c : Nat} {mc mm : jz_M} {v x4 : Int32} (hc : c < 512) (hInv : I c mc mm) (hx4 : x4 = nI (5 * c)) (hL : 5 * c + 5 ≤ L) (hL2 : L ≤ 2560) (kend : ∀ (mc2 mm2 : jz_M) (v2 : Int32), I (c + 1) mc2 mm2 → jl_J X 7 (lz_G Z) (174 + (c + 1)) (21461 + 6 * (c + 1)) Q (lm_ mc2 mm2 v2) [(0, .ref b), (1, .ref (gz_ad (lz_G Z) 0)), (2, .ref (gz_ad (lz_G Z) 152)), (3, .ref (gz_ad (lz_G Z) 173)), (4, .int x4)] 795 []) : jl_J X 7 (lz_G Z) (174 + c) (21461 + 6 * c) Q (lm_ mc mm v) [(0, .ref b), (1, .ref (gz_ad (lz_G Z) 0)), (2, .ref (gz_ad (lz_G Z) 152)), (3, .ref (gz_ad (lz_G Z) 173)), (4, .int x4)] 490 [] := by
  have hcs : 174 + c ≤ room_1.cells ∧ 21461 + 6 * c ≤ room_1.slots := ⟨by show 174 + c ≤ 601024; omega, by show 21461 + 6 * c ≤ 7293034; omega⟩
  obtain ⟨r, q, h1, h2, hi⟩ := hs c mc mm hc hInv
  refine jl_aload_n 490 C dl_490 rfl ?_
  refine jl_callV 491 [] C dl_491 (lf_C hI mm v (c_AR_tick (xz_l X) (jz_I_sub lz_subC hI) h1)) sz_AR_tick tz_AR_tick ll_67 lo_AR rfl (by decide) rfl rfl hcs (Nat.le_of_ble_eq_true rfl) rfl ?_
  refine jl_aload_n 494 C dl_494 rfl ?_
  refine jl_callV 495 [] C dl_495 (lf_M hI r v (c_Mo_tick (xz_l X) (jz_I_sub lz_subM hI) h2)) sz_Mo_tick tz_Mo_tick ll_70 lo_Mo rfl (by decide) rfl rfl hcs (Nat.le_of_ble_eq_true rfl) rfl ?_
  refine jl_goto 498 795 C dl_498 (by decide) ?_
  refine jl_sub [0, 1, 2, 3, 4] rfl ?_
  exact jl_widen (by omega) (by omega) (kend _ _ _ hi)
set_option maxHeartbeats 4000000 in
set_option maxRecDepth 100000 in
theorem lc_neighbour {X : jz_X} {Z : cz_Z} {b L : Nat} {xs : Nat → Int32} {Q : State → Prop} (C : jz_C X 7 code R_Lw (some .boolean) room_1 (lz_G Z)) (hX : jl_S X (lz_G Z) b L xs) (hI : jz_I (lz_G Z)) (hx : xz_ok (xz_s X)) (hxn : xn_ok (xz_s X)) (hl0 : (xz_l X).stackTraces = false) {I : Nat → jz_M → jz_M → Prop} (hs : sp_neighbour I) {c : Nat} {mc mm : jz_M} {v x4 : Int32} (hc : c < 512) (hInv : I c mc mm) (hx4 : x4 = nI (5 * c)) (hL : 5 * c + 5 ≤ L) (hL2 : L ≤ 2560) (kend : ∀ (mc2 mm2 : jz_M) (v2 : Int32), I (c + 1) mc2 mm2 → jl_J X 7 (lz_G Z) (174 + (c + 1)) (21461 + 6 * (c + 1)) Q (lm_ mc2 mm2 v2) [(0, .ref b), (1, .ref (gz_ad (lz_G Z) 0)), (2, .ref (gz_ad (lz_G Z) 152)), (3, .ref (gz_ad (lz_G Z) 173)), (4, .int x4)] 795 []) : jl_J X 7 (lz_G Z) (174 + c) (21461 + 6 * c) Q (lm_ mc mm v) [(0, .ref b), (1, .ref (gz_ad (lz_G Z) 0)), (2, .ref (gz_ad (lz_G Z) 152)), (3, .ref (gz_ad (lz_G Z) 173)), (4, .int x4)] 501 [] := by
  have hcs : 174 + c ≤ room_1.cells ∧ 21461 + 6 * c ≤ room_1.slots := ⟨by show 174 + c ≤ 601024; omega, by show 21461 + 6 * c ≤ 7293034; omega⟩
  obtain ⟨r, q, h1, h2, hr, hi⟩ := hs c mc mm hc hInv (xs (5 * c + 1)) (xs (5 * c + 2)) (xs (5 * c + 3)) (xs (5 * c + 4))
  refine jl_aload_n 501 C dl_501 rfl ?_
  refine jl_aload_n 502 C dl_502 rfl ?_
  refine jl_iload 503 C dl_503 rfl ?_
  refine jl_iconst 505 1 C dl_505 (by decide) ?_
  refine jl_iadd 506 C dl_506 ?_
  refine jl_sld 507 C dl_507 hX (ll_in hx4 (j := 1) rfl (by omega) hL2) ?_
  refine jl_top (ll_at hx4 (j := 1) rfl (by omega) hL2) ?_
  refine jl_aload_n 508 C dl_508 rfl ?_
  refine jl_iload 509 C dl_509 rfl ?_
  refine jl_iconst 511 2 C dl_511 (by decide) ?_
  refine jl_iadd 512 C dl_512 ?_
  refine jl_sld 513 C dl_513 hX (ll_in hx4 (j := 2) rfl (by omega) hL2) ?_
  refine jl_top (ll_at hx4 (j := 2) rfl (by omega) hL2) ?_
  refine jl_aload_n 514 C dl_514 rfl ?_
  refine jl_iload 515 C dl_515 rfl ?_
  refine jl_iconst 517 3 C dl_517 (by decide) ?_
  refine jl_iadd 518 C dl_518 ?_
  refine jl_sld 519 C dl_519 hX (ll_in hx4 (j := 3) rfl (by omega) hL2) ?_
  refine jl_top (ll_at hx4 (j := 3) rfl (by omega) hL2) ?_
  refine jl_aload_n 520 C dl_520 rfl ?_
  refine jl_iload 521 C dl_521 rfl ?_
  refine jl_iconst 523 4 C dl_523 (by decide) ?_
  refine jl_iadd 524 C dl_524 ?_
  refine jl_sld 525 C dl_525 hX (ll_in hx4 (j := 4) rfl (by omega) hL2) ?_
  refine jl_top (ll_at hx4 (j := 4) rfl (by omega) hL2) ?_
  refine jl_callV 526 [.int (xs (5 * c + 1)), .int (xs (5 * c + 2)), .int (xs (5 * c + 3)), .int (xs (5 * c + 4))] C dl_526 (lf_C hI mm v (c_AR_neighbour (xz_l X) (jz_I_sub lz_subC hI) h1)) sz_AR_neighbour tz_AR_neighbour ll_71 lo_AR rfl (by decide) rfl rfl hcs (Nat.le_of_ble_eq_true rfl) rfl ?_
  refine jl_pop 529 C dl_529 rfl ?_
  refine jl_aload_n 530 C dl_530 rfl ?_
  refine jl_aload_n 531 C dl_531 rfl ?_
  refine jl_iload 532 C dl_532 rfl ?_
  refine jl_iconst 534 1 C dl_534 (by decide) ?_
  refine jl_iadd 535 C dl_535 ?_
  refine jl_sld 536 C dl_536 hX (ll_in hx4 (j := 1) rfl (by omega) hL2) ?_
  refine jl_top (ll_at hx4 (j := 1) rfl (by omega) hL2) ?_
  refine jl_aload_n 537 C dl_537 rfl ?_
  refine jl_iload 538 C dl_538 rfl ?_
  refine jl_iconst 540 2 C dl_540 (by decide) ?_
  refine jl_iadd 541 C dl_541 ?_
  refine jl_sld 542 C dl_542 hX (ll_in hx4 (j := 2) rfl (by omega) hL2) ?_
  refine jl_top (ll_at hx4 (j := 2) rfl (by omega) hL2) ?_
  refine jl_aload_n 543 C dl_543 rfl ?_
  refine jl_iload 544 C dl_544 rfl ?_
  refine jl_iconst 546 3 C dl_546 (by decide) ?_
  refine jl_iadd 547 C dl_547 ?_
  refine jl_sld 548 C dl_548 hX (ll_in hx4 (j := 3) rfl (by omega) hL2) ?_
  refine jl_top (ll_at hx4 (j := 3) rfl (by omega) hL2) ?_
  refine jl_aload_n 549 C dl_549 rfl ?_
  refine jl_iload 550 C dl_550 rfl ?_
  refine jl_iconst 552 4 C dl_552 (by decide) ?_
  refine jl_iadd 553 C dl_553 ?_
  refine jl_sld 554 C dl_554 hX (ll_in hx4 (j := 4) rfl (by omega) hL2) ?_
  refine jl_top (ll_at hx4 (j := 4) rfl (by omega) hL2) ?_
  refine jl_callV 555 [.int (xs (5 * c + 1)), .int (xs (5 * c + 2)), .int (xs (5 * c + 3)), .int (xs (5 * c + 4))] C dl_555 (lf_M hI mc v (c_Mo_neighbour (xz_l X) (jz_I_sub lz_subM hI) h2)) sz_Mo_neighbour tz_Mo_neighbour ll_74 lo_Mo rfl (by decide) rfl rfl hcs (Nat.le_of_ble_eq_true rfl) rfl ?_
  refine jl_pop 558 C dl_558 rfl ?_
  refine jl_goto 559 795 C dl_559 (by decide) ?_
  refine jl_sub [0, 1, 2, 3, 4] rfl ?_
  exact jl_widen (by omega) (by omega) (kend _ _ _ hi)
set_option maxHeartbeats 4000000 in
set_option maxRecDepth 100000 in
theorem lc_speaker {X : jz_X} {Z : cz_Z} {b L : Nat} {xs : Nat → Int32} {Q : State → Prop} (C : jz_C X 7 code R_Lw (some .boolean) room_1 (lz_G Z)) (hX : jl_S X (lz_G Z) b L xs) (hI : jz_I (lz_G Z)) (hx : xz_ok (xz_s X)) (hxn : xn_ok (xz_s X)) (hl0 : (xz_l X).stackTraces = false) {I : Nat → jz_M → jz_M → Prop} (hs : sp_speaker I) {c : Nat} {mc mm : jz_M} {v x4 : Int32} (hc : c < 512) (hInv : I c mc mm) (hx4 : x4 = nI (5 * c)) (hL : 5 * c + 5 ≤ L) (hL2 : L ≤ 2560) (kend : ∀ (mc2 mm2 : jz_M) (v2 : Int32), I (c + 1) mc2 mm2 → jl_J X 7 (lz_G Z) (174 + (c + 1)) (21461 + 6 * (c + 1)) Q (lm_ mc2 mm2 v2) [(0, .ref b), (1, .ref (gz_ad (lz_G Z) 0)), (2, .ref (gz_ad (lz_G Z) 152)), (3, .ref (gz_ad (lz_G Z) 173)), (4, .int x4)] 795 []) : jl_J X 7 (lz_G Z) (174 + c) (21461 + 6 * c) Q (lm_ mc mm v) [(0, .ref b), (1, .ref (gz_ad (lz_G Z) 0)), (2, .ref (gz_ad (lz_G Z) 152)), (3, .ref (gz_ad (lz_G Z) 173)), (4, .int x4)] 562 [] := by
  have hcs : 174 + c ≤ room_1.cells ∧ 21461 + 6 * c ≤ room_1.slots := ⟨by show 174 + c ≤ 601024; omega, by show 21461 + 6 * c ≤ 7293034; omega⟩
  obtain ⟨r, q, h1, h2, hr, hi⟩ := hs c mc mm hc hInv (xs (5 * c + 1)) (xs (5 * c + 2)) (xs (5 * c + 3))
  refine jl_aload_n 562 C dl_562 rfl ?_
  refine jl_aload_n 563 C dl_563 rfl ?_
  refine jl_iload 564 C dl_564 rfl ?_
  refine jl_iconst 566 1 C dl_566 (by decide) ?_
  refine jl_iadd 567 C dl_567 ?_
  refine jl_sld 568 C dl_568 hX (ll_in hx4 (j := 1) rfl (by omega) hL2) ?_
  refine jl_top (ll_at hx4 (j := 1) rfl (by omega) hL2) ?_
  refine jl_aload_n 569 C dl_569 rfl ?_
  refine jl_iload 570 C dl_570 rfl ?_
  refine jl_iconst 572 2 C dl_572 (by decide) ?_
  refine jl_iadd 573 C dl_573 ?_
  refine jl_sld 574 C dl_574 hX (ll_in hx4 (j := 2) rfl (by omega) hL2) ?_
  refine jl_top (ll_at hx4 (j := 2) rfl (by omega) hL2) ?_
  refine jl_aload_n 575 C dl_575 rfl ?_
  refine jl_iload 576 C dl_576 rfl ?_
  refine jl_iconst 578 3 C dl_578 (by decide) ?_
  refine jl_iadd 579 C dl_579 ?_
  refine jl_sld 580 C dl_580 hX (ll_in hx4 (j := 3) rfl (by omega) hL2) ?_
  refine jl_top (ll_at hx4 (j := 3) rfl (by omega) hL2) ?_
  refine jl_callV 581 [.int (xs (5 * c + 1)), .int (xs (5 * c + 2)), .int (xs (5 * c + 3))] C dl_581 (lf_C hI mm v (c_AR_speaker (xz_l X) (jz_I_sub lz_subC hI) h1)) sz_AR_speaker tz_AR_speaker ll_75 lo_AR rfl (by decide) rfl rfl hcs (Nat.le_of_ble_eq_true rfl) rfl ?_
  refine jl_pop 584 C dl_584 rfl ?_
  refine jl_aload_n 585 C dl_585 rfl ?_
  refine jl_aload_n 586 C dl_586 rfl ?_
  refine jl_iload 587 C dl_587 rfl ?_
  refine jl_iconst 589 1 C dl_589 (by decide) ?_
  refine jl_iadd 590 C dl_590 ?_
  refine jl_sld 591 C dl_591 hX (ll_in hx4 (j := 1) rfl (by omega) hL2) ?_
  refine jl_top (ll_at hx4 (j := 1) rfl (by omega) hL2) ?_
  refine jl_aload_n 592 C dl_592 rfl ?_
  refine jl_iload 593 C dl_593 rfl ?_
  refine jl_iconst 595 2 C dl_595 (by decide) ?_
  refine jl_iadd 596 C dl_596 ?_
  refine jl_sld 597 C dl_597 hX (ll_in hx4 (j := 2) rfl (by omega) hL2) ?_
  refine jl_top (ll_at hx4 (j := 2) rfl (by omega) hL2) ?_
  refine jl_aload_n 598 C dl_598 rfl ?_
  refine jl_iload 599 C dl_599 rfl ?_
  refine jl_iconst 601 3 C dl_601 (by decide) ?_
  refine jl_iadd 602 C dl_602 ?_
  refine jl_sld 603 C dl_603 hX (ll_in hx4 (j := 3) rfl (by omega) hL2) ?_
  refine jl_top (ll_at hx4 (j := 3) rfl (by omega) hL2) ?_
  refine jl_callV 604 [.int (xs (5 * c + 1)), .int (xs (5 * c + 2)), .int (xs (5 * c + 3))] C dl_604 (lf_M hI mc v (c_Mo_speaker (xz_l X) (jz_I_sub lz_subM hI) h2)) sz_Mo_speaker tz_Mo_speaker ll_78 lo_Mo rfl (by decide) rfl rfl hcs (Nat.le_of_ble_eq_true rfl) rfl ?_
  refine jl_pop 607 C dl_607 rfl ?_
  refine jl_goto 608 795 C dl_608 (by decide) ?_
  refine jl_sub [0, 1, 2, 3, 4] rfl ?_
  exact jl_widen (by omega) (by omega) (kend _ _ _ hi)
set_option maxHeartbeats 4000000 in
set_option maxRecDepth 100000 in
theorem lc_description {X : jz_X} {Z : cz_Z} {b L : Nat} {xs : Nat → Int32} {Q : State → Prop} (C : jz_C X 7 code R_Lw (some .boolean) room_1 (lz_G Z)) (hX : jl_S X (lz_G Z) b L xs) (hI : jz_I (lz_G Z)) (hx : xz_ok (xz_s X)) (hxn : xn_ok (xz_s X)) (hl0 : (xz_l X).stackTraces = false) {I : Nat → jz_M → jz_M → Prop} (hs : sp_description I) {c : Nat} {mc mm : jz_M} {v x4 : Int32} (hc : c < 512) (hInv : I c mc mm) (hx4 : x4 = nI (5 * c)) (hL : 5 * c + 5 ≤ L) (hL2 : L ≤ 2560) (kend : ∀ (mc2 mm2 : jz_M) (v2 : Int32), I (c + 1) mc2 mm2 → jl_J X 7 (lz_G Z) (174 + (c + 1)) (21461 + 6 * (c + 1)) Q (lm_ mc2 mm2 v2) [(0, .ref b), (1, .ref (gz_ad (lz_G Z) 0)), (2, .ref (gz_ad (lz_G Z) 152)), (3, .ref (gz_ad (lz_G Z) 173)), (4, .int x4)] 795 []) : jl_J X 7 (lz_G Z) (174 + c) (21461 + 6 * c) Q (lm_ mc mm v) [(0, .ref b), (1, .ref (gz_ad (lz_G Z) 0)), (2, .ref (gz_ad (lz_G Z) 152)), (3, .ref (gz_ad (lz_G Z) 173)), (4, .int x4)] 611 [] := by
  have hcs : 174 + c ≤ room_1.cells ∧ 21461 + 6 * c ≤ room_1.slots := ⟨by show 174 + c ≤ 601024; omega, by show 21461 + 6 * c ≤ 7293034; omega⟩
  obtain ⟨r, q, h1, h2, hr, hi⟩ := hs c mc mm hc hInv (xs (5 * c + 1)) (xs (5 * c + 2)) (xs (5 * c + 3)) (xs (5 * c + 4))
  refine jl_aload_n 611 C dl_611 rfl ?_
  refine jl_aload_n 612 C dl_612 rfl ?_
  refine jl_iload 613 C dl_613 rfl ?_
  refine jl_iconst 615 1 C dl_615 (by decide) ?_
  refine jl_iadd 616 C dl_616 ?_
  refine jl_sld 617 C dl_617 hX (ll_in hx4 (j := 1) rfl (by omega) hL2) ?_
  refine jl_top (ll_at hx4 (j := 1) rfl (by omega) hL2) ?_
  refine jl_aload_n 618 C dl_618 rfl ?_
  refine jl_iload 619 C dl_619 rfl ?_
  refine jl_iconst 621 2 C dl_621 (by decide) ?_
  refine jl_iadd 622 C dl_622 ?_
  refine jl_sld 623 C dl_623 hX (ll_in hx4 (j := 2) rfl (by omega) hL2) ?_
  refine jl_top (ll_at hx4 (j := 2) rfl (by omega) hL2) ?_
  refine jl_aload_n 624 C dl_624 rfl ?_
  refine jl_iload 625 C dl_625 rfl ?_
  refine jl_iconst 627 3 C dl_627 (by decide) ?_
  refine jl_iadd 628 C dl_628 ?_
  refine jl_sld 629 C dl_629 hX (ll_in hx4 (j := 3) rfl (by omega) hL2) ?_
  refine jl_top (ll_at hx4 (j := 3) rfl (by omega) hL2) ?_
  refine jl_aload_n 630 C dl_630 rfl ?_
  refine jl_iload 631 C dl_631 rfl ?_
  refine jl_iconst 633 4 C dl_633 (by decide) ?_
  refine jl_iadd 634 C dl_634 ?_
  refine jl_sld 635 C dl_635 hX (ll_in hx4 (j := 4) rfl (by omega) hL2) ?_
  refine jl_top (ll_at hx4 (j := 4) rfl (by omega) hL2) ?_
  refine jl_callV 636 [.int (xs (5 * c + 1)), .int (xs (5 * c + 2)), .int (xs (5 * c + 3)), .int (xs (5 * c + 4))] C dl_636 (lf_C hI mm v (c_AR_description (xz_l X) (jz_I_sub lz_subC hI) h1)) sz_AR_description tz_AR_description ll_79 lo_AR rfl (by decide) rfl rfl hcs (Nat.le_of_ble_eq_true rfl) rfl ?_
  refine jl_aload_n 639 C dl_639 rfl ?_
  refine jl_aload_n 640 C dl_640 rfl ?_
  refine jl_iload 641 C dl_641 rfl ?_
  refine jl_iconst 643 1 C dl_643 (by decide) ?_
  refine jl_iadd 644 C dl_644 ?_
  refine jl_sld 645 C dl_645 hX (ll_in hx4 (j := 1) rfl (by omega) hL2) ?_
  refine jl_top (ll_at hx4 (j := 1) rfl (by omega) hL2) ?_
  refine jl_aload_n 646 C dl_646 rfl ?_
  refine jl_iload 647 C dl_647 rfl ?_
  refine jl_iconst 649 2 C dl_649 (by decide) ?_
  refine jl_iadd 650 C dl_650 ?_
  refine jl_sld 651 C dl_651 hX (ll_in hx4 (j := 2) rfl (by omega) hL2) ?_
  refine jl_top (ll_at hx4 (j := 2) rfl (by omega) hL2) ?_
  refine jl_aload_n 652 C dl_652 rfl ?_
  refine jl_iload 653 C dl_653 rfl ?_
  refine jl_iconst 655 3 C dl_655 (by decide) ?_
  refine jl_iadd 656 C dl_656 ?_
  refine jl_sld 657 C dl_657 hX (ll_in hx4 (j := 3) rfl (by omega) hL2) ?_
  refine jl_top (ll_at hx4 (j := 3) rfl (by omega) hL2) ?_
  refine jl_aload_n 658 C dl_658 rfl ?_
  refine jl_iload 659 C dl_659 rfl ?_
  refine jl_iconst 661 4 C dl_661 (by decide) ?_
  refine jl_iadd 662 C dl_662 ?_
  refine jl_sld 663 C dl_663 hX (ll_in hx4 (j := 4) rfl (by omega) hL2) ?_
  refine jl_top (ll_at hx4 (j := 4) rfl (by omega) hL2) ?_
  refine jl_callV 664 [.int (xs (5 * c + 1)), .int (xs (5 * c + 2)), .int (xs (5 * c + 3)), .int (xs (5 * c + 4))] C dl_664 (lf_M hI mc v (c_Mo_description (xz_l X) (jz_I_sub lz_subM hI) h2)) sz_Mo_description tz_Mo_description ll_82 lo_Mo rfl (by decide) rfl rfl hcs (Nat.le_of_ble_eq_true rfl) rfl ?_
  refine jl_icmp_eq 667 795 C dl_667 (by decide) (fun _ => ?_) (fun qq => absurd hr qq)
  refine jl_sub [0, 1, 2, 3, 4] rfl ?_
  exact jl_widen (by omega) (by omega) (kend _ _ _ hi)
set_option maxHeartbeats 4000000 in
set_option maxRecDepth 100000 in
theorem lc_marks {X : jz_X} {Z : cz_Z} {b L : Nat} {xs : Nat → Int32} {Q : State → Prop} (C : jz_C X 7 code R_Lw (some .boolean) room_1 (lz_G Z)) (hX : jl_S X (lz_G Z) b L xs) (hI : jz_I (lz_G Z)) (hx : xz_ok (xz_s X)) (hxn : xn_ok (xz_s X)) (hl0 : (xz_l X).stackTraces = false) {I : Nat → jz_M → jz_M → Prop} (hs : sp_marks I) {c : Nat} {mc mm : jz_M} {v x4 : Int32} (hc : c < 512) (hInv : I c mc mm) (hx4 : x4 = nI (5 * c)) (hL : 5 * c + 5 ≤ L) (hL2 : L ≤ 2560) (kend : ∀ (mc2 mm2 : jz_M) (v2 : Int32), I (c + 1) mc2 mm2 → jl_J X 7 (lz_G Z) (174 + (c + 1)) (21461 + 6 * (c + 1)) Q (lm_ mc2 mm2 v2) [(0, .ref b), (1, .ref (gz_ad (lz_G Z) 0)), (2, .ref (gz_ad (lz_G Z) 152)), (3, .ref (gz_ad (lz_G Z) 173)), (4, .int x4)] 795 []) : jl_J X 7 (lz_G Z) (174 + c) (21461 + 6 * c) Q (lm_ mc mm v) [(0, .ref b), (1, .ref (gz_ad (lz_G Z) 0)), (2, .ref (gz_ad (lz_G Z) 152)), (3, .ref (gz_ad (lz_G Z) 173)), (4, .int x4)] 672 [] := by
  have hcs : 174 + c ≤ room_1.cells ∧ 21461 + 6 * c ≤ room_1.slots := ⟨by show 174 + c ≤ 601024; omega, by show 21461 + 6 * c ≤ 7293034; omega⟩
  obtain ⟨r, q, h1, h2, hr, hi⟩ := hs c mc mm hc hInv (xs (5 * c + 1)) (xs (5 * c + 2)) (xs (5 * c + 3))
  refine jl_aload_n 672 C dl_672 rfl ?_
  refine jl_aload_n 673 C dl_673 rfl ?_
  refine jl_iload 674 C dl_674 rfl ?_
  refine jl_iconst 676 1 C dl_676 (by decide) ?_
  refine jl_iadd 677 C dl_677 ?_
  refine jl_sld 678 C dl_678 hX (ll_in hx4 (j := 1) rfl (by omega) hL2) ?_
  refine jl_top (ll_at hx4 (j := 1) rfl (by omega) hL2) ?_
  refine jl_aload_n 679 C dl_679 rfl ?_
  refine jl_iload 680 C dl_680 rfl ?_
  refine jl_iconst 682 2 C dl_682 (by decide) ?_
  refine jl_iadd 683 C dl_683 ?_
  refine jl_sld 684 C dl_684 hX (ll_in hx4 (j := 2) rfl (by omega) hL2) ?_
  refine jl_top (ll_at hx4 (j := 2) rfl (by omega) hL2) ?_
  refine jl_aload_n 685 C dl_685 rfl ?_
  refine jl_iload 686 C dl_686 rfl ?_
  refine jl_iconst 688 3 C dl_688 (by decide) ?_
  refine jl_iadd 689 C dl_689 ?_
  refine jl_sld 690 C dl_690 hX (ll_in hx4 (j := 3) rfl (by omega) hL2) ?_
  refine jl_top (ll_at hx4 (j := 3) rfl (by omega) hL2) ?_
  refine jl_callV 691 [.int (xs (5 * c + 1)), .int (xs (5 * c + 2)), .int (xs (5 * c + 3))] C dl_691 (lf_C hI mm v (c_AR_marks (xz_l X) (jz_I_sub lz_subC hI) h1)) sz_AR_marks tz_AR_marks ll_83 lo_AR rfl (by decide) rfl rfl hcs (Nat.le_of_ble_eq_true rfl) rfl ?_
  refine jl_pop 694 C dl_694 rfl ?_
  refine jl_aload_n 695 C dl_695 rfl ?_
  refine jl_aload_n 696 C dl_696 rfl ?_
  refine jl_iload 697 C dl_697 rfl ?_
  refine jl_iconst 699 1 C dl_699 (by decide) ?_
  refine jl_iadd 700 C dl_700 ?_
  refine jl_sld 701 C dl_701 hX (ll_in hx4 (j := 1) rfl (by omega) hL2) ?_
  refine jl_top (ll_at hx4 (j := 1) rfl (by omega) hL2) ?_
  refine jl_aload_n 702 C dl_702 rfl ?_
  refine jl_iload 703 C dl_703 rfl ?_
  refine jl_iconst 705 2 C dl_705 (by decide) ?_
  refine jl_iadd 706 C dl_706 ?_
  refine jl_sld 707 C dl_707 hX (ll_in hx4 (j := 2) rfl (by omega) hL2) ?_
  refine jl_top (ll_at hx4 (j := 2) rfl (by omega) hL2) ?_
  refine jl_aload_n 708 C dl_708 rfl ?_
  refine jl_iload 709 C dl_709 rfl ?_
  refine jl_iconst 711 3 C dl_711 (by decide) ?_
  refine jl_iadd 712 C dl_712 ?_
  refine jl_sld 713 C dl_713 hX (ll_in hx4 (j := 3) rfl (by omega) hL2) ?_
  refine jl_top (ll_at hx4 (j := 3) rfl (by omega) hL2) ?_
  refine jl_callV 714 [.int (xs (5 * c + 1)), .int (xs (5 * c + 2)), .int (xs (5 * c + 3))] C dl_714 (lf_M hI mc v (c_Mo_marks (xz_l X) (jz_I_sub lz_subM hI) h2)) sz_Mo_marks tz_Mo_marks ll_86 lo_Mo rfl (by decide) rfl rfl hcs (Nat.le_of_ble_eq_true rfl) rfl ?_
  refine jl_pop 717 C dl_717 rfl ?_
  refine jl_goto 718 795 C dl_718 (by decide) ?_
  refine jl_sub [0, 1, 2, 3, 4] rfl ?_
  exact jl_widen (by omega) (by omega) (kend _ _ _ hi)
set_option maxHeartbeats 4000000 in
set_option maxRecDepth 100000 in
theorem lc_route {X : jz_X} {Z : cz_Z} {b L : Nat} {xs : Nat → Int32} {Q : State → Prop} (C : jz_C X 7 code R_Lw (some .boolean) room_1 (lz_G Z)) (hX : jl_S X (lz_G Z) b L xs) (hI : jz_I (lz_G Z)) (hx : xz_ok (xz_s X)) (hxn : xn_ok (xz_s X)) (hl0 : (xz_l X).stackTraces = false) {I : Nat → jz_M → jz_M → Prop} (hs : sp_route I) {c : Nat} {mc mm : jz_M} {v x4 : Int32} (hc : c < 512) (hInv : I c mc mm) (hx4 : x4 = nI (5 * c)) (hL : 5 * c + 5 ≤ L) (hL2 : L ≤ 2560) (kend : ∀ (mc2 mm2 : jz_M) (v2 : Int32), I (c + 1) mc2 mm2 → jl_J X 7 (lz_G Z) (174 + (c + 1)) (21461 + 6 * (c + 1)) Q (lm_ mc2 mm2 v2) [(0, .ref b), (1, .ref (gz_ad (lz_G Z) 0)), (2, .ref (gz_ad (lz_G Z) 152)), (3, .ref (gz_ad (lz_G Z) 173)), (4, .int x4)] 795 []) : jl_J X 7 (lz_G Z) (174 + c) (21461 + 6 * c) Q (lm_ mc mm v) [(0, .ref b), (1, .ref (gz_ad (lz_G Z) 0)), (2, .ref (gz_ad (lz_G Z) 152)), (3, .ref (gz_ad (lz_G Z) 173)), (4, .int x4)] 721 [] := by
  have hcs : 174 + c ≤ room_1.cells ∧ 21461 + 6 * c ≤ room_1.slots := ⟨by show 174 + c ≤ 601024; omega, by show 21461 + 6 * c ≤ 7293034; omega⟩
  obtain ⟨r, q, h1, h2, hr, hi⟩ := hs c mc mm hc hInv (xs (5 * c + 1)) (xs (5 * c + 2))
  refine jl_aload_n 721 C dl_721 rfl ?_
  refine jl_aload_n 722 C dl_722 rfl ?_
  refine jl_iload 723 C dl_723 rfl ?_
  refine jl_iconst 725 1 C dl_725 (by decide) ?_
  refine jl_iadd 726 C dl_726 ?_
  refine jl_sld 727 C dl_727 hX (ll_in hx4 (j := 1) rfl (by omega) hL2) ?_
  refine jl_top (ll_at hx4 (j := 1) rfl (by omega) hL2) ?_
  refine jl_aload_n 728 C dl_728 rfl ?_
  refine jl_iload 729 C dl_729 rfl ?_
  refine jl_iconst 731 2 C dl_731 (by decide) ?_
  refine jl_iadd 732 C dl_732 ?_
  refine jl_sld 733 C dl_733 hX (ll_in hx4 (j := 2) rfl (by omega) hL2) ?_
  refine jl_top (ll_at hx4 (j := 2) rfl (by omega) hL2) ?_
  refine jl_callV 734 [.int (xs (5 * c + 1)), .int (xs (5 * c + 2))] C dl_734 (lf_C hI mm v (c_AR_route (xz_l X) (jz_I_sub lz_subC hI) h1)) sz_AR_route tz_AR_route ll_87 lo_AR rfl (by decide) rfl rfl hcs (Nat.le_of_ble_eq_true rfl) rfl ?_
  refine jl_pop 737 C dl_737 rfl ?_
  refine jl_aload_n 738 C dl_738 rfl ?_
  refine jl_aload_n 739 C dl_739 rfl ?_
  refine jl_iload 740 C dl_740 rfl ?_
  refine jl_iconst 742 1 C dl_742 (by decide) ?_
  refine jl_iadd 743 C dl_743 ?_
  refine jl_sld 744 C dl_744 hX (ll_in hx4 (j := 1) rfl (by omega) hL2) ?_
  refine jl_top (ll_at hx4 (j := 1) rfl (by omega) hL2) ?_
  refine jl_aload_n 745 C dl_745 rfl ?_
  refine jl_iload 746 C dl_746 rfl ?_
  refine jl_iconst 748 2 C dl_748 (by decide) ?_
  refine jl_iadd 749 C dl_749 ?_
  refine jl_sld 750 C dl_750 hX (ll_in hx4 (j := 2) rfl (by omega) hL2) ?_
  refine jl_top (ll_at hx4 (j := 2) rfl (by omega) hL2) ?_
  refine jl_callV 751 [.int (xs (5 * c + 1)), .int (xs (5 * c + 2))] C dl_751 (lf_M hI r.2 v (c_Mo_route (xz_l X) (jz_I_sub lz_subM hI) h2)) sz_Mo_route tz_Mo_route ll_91 lo_Mo rfl (by decide) rfl rfl hcs (Nat.le_of_ble_eq_true rfl) rfl ?_
  refine jl_pop 754 C dl_754 rfl ?_
  refine jl_goto 755 795 C dl_755 (by decide) ?_
  refine jl_sub [0, 1, 2, 3, 4] rfl ?_
  exact jl_widen (by omega) (by omega) (kend _ _ _ hi)
set_option maxHeartbeats 4000000 in
set_option maxRecDepth 100000 in
theorem lc_trace {X : jz_X} {Z : cz_Z} {b L : Nat} {xs : Nat → Int32} {Q : State → Prop} (C : jz_C X 7 code R_Lw (some .boolean) room_1 (lz_G Z)) (hX : jl_S X (lz_G Z) b L xs) (hI : jz_I (lz_G Z)) (hx : xz_ok (xz_s X)) (hxn : xn_ok (xz_s X)) (hl0 : (xz_l X).stackTraces = false) {I : Nat → jz_M → jz_M → Prop} (hs : sp_trace I) {c : Nat} {mc mm : jz_M} {v x4 : Int32} (hc : c < 512) (hInv : I c mc mm) (hx4 : x4 = nI (5 * c)) (hL : 5 * c + 5 ≤ L) (hL2 : L ≤ 2560) (kend : ∀ (mc2 mm2 : jz_M) (v2 : Int32), I (c + 1) mc2 mm2 → jl_J X 7 (lz_G Z) (174 + (c + 1)) (21461 + 6 * (c + 1)) Q (lm_ mc2 mm2 v2) [(0, .ref b), (1, .ref (gz_ad (lz_G Z) 0)), (2, .ref (gz_ad (lz_G Z) 152)), (3, .ref (gz_ad (lz_G Z) 173)), (4, .int x4)] 795 []) : jl_J X 7 (lz_G Z) (174 + c) (21461 + 6 * c) Q (lm_ mc mm v) [(0, .ref b), (1, .ref (gz_ad (lz_G Z) 0)), (2, .ref (gz_ad (lz_G Z) 152)), (3, .ref (gz_ad (lz_G Z) 173)), (4, .int x4)] 758 [] := by
  have hcs : 174 + c ≤ room_1.cells ∧ 21461 + 6 * c ≤ room_1.slots := ⟨by show 174 + c ≤ 601024; omega, by show 21461 + 6 * c ≤ 7293034; omega⟩
  obtain ⟨r, q, h1, h2, hr, hi⟩ := hs c mc mm hc hInv (xs (5 * c + 1)) (xs (5 * c + 2))
  refine jl_aload_n 758 C dl_758 rfl ?_
  refine jl_aload_n 759 C dl_759 rfl ?_
  refine jl_iload 760 C dl_760 rfl ?_
  refine jl_iconst 762 1 C dl_762 (by decide) ?_
  refine jl_iadd 763 C dl_763 ?_
  refine jl_sld 764 C dl_764 hX (ll_in hx4 (j := 1) rfl (by omega) hL2) ?_
  refine jl_top (ll_at hx4 (j := 1) rfl (by omega) hL2) ?_
  refine jl_aload_n 765 C dl_765 rfl ?_
  refine jl_iload 766 C dl_766 rfl ?_
  refine jl_iconst 768 2 C dl_768 (by decide) ?_
  refine jl_iadd 769 C dl_769 ?_
  refine jl_sld 770 C dl_770 hX (ll_in hx4 (j := 2) rfl (by omega) hL2) ?_
  refine jl_top (ll_at hx4 (j := 2) rfl (by omega) hL2) ?_
  refine jl_callV 771 [.int (xs (5 * c + 1)), .int (xs (5 * c + 2))] C dl_771 (lf_C hI mm v (c_AR_trace (xz_l X) (jz_I_sub lz_subC hI) h1)) sz_AR_trace tz_AR_trace ll_92 lo_AR rfl (by decide) rfl rfl hcs (Nat.le_of_ble_eq_true rfl) rfl ?_
  refine jl_pop 774 C dl_774 rfl ?_
  refine jl_aload_n 775 C dl_775 rfl ?_
  refine jl_aload_n 776 C dl_776 rfl ?_
  refine jl_iload 777 C dl_777 rfl ?_
  refine jl_iconst 779 1 C dl_779 (by decide) ?_
  refine jl_iadd 780 C dl_780 ?_
  refine jl_sld 781 C dl_781 hX (ll_in hx4 (j := 1) rfl (by omega) hL2) ?_
  refine jl_top (ll_at hx4 (j := 1) rfl (by omega) hL2) ?_
  refine jl_aload_n 782 C dl_782 rfl ?_
  refine jl_iload 783 C dl_783 rfl ?_
  refine jl_iconst 785 2 C dl_785 (by decide) ?_
  refine jl_iadd 786 C dl_786 ?_
  refine jl_sld 787 C dl_787 hX (ll_in hx4 (j := 2) rfl (by omega) hL2) ?_
  refine jl_top (ll_at hx4 (j := 2) rfl (by omega) hL2) ?_
  refine jl_callV 788 [.int (xs (5 * c + 1)), .int (xs (5 * c + 2))] C dl_788 (lf_M hI r.2 v (c_Mo_trace (xz_l X) (jz_I_sub lz_subM hI) h2)) sz_Mo_trace tz_Mo_trace ll_95 lo_Mo rfl (by decide) rfl rfl hcs (Nat.le_of_ble_eq_true rfl) rfl ?_
  refine jl_pop 791 C dl_791 rfl ?_
  refine jl_goto 792 795 C dl_792 (by decide) ?_
  refine jl_sub [0, 1, 2, 3, 4] rfl ?_
  exact jl_widen (by omega) (by omega) (kend _ _ _ hi)
