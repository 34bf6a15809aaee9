/-! what class and reference must do at each call, and the law's walk of each case out of it -/
def sp_place (I : Nat → jz_M → jz_M → Prop) : Prop := ∀ (c : Nat) (mc mm : jz_M), c < 512 → I c mc mm → ∀ (a1 : Int32) (a2 : Int32) (a3 : Int32), ∃ r q, f_AR_place a1 a2 a3 mc = some r ∧ f_Mo_place a1 a2 a3 mm = some q ∧ r.1 = q.1 ∧ I (c + 1) r.2 q.2
def sp_attach (I : Nat → jz_M → jz_M → Prop) : Prop := ∀ (c : Nat) (mc mm : jz_M), c < 512 → I c mc mm → ∀ (a1 : Int32) (a2 : Int32) (a3 : Int32) (a4 : Int32), ∃ r q, f_AR_attach a1 a2 a3 a4 mc = some r ∧ f_Mo_attach a1 a2 a3 a4 mm = some q ∧ r.1 = q.1 ∧ I (c + 1) r.2 q.2
def sp_hello (I : Nat → jz_M → jz_M → Prop) : Prop := ∀ (c : Nat) (mc mm : jz_M), c < 512 → I c mc mm → ∀ (a1 : Int32) (a2 : Int32) (a3 : Int32), ∃ q, f_Mo_hello a1 a2 a3 mm = some q ∧ ((∃ r, f_AR_hello a1 a2 a3 mc = some r ∧ q.2 0 0 = 0 ∧ r.1 = q.1 ∧ I (c + 1) r.2 q.2) ∨ (fx_AR_checkSender a1 a2 mc = some 1 ∧ q.2 0 0 = 1 ∧ I (c + 1) mc q.2) ∨ (fx_AR_checkSender a1 a2 mc = some 2 ∧ q.2 0 0 = 2 ∧ I (c + 1) mc q.2))
def sp_spread (I : Nat → jz_M → jz_M → Prop) : Prop := ∀ (c : Nat) (mc mm : jz_M), c < 512 → I c mc mm → ∀ (a1 : Int32) (a2 : Int32) (a3 : Int32) (a4 : Int32), ∃ q, f_Mo_spread a1 a2 a3 a4 mm = some q ∧ ((∃ r, f_AR_spread a1 a2 a3 a4 mc = some r ∧ q.2 0 0 = 0 ∧ r.1 = q.1 ∧ I (c + 1) r.2 q.2) ∨ (fx_AR_checkSender a1 a2 mc = some 1 ∧ q.2 0 0 = 1 ∧ I (c + 1) mc q.2) ∨ (fx_AR_checkSender a1 a2 mc = some 2 ∧ q.2 0 0 = 2 ∧ I (c + 1) mc q.2) ∨ (f_AR_checkSender a1 a2 mc = some () ∧ fx_AR_checkLevel a1 a3 mc = some 3 ∧ q.2 0 0 = 3 ∧ I (c + 1) mc q.2))
def sp_summary (I : Nat → jz_M → jz_M → Prop) : Prop := ∀ (c : Nat) (mc mm : jz_M), c < 512 → I c mc mm → ∀ (a1 : Int32) (a2 : Int32) (a3 : Int32) (a4 : Int32), ∃ q, f_Mo_summary a1 a2 a3 a4 mm = some q ∧ ((∃ r, f_AR_summary a1 a2 a3 a4 mc = some r ∧ q.2 0 0 = 0 ∧ r.1 = q.1 ∧ I (c + 1) r.2 q.2) ∨ (fx_AR_checkSender a1 a2 mc = some 1 ∧ q.2 0 0 = 1 ∧ I (c + 1) mc q.2) ∨ (fx_AR_checkSender a1 a2 mc = some 2 ∧ q.2 0 0 = 2 ∧ I (c + 1) mc q.2) ∨ (f_AR_checkSender a1 a2 mc = some () ∧ fx_AR_checkLevel a1 a3 mc = some 3 ∧ q.2 0 0 = 3 ∧ I (c + 1) mc q.2))
def sp_request (I : Nat → jz_M → jz_M → Prop) : Prop := ∀ (c : Nat) (mc mm : jz_M), c < 512 → I c mc mm → ∀ (a1 : Int32) (a2 : Int32) (a3 : Int32) (a4 : Int32), ∃ q, f_Mo_request a1 a2 a3 a4 mm = some q ∧ ((∃ r, f_AR_request a1 a2 a3 a4 mc = some r ∧ q.2 0 0 = 0 ∧ r.1 = q.1 ∧ I (c + 1) r.2 q.2) ∨ (fx_AR_checkSender a1 a2 mc = some 1 ∧ q.2 0 0 = 1 ∧ I (c + 1) mc q.2) ∨ (fx_AR_checkSender a1 a2 mc = some 2 ∧ q.2 0 0 = 2 ∧ I (c + 1) mc q.2) ∨ (f_AR_checkSender a1 a2 mc = some () ∧ fx_AR_checkLevel a1 a3 mc = some 3 ∧ q.2 0 0 = 3 ∧ I (c + 1) mc q.2))
def sp_describe (I : Nat → jz_M → jz_M → Prop) : Prop := ∀ (c : Nat) (mc mm : jz_M), c < 512 → I c mc mm → ∀ (a1 : Int32), ∃ q, f_Mo_describe a1 mm = some q ∧ ((∃ r, f_AR_describe a1 mc = some r ∧ q.2 0 0 = 0 ∧ r.1 = q.1 ∧ I (c + 1) r.2 q.2) ∨ (fx_AR_describe a1 mc = some 1 ∧ q.2 0 0 = 1 ∧ I (c + 1) mc q.2))
def sp_tick (I : Nat → jz_M → jz_M → Prop) : Prop := ∀ (c : Nat) (mc mm : jz_M), c < 512 → I c mc mm → ∃ r q, f_AR_tick mc = some r ∧ f_Mo_tick mm = some q ∧ I (c + 1) r q
def sp_neighbour (I : Nat → jz_M → jz_M → Prop) : Prop := ∀ (c : Nat) (mc mm : jz_M), c < 512 → I c mc mm → ∀ (a1 : Int32) (a2 : Int32) (a3 : Int32) (a4 : Int32), ∃ r q, f_AR_neighbour a1 a2 a3 a4 mc = some r ∧ f_Mo_neighbour a1 a2 a3 a4 mm = some q ∧ r = q.1 ∧ I (c + 1) mc q.2
def sp_speaker (I : Nat → jz_M → jz_M → Prop) : Prop := ∀ (c : Nat) (mc mm : jz_M), c < 512 → I c mc mm → ∀ (a1 : Int32) (a2 : Int32) (a3 : Int32), ∃ r q, f_AR_speaker a1 a2 a3 mc = some r ∧ f_Mo_speaker a1 a2 a3 mm = some q ∧ r = q.1 ∧ I (c + 1) mc q.2
def sp_description (I : Nat → jz_M → jz_M → Prop) : Prop := ∀ (c : Nat) (mc mm : jz_M), c < 512 → I c mc mm → ∀ (a1 : Int32) (a2 : Int32) (a3 : Int32) (a4 : Int32), ∃ r q, f_AR_description a1 a2 a3 a4 mc = some r ∧ f_Mo_description a1 a2 a3 a4 mm = some q ∧ r = q.1 ∧ I (c + 1) mc q.2
def sp_marks (I : Nat → jz_M → jz_M → Prop) : Prop := ∀ (c : Nat) (mc mm : jz_M), c < 512 → I c mc mm → ∀ (a1 : Int32) (a2 : Int32) (a3 : Int32), ∃ r q, f_AR_marks a1 a2 a3 mc = some r ∧ f_Mo_marks a1 a2 a3 mm = some q ∧ r = q.1 ∧ I (c + 1) mc q.2
def sp_route (I : Nat → jz_M → jz_M → Prop) : Prop := ∀ (c : Nat) (mc mm : jz_M), c < 512 → I c mc mm → ∀ (a1 : Int32) (a2 : Int32), ∃ r q, f_AR_route a1 a2 mc = some r ∧ f_Mo_route a1 a2 mm = some q ∧ r.1 = q.1 ∧ I (c + 1) r.2 q.2
def sp_trace (I : Nat → jz_M → jz_M → Prop) : Prop := ∀ (c : Nat) (mc mm : jz_M), c < 512 → I c mc mm → ∀ (a1 : Int32) (a2 : Int32), ∃ r q, f_AR_trace a1 a2 mc = some r ∧ f_Mo_trace a1 a2 mm = some q ∧ r.1 = q.1 ∧ I (c + 1) r.2 q.2
theorem lo_Mo {Z : cz_Z} : iz_O (lz_G Z) 152 6 (fz_Mo (lz_M Z)) := ⟨by show (152 : Nat) < 174; decide, fun f => rfl⟩
theorem jl_widen {X : jz_X} {nL : Nat} {G : jz_G} {kc ks kc2 ks2 : Nat} {Q : State → Prop} {m : jz_M} {lv : List (Nat × Value)} {pc : Nat} {st : List Value} (h1 : kc ≤ kc2) (h2 : ks ≤ ks2) (k : jl_J X nL G kc2 ks2 Q m lv pc st) : jl_J X nL G kc ks Q m lv pc st := fun H locs ls hP hS hl => W.widen h1 h2 (k H locs ls hP hS hl)
theorem ll_in {L i j : Nat} {x4 y : Int32} (hx : x4 = nI i) (hy : y = nI j) (hL : i + j < L) (hL2 : L ≤ 2560) : vp_in (x4 + y) L := by
  rw [hx, hy, nI_add]
  exact vp_in_nI hL (by omega)
theorem ll_at {L i j : Nat} {x4 y : Int32} {xs : Nat → Int32} (hx : x4 = nI i) (hy : y = nI j) (hL : i + j < L) (hL2 : L ≤ 2560) : xs (i + j) = xs (x4 + y).toNatClampNeg := by
  rw [hx, hy, nI_add, nI_clamp (by omega)]
theorem dl_0 : decode code 0 = .ok (.new 8, 3) := by decide +kernel
theorem dl_3 : decode code 3 = .ok (.dup, 1) := by decide +kernel
theorem dl_4 : decode code 4 = .ok (.invokespecial 33, 3) := by decide +kernel
theorem dl_7 : decode code 7 = .ok (.astore_n 1, 1) := by decide +kernel
theorem dl_8 : decode code 8 = .ok (.new 34, 3) := by decide +kernel
theorem dl_11 : decode code 11 = .ok (.dup, 1) := by decide +kernel
theorem dl_12 : decode code 12 = .ok (.invokespecial 36, 3) := by decide +kernel
theorem dl_15 : decode code 15 = .ok (.astore_n 2, 1) := by decide +kernel
theorem dl_16 : decode code 16 = .ok (.iconst 1, 1) := by decide +kernel
theorem dl_17 : decode code 17 = .ok (.newarray .long, 2) := by decide +kernel
theorem dl_19 : decode code 19 = .ok (.astore_n 3, 1) := by decide +kernel
theorem dl_20 : decode code 20 = .ok (.iconst 0, 1) := by decide +kernel
theorem dl_21 : decode code 21 = .ok (.istore 4, 2) := by decide +kernel
theorem dl_23 : decode code 23 = .ok (.iload 4, 2) := by decide +kernel
theorem dl_25 : decode code 25 = .ok (.aload_n 0, 1) := by decide +kernel
theorem dl_26 : decode code 26 = .ok (.arraylength, 1) := by decide +kernel
theorem dl_27 : decode code 27 = .ok (.iconst 5, 1) := by decide +kernel
theorem dl_28 : decode code 28 = .ok (.isub, 1) := by decide +kernel
theorem dl_29 : decode code 29 = .ok (.if_icmp .gt 772, 3) := by decide +kernel
theorem dl_32 : decode code 32 = .ok (.aload_n 0, 1) := by decide +kernel
theorem dl_33 : decode code 33 = .ok (.iload 4, 2) := by decide +kernel
theorem dl_35 : decode code 35 = .ok (.iaload, 1) := by decide +kernel
theorem dl_36 : decode code 36 = .ok (.bipush 15, 2) := by decide +kernel
theorem dl_38 : decode code 38 = .ok (.iand, 1) := by decide +kernel
theorem dl_39 : decode code 39 = .ok (.tableswitch 756 0 13 #[69, 118, 179, 231, 295, 359, 423, 451, 462, 523, 572, 633, 682, 719], 69) := by decide +kernel
theorem dl_108 : decode code 108 = .ok (.aload_n 1, 1) := by decide +kernel
theorem dl_109 : decode code 109 = .ok (.aload_n 0, 1) := by decide +kernel
theorem dl_110 : decode code 110 = .ok (.iload 4, 2) := by decide +kernel
theorem dl_112 : decode code 112 = .ok (.iconst 1, 1) := by decide +kernel
theorem dl_113 : decode code 113 = .ok (.iadd, 1) := by decide +kernel
theorem dl_114 : decode code 114 = .ok (.iaload, 1) := by decide +kernel
theorem dl_115 : decode code 115 = .ok (.aload_n 0, 1) := by decide +kernel
theorem dl_116 : decode code 116 = .ok (.iload 4, 2) := by decide +kernel
theorem dl_118 : decode code 118 = .ok (.iconst 2, 1) := by decide +kernel
theorem dl_119 : decode code 119 = .ok (.iadd, 1) := by decide +kernel
theorem dl_120 : decode code 120 = .ok (.iaload, 1) := by decide +kernel
theorem dl_121 : decode code 121 = .ok (.aload_n 0, 1) := by decide +kernel
theorem dl_122 : decode code 122 = .ok (.iload 4, 2) := by decide +kernel
theorem dl_124 : decode code 124 = .ok (.iconst 3, 1) := by decide +kernel
theorem dl_125 : decode code 125 = .ok (.iadd, 1) := by decide +kernel
theorem dl_126 : decode code 126 = .ok (.iaload, 1) := by decide +kernel
theorem dl_127 : decode code 127 = .ok (.invokevirtual 37, 3) := by decide +kernel
theorem dl_130 : decode code 130 = .ok (.pop, 1) := by decide +kernel
theorem dl_131 : decode code 131 = .ok (.aload_n 2, 1) := by decide +kernel
theorem dl_132 : decode code 132 = .ok (.aload_n 0, 1) := by decide +kernel
theorem dl_133 : decode code 133 = .ok (.iload 4, 2) := by decide +kernel
theorem dl_135 : decode code 135 = .ok (.iconst 1, 1) := by decide +kernel
theorem dl_136 : decode code 136 = .ok (.iadd, 1) := by decide +kernel
theorem dl_137 : decode code 137 = .ok (.iaload, 1) := by decide +kernel
theorem dl_138 : decode code 138 = .ok (.aload_n 0, 1) := by decide +kernel
theorem dl_139 : decode code 139 = .ok (.iload 4, 2) := by decide +kernel
theorem dl_141 : decode code 141 = .ok (.iconst 2, 1) := by decide +kernel
theorem dl_142 : decode code 142 = .ok (.iadd, 1) := by decide +kernel
theorem dl_143 : decode code 143 = .ok (.iaload, 1) := by decide +kernel
theorem dl_144 : decode code 144 = .ok (.aload_n 0, 1) := by decide +kernel
theorem dl_145 : decode code 145 = .ok (.iload 4, 2) := by decide +kernel
theorem dl_147 : decode code 147 = .ok (.iconst 3, 1) := by decide +kernel
theorem dl_148 : decode code 148 = .ok (.iadd, 1) := by decide +kernel
theorem dl_149 : decode code 149 = .ok (.iaload, 1) := by decide +kernel
theorem dl_150 : decode code 150 = .ok (.invokevirtual 41, 3) := by decide +kernel
theorem dl_153 : decode code 153 = .ok (.pop, 1) := by decide +kernel
theorem dl_154 : decode code 154 = .ok (.goto 641, 3) := by decide +kernel
theorem dl_157 : decode code 157 = .ok (.aload_n 1, 1) := by decide +kernel
theorem dl_158 : decode code 158 = .ok (.aload_n 0, 1) := by decide +kernel
theorem dl_159 : decode code 159 = .ok (.iload 4, 2) := by decide +kernel
theorem dl_161 : decode code 161 = .ok (.iconst 1, 1) := by decide +kernel
theorem dl_162 : decode code 162 = .ok (.iadd, 1) := by decide +kernel
theorem dl_163 : decode code 163 = .ok (.iaload, 1) := by decide +kernel
theorem dl_164 : decode code 164 = .ok (.aload_n 0, 1) := by decide +kernel
theorem dl_165 : decode code 165 = .ok (.iload 4, 2) := by decide +kernel
theorem dl_167 : decode code 167 = .ok (.iconst 2, 1) := by decide +kernel
theorem dl_168 : decode code 168 = .ok (.iadd, 1) := by decide +kernel
theorem dl_169 : decode code 169 = .ok (.iaload, 1) := by decide +kernel
theorem dl_170 : decode code 170 = .ok (.aload_n 0, 1) := by decide +kernel
theorem dl_171 : decode code 171 = .ok (.iload 4, 2) := by decide +kernel
theorem dl_173 : decode code 173 = .ok (.iconst 3, 1) := by decide +kernel
theorem dl_174 : decode code 174 = .ok (.iadd, 1) := by decide +kernel
theorem dl_175 : decode code 175 = .ok (.iaload, 1) := by decide +kernel
theorem dl_176 : decode code 176 = .ok (.aload_n 0, 1) := by decide +kernel
theorem dl_177 : decode code 177 = .ok (.iload 4, 2) := by decide +kernel
theorem dl_179 : decode code 179 = .ok (.iconst 4, 1) := by decide +kernel
theorem dl_180 : decode code 180 = .ok (.iadd, 1) := by decide +kernel
theorem dl_181 : decode code 181 = .ok (.iaload, 1) := by decide +kernel
theorem dl_182 : decode code 182 = .ok (.invokevirtual 42, 3) := by decide +kernel
theorem dl_185 : decode code 185 = .ok (.pop, 1) := by decide +kernel
theorem dl_186 : decode code 186 = .ok (.aload_n 2, 1) := by decide +kernel
theorem dl_187 : decode code 187 = .ok (.aload_n 0, 1) := by decide +kernel
theorem dl_188 : decode code 188 = .ok (.iload 4, 2) := by decide +kernel
theorem dl_190 : decode code 190 = .ok (.iconst 1, 1) := by decide +kernel
theorem dl_191 : decode code 191 = .ok (.iadd, 1) := by decide +kernel
theorem dl_192 : decode code 192 = .ok (.iaload, 1) := by decide +kernel
theorem dl_193 : decode code 193 = .ok (.aload_n 0, 1) := by decide +kernel
theorem dl_194 : decode code 194 = .ok (.iload 4, 2) := by decide +kernel
theorem dl_196 : decode code 196 = .ok (.iconst 2, 1) := by decide +kernel
theorem dl_197 : decode code 197 = .ok (.iadd, 1) := by decide +kernel
theorem dl_198 : decode code 198 = .ok (.iaload, 1) := by decide +kernel
theorem dl_199 : decode code 199 = .ok (.aload_n 0, 1) := by decide +kernel
theorem dl_200 : decode code 200 = .ok (.iload 4, 2) := by decide +kernel
theorem dl_202 : decode code 202 = .ok (.iconst 3, 1) := by decide +kernel
theorem dl_203 : decode code 203 = .ok (.iadd, 1) := by decide +kernel
theorem dl_204 : decode code 204 = .ok (.iaload, 1) := by decide +kernel
theorem dl_205 : decode code 205 = .ok (.aload_n 0, 1) := by decide +kernel
theorem dl_206 : decode code 206 = .ok (.iload 4, 2) := by decide +kernel
theorem dl_208 : decode code 208 = .ok (.iconst 4, 1) := by decide +kernel
theorem dl_209 : decode code 209 = .ok (.iadd, 1) := by decide +kernel
theorem dl_210 : decode code 210 = .ok (.iaload, 1) := by decide +kernel
theorem dl_211 : decode code 211 = .ok (.invokevirtual 46, 3) := by decide +kernel
theorem dl_214 : decode code 214 = .ok (.pop, 1) := by decide +kernel
theorem dl_215 : decode code 215 = .ok (.goto 580, 3) := by decide +kernel
theorem dl_218 : decode code 218 = .ok (.aload_n 1, 1) := by decide +kernel
theorem dl_219 : decode code 219 = .ok (.aload_n 0, 1) := by decide +kernel
theorem dl_220 : decode code 220 = .ok (.iload 4, 2) := by decide +kernel
theorem dl_222 : decode code 222 = .ok (.iconst 1, 1) := by decide +kernel
theorem dl_223 : decode code 223 = .ok (.iadd, 1) := by decide +kernel
theorem dl_224 : decode code 224 = .ok (.iaload, 1) := by decide +kernel
theorem dl_225 : decode code 225 = .ok (.aload_n 0, 1) := by decide +kernel
theorem dl_226 : decode code 226 = .ok (.iload 4, 2) := by decide +kernel
theorem dl_228 : decode code 228 = .ok (.iconst 2, 1) := by decide +kernel
theorem dl_229 : decode code 229 = .ok (.iadd, 1) := by decide +kernel
theorem dl_230 : decode code 230 = .ok (.iaload, 1) := by decide +kernel
theorem dl_231 : decode code 231 = .ok (.aload_n 0, 1) := by decide +kernel
theorem dl_232 : decode code 232 = .ok (.iload 4, 2) := by decide +kernel
theorem dl_234 : decode code 234 = .ok (.iconst 3, 1) := by decide +kernel
theorem dl_235 : decode code 235 = .ok (.iadd, 1) := by decide +kernel
theorem dl_236 : decode code 236 = .ok (.iaload, 1) := by decide +kernel
theorem dl_237 : decode code 237 = .ok (.aload_n 3, 1) := by decide +kernel
theorem dl_238 : decode code 238 = .ok (.invokestatic 47, 3) := by decide +kernel
theorem dl_241 : decode code 241 = .ok (.istore 5, 2) := by decide +kernel
theorem dl_243 : decode code 243 = .ok (.aload_n 2, 1) := by decide +kernel
theorem dl_244 : decode code 244 = .ok (.aload_n 0, 1) := by decide +kernel
theorem dl_245 : decode code 245 = .ok (.iload 4, 2) := by decide +kernel
theorem dl_247 : decode code 247 = .ok (.iconst 1, 1) := by decide +kernel
theorem dl_248 : decode code 248 = .ok (.iadd, 1) := by decide +kernel
theorem dl_249 : decode code 249 = .ok (.iaload, 1) := by decide +kernel
theorem dl_250 : decode code 250 = .ok (.aload_n 0, 1) := by decide +kernel
theorem dl_251 : decode code 251 = .ok (.iload 4, 2) := by decide +kernel
theorem dl_253 : decode code 253 = .ok (.iconst 2, 1) := by decide +kernel
theorem dl_254 : decode code 254 = .ok (.iadd, 1) := by decide +kernel
theorem dl_255 : decode code 255 = .ok (.iaload, 1) := by decide +kernel
theorem dl_256 : decode code 256 = .ok (.aload_n 0, 1) := by decide +kernel
theorem dl_257 : decode code 257 = .ok (.iload 4, 2) := by decide +kernel
theorem dl_259 : decode code 259 = .ok (.iconst 3, 1) := by decide +kernel
theorem dl_260 : decode code 260 = .ok (.iadd, 1) := by decide +kernel
theorem dl_261 : decode code 261 = .ok (.iaload, 1) := by decide +kernel
theorem dl_262 : decode code 262 = .ok (.invokevirtual 52, 3) := by decide +kernel
theorem dl_265 : decode code 265 = .ok (.istore 6, 2) := by decide +kernel
theorem dl_267 : decode code 267 = .ok (.goto 528, 3) := by decide +kernel
theorem dl_270 : decode code 270 = .ok (.aload_n 1, 1) := by decide +kernel
theorem dl_271 : decode code 271 = .ok (.aload_n 0, 1) := by decide +kernel
theorem dl_272 : decode code 272 = .ok (.iload 4, 2) := by decide +kernel
theorem dl_274 : decode code 274 = .ok (.iconst 1, 1) := by decide +kernel
theorem dl_275 : decode code 275 = .ok (.iadd, 1) := by decide +kernel
theorem dl_276 : decode code 276 = .ok (.iaload, 1) := by decide +kernel
theorem dl_277 : decode code 277 = .ok (.aload_n 0, 1) := by decide +kernel
theorem dl_278 : decode code 278 = .ok (.iload 4, 2) := by decide +kernel
theorem dl_280 : decode code 280 = .ok (.iconst 2, 1) := by decide +kernel
theorem dl_281 : decode code 281 = .ok (.iadd, 1) := by decide +kernel
theorem dl_282 : decode code 282 = .ok (.iaload, 1) := by decide +kernel
theorem dl_283 : decode code 283 = .ok (.aload_n 0, 1) := by decide +kernel
theorem dl_284 : decode code 284 = .ok (.iload 4, 2) := by decide +kernel
theorem dl_286 : decode code 286 = .ok (.iconst 3, 1) := by decide +kernel
theorem dl_287 : decode code 287 = .ok (.iadd, 1) := by decide +kernel
theorem dl_288 : decode code 288 = .ok (.iaload, 1) := by decide +kernel
theorem dl_289 : decode code 289 = .ok (.aload_n 0, 1) := by decide +kernel
theorem dl_290 : decode code 290 = .ok (.iload 4, 2) := by decide +kernel
theorem dl_292 : decode code 292 = .ok (.iconst 4, 1) := by decide +kernel
theorem dl_293 : decode code 293 = .ok (.iadd, 1) := by decide +kernel
theorem dl_294 : decode code 294 = .ok (.iaload, 1) := by decide +kernel
theorem dl_295 : decode code 295 = .ok (.aload_n 3, 1) := by decide +kernel
theorem dl_296 : decode code 296 = .ok (.invokestatic 53, 3) := by decide +kernel
theorem dl_299 : decode code 299 = .ok (.istore 5, 2) := by decide +kernel
theorem dl_301 : decode code 301 = .ok (.aload_n 2, 1) := by decide +kernel
theorem dl_302 : decode code 302 = .ok (.aload_n 0, 1) := by decide +kernel
theorem dl_303 : decode code 303 = .ok (.iload 4, 2) := by decide +kernel
theorem dl_305 : decode code 305 = .ok (.iconst 1, 1) := by decide +kernel
theorem dl_306 : decode code 306 = .ok (.iadd, 1) := by decide +kernel
theorem dl_307 : decode code 307 = .ok (.iaload, 1) := by decide +kernel
theorem dl_308 : decode code 308 = .ok (.aload_n 0, 1) := by decide +kernel
theorem dl_309 : decode code 309 = .ok (.iload 4, 2) := by decide +kernel
theorem dl_311 : decode code 311 = .ok (.iconst 2, 1) := by decide +kernel
theorem dl_312 : decode code 312 = .ok (.iadd, 1) := by decide +kernel
theorem dl_313 : decode code 313 = .ok (.iaload, 1) := by decide +kernel
theorem dl_314 : decode code 314 = .ok (.aload_n 0, 1) := by decide +kernel
theorem dl_315 : decode code 315 = .ok (.iload 4, 2) := by decide +kernel
theorem dl_317 : decode code 317 = .ok (.iconst 3, 1) := by decide +kernel
theorem dl_318 : decode code 318 = .ok (.iadd, 1) := by decide +kernel
theorem dl_319 : decode code 319 = .ok (.iaload, 1) := by decide +kernel
theorem dl_320 : decode code 320 = .ok (.aload_n 0, 1) := by decide +kernel
theorem dl_321 : decode code 321 = .ok (.iload 4, 2) := by decide +kernel
theorem dl_323 : decode code 323 = .ok (.iconst 4, 1) := by decide +kernel
theorem dl_324 : decode code 324 = .ok (.iadd, 1) := by decide +kernel
theorem dl_325 : decode code 325 = .ok (.iaload, 1) := by decide +kernel
theorem dl_326 : decode code 326 = .ok (.invokevirtual 56, 3) := by decide +kernel
theorem dl_329 : decode code 329 = .ok (.istore 6, 2) := by decide +kernel
theorem dl_331 : decode code 331 = .ok (.goto 464, 3) := by decide +kernel
theorem dl_334 : decode code 334 = .ok (.aload_n 1, 1) := by decide +kernel
theorem dl_335 : decode code 335 = .ok (.aload_n 0, 1) := by decide +kernel
theorem dl_336 : decode code 336 = .ok (.iload 4, 2) := by decide +kernel
theorem dl_338 : decode code 338 = .ok (.iconst 1, 1) := by decide +kernel
theorem dl_339 : decode code 339 = .ok (.iadd, 1) := by decide +kernel
theorem dl_340 : decode code 340 = .ok (.iaload, 1) := by decide +kernel
theorem dl_341 : decode code 341 = .ok (.aload_n 0, 1) := by decide +kernel
theorem dl_342 : decode code 342 = .ok (.iload 4, 2) := by decide +kernel
theorem dl_344 : decode code 344 = .ok (.iconst 2, 1) := by decide +kernel
theorem dl_345 : decode code 345 = .ok (.iadd, 1) := by decide +kernel
theorem dl_346 : decode code 346 = .ok (.iaload, 1) := by decide +kernel
theorem dl_347 : decode code 347 = .ok (.aload_n 0, 1) := by decide +kernel
theorem dl_348 : decode code 348 = .ok (.iload 4, 2) := by decide +kernel
theorem dl_350 : decode code 350 = .ok (.iconst 3, 1) := by decide +kernel
theorem dl_351 : decode code 351 = .ok (.iadd, 1) := by decide +kernel
theorem dl_352 : decode code 352 = .ok (.iaload, 1) := by decide +kernel
theorem dl_353 : decode code 353 = .ok (.aload_n 0, 1) := by decide +kernel
theorem dl_354 : decode code 354 = .ok (.iload 4, 2) := by decide +kernel
theorem dl_356 : decode code 356 = .ok (.iconst 4, 1) := by decide +kernel
theorem dl_357 : decode code 357 = .ok (.iadd, 1) := by decide +kernel
theorem dl_358 : decode code 358 = .ok (.iaload, 1) := by decide +kernel
theorem dl_359 : decode code 359 = .ok (.aload_n 3, 1) := by decide +kernel
theorem dl_360 : decode code 360 = .ok (.invokestatic 57, 3) := by decide +kernel
theorem dl_363 : decode code 363 = .ok (.istore 5, 2) := by decide +kernel
theorem dl_365 : decode code 365 = .ok (.aload_n 2, 1) := by decide +kernel
theorem dl_366 : decode code 366 = .ok (.aload_n 0, 1) := by decide +kernel
theorem dl_367 : decode code 367 = .ok (.iload 4, 2) := by decide +kernel
theorem dl_369 : decode code 369 = .ok (.iconst 1, 1) := by decide +kernel
theorem dl_370 : decode code 370 = .ok (.iadd, 1) := by decide +kernel
theorem dl_371 : decode code 371 = .ok (.iaload, 1) := by decide +kernel
theorem dl_372 : decode code 372 = .ok (.aload_n 0, 1) := by decide +kernel
theorem dl_373 : decode code 373 = .ok (.iload 4, 2) := by decide +kernel
theorem dl_375 : decode code 375 = .ok (.iconst 2, 1) := by decide +kernel
theorem dl_376 : decode code 376 = .ok (.iadd, 1) := by decide +kernel
theorem dl_377 : decode code 377 = .ok (.iaload, 1) := by decide +kernel
theorem dl_378 : decode code 378 = .ok (.aload_n 0, 1) := by decide +kernel
theorem dl_379 : decode code 379 = .ok (.iload 4, 2) := by decide +kernel
theorem dl_381 : decode code 381 = .ok (.iconst 3, 1) := by decide +kernel
theorem dl_382 : decode code 382 = .ok (.iadd, 1) := by decide +kernel
theorem dl_383 : decode code 383 = .ok (.iaload, 1) := by decide +kernel
theorem dl_384 : decode code 384 = .ok (.aload_n 0, 1) := by decide +kernel
theorem dl_385 : decode code 385 = .ok (.iload 4, 2) := by decide +kernel
theorem dl_387 : decode code 387 = .ok (.iconst 4, 1) := by decide +kernel
theorem dl_388 : decode code 388 = .ok (.iadd, 1) := by decide +kernel
theorem dl_389 : decode code 389 = .ok (.iaload, 1) := by decide +kernel
theorem dl_390 : decode code 390 = .ok (.invokevirtual 59, 3) := by decide +kernel
theorem dl_393 : decode code 393 = .ok (.istore 6, 2) := by decide +kernel
theorem dl_395 : decode code 395 = .ok (.goto 400, 3) := by decide +kernel
theorem dl_398 : decode code 398 = .ok (.aload_n 1, 1) := by decide +kernel
theorem dl_399 : decode code 399 = .ok (.aload_n 0, 1) := by decide +kernel
theorem dl_400 : decode code 400 = .ok (.iload 4, 2) := by decide +kernel
theorem dl_402 : decode code 402 = .ok (.iconst 1, 1) := by decide +kernel
theorem dl_403 : decode code 403 = .ok (.iadd, 1) := by decide +kernel
theorem dl_404 : decode code 404 = .ok (.iaload, 1) := by decide +kernel
theorem dl_405 : decode code 405 = .ok (.aload_n 0, 1) := by decide +kernel
theorem dl_406 : decode code 406 = .ok (.iload 4, 2) := by decide +kernel
theorem dl_408 : decode code 408 = .ok (.iconst 2, 1) := by decide +kernel
theorem dl_409 : decode code 409 = .ok (.iadd, 1) := by decide +kernel
theorem dl_410 : decode code 410 = .ok (.iaload, 1) := by decide +kernel
theorem dl_411 : decode code 411 = .ok (.aload_n 0, 1) := by decide +kernel
theorem dl_412 : decode code 412 = .ok (.iload 4, 2) := by decide +kernel
theorem dl_414 : decode code 414 = .ok (.iconst 3, 1) := by decide +kernel
theorem dl_415 : decode code 415 = .ok (.iadd, 1) := by decide +kernel
theorem dl_416 : decode code 416 = .ok (.iaload, 1) := by decide +kernel
theorem dl_417 : decode code 417 = .ok (.aload_n 0, 1) := by decide +kernel
theorem dl_418 : decode code 418 = .ok (.iload 4, 2) := by decide +kernel
theorem dl_420 : decode code 420 = .ok (.iconst 4, 1) := by decide +kernel
theorem dl_421 : decode code 421 = .ok (.iadd, 1) := by decide +kernel
theorem dl_422 : decode code 422 = .ok (.iaload, 1) := by decide +kernel
theorem dl_423 : decode code 423 = .ok (.aload_n 3, 1) := by decide +kernel
theorem dl_424 : decode code 424 = .ok (.invokestatic 60, 3) := by decide +kernel
theorem dl_427 : decode code 427 = .ok (.istore 5, 2) := by decide +kernel
theorem dl_429 : decode code 429 = .ok (.aload_n 2, 1) := by decide +kernel
theorem dl_430 : decode code 430 = .ok (.aload_n 0, 1) := by decide +kernel
theorem dl_431 : decode code 431 = .ok (.iload 4, 2) := by decide +kernel
theorem dl_433 : decode code 433 = .ok (.iconst 1, 1) := by decide +kernel
theorem dl_434 : decode code 434 = .ok (.iadd, 1) := by decide +kernel
theorem dl_435 : decode code 435 = .ok (.iaload, 1) := by decide +kernel
theorem dl_436 : decode code 436 = .ok (.aload_n 0, 1) := by decide +kernel
theorem dl_437 : decode code 437 = .ok (.iload 4, 2) := by decide +kernel
theorem dl_439 : decode code 439 = .ok (.iconst 2, 1) := by decide +kernel
theorem dl_440 : decode code 440 = .ok (.iadd, 1) := by decide +kernel
theorem dl_441 : decode code 441 = .ok (.iaload, 1) := by decide +kernel
theorem dl_442 : decode code 442 = .ok (.aload_n 0, 1) := by decide +kernel
theorem dl_443 : decode code 443 = .ok (.iload 4, 2) := by decide +kernel
theorem dl_445 : decode code 445 = .ok (.iconst 3, 1) := by decide +kernel
theorem dl_446 : decode code 446 = .ok (.iadd, 1) := by decide +kernel
theorem dl_447 : decode code 447 = .ok (.iaload, 1) := by decide +kernel
theorem dl_448 : decode code 448 = .ok (.aload_n 0, 1) := by decide +kernel
theorem dl_449 : decode code 449 = .ok (.iload 4, 2) := by decide +kernel
theorem dl_451 : decode code 451 = .ok (.iconst 4, 1) := by decide +kernel
theorem dl_452 : decode code 452 = .ok (.iadd, 1) := by decide +kernel
theorem dl_453 : decode code 453 = .ok (.iaload, 1) := by decide +kernel
theorem dl_454 : decode code 454 = .ok (.invokevirtual 62, 3) := by decide +kernel
theorem dl_457 : decode code 457 = .ok (.istore 6, 2) := by decide +kernel
theorem dl_459 : decode code 459 = .ok (.goto 336, 3) := by decide +kernel
theorem dl_462 : decode code 462 = .ok (.aload_n 1, 1) := by decide +kernel
theorem dl_463 : decode code 463 = .ok (.aload_n 0, 1) := by decide +kernel
theorem dl_464 : decode code 464 = .ok (.iload 4, 2) := by decide +kernel
theorem dl_466 : decode code 466 = .ok (.iconst 1, 1) := by decide +kernel
theorem dl_467 : decode code 467 = .ok (.iadd, 1) := by decide +kernel
theorem dl_468 : decode code 468 = .ok (.iaload, 1) := by decide +kernel
theorem dl_469 : decode code 469 = .ok (.aload_n 3, 1) := by decide +kernel
theorem dl_470 : decode code 470 = .ok (.invokestatic 63, 3) := by decide +kernel
theorem dl_473 : decode code 473 = .ok (.istore 5, 2) := by decide +kernel
theorem dl_475 : decode code 475 = .ok (.aload_n 2, 1) := by decide +kernel
theorem dl_476 : decode code 476 = .ok (.aload_n 0, 1) := by decide +kernel
theorem dl_477 : decode code 477 = .ok (.iload 4, 2) := by decide +kernel
theorem dl_479 : decode code 479 = .ok (.iconst 1, 1) := by decide +kernel
theorem dl_480 : decode code 480 = .ok (.iadd, 1) := by decide +kernel
theorem dl_481 : decode code 481 = .ok (.iaload, 1) := by decide +kernel
theorem dl_482 : decode code 482 = .ok (.invokevirtual 66, 3) := by decide +kernel
theorem dl_485 : decode code 485 = .ok (.istore 6, 2) := by decide +kernel
theorem dl_487 : decode code 487 = .ok (.goto 308, 3) := by decide +kernel
theorem dl_490 : decode code 490 = .ok (.aload_n 1, 1) := by decide +kernel
theorem dl_491 : decode code 491 = .ok (.invokevirtual 67, 3) := by decide +kernel
theorem dl_494 : decode code 494 = .ok (.aload_n 2, 1) := by decide +kernel
theorem dl_495 : decode code 495 = .ok (.invokevirtual 70, 3) := by decide +kernel
theorem dl_498 : decode code 498 = .ok (.goto 297, 3) := by decide +kernel
theorem dl_501 : decode code 501 = .ok (.aload_n 1, 1) := by decide +kernel
theorem dl_502 : decode code 502 = .ok (.aload_n 0, 1) := by decide +kernel
theorem dl_503 : decode code 503 = .ok (.iload 4, 2) := by decide +kernel
theorem dl_505 : decode code 505 = .ok (.iconst 1, 1) := by decide +kernel
theorem dl_506 : decode code 506 = .ok (.iadd, 1) := by decide +kernel
theorem dl_507 : decode code 507 = .ok (.iaload, 1) := by decide +kernel
theorem dl_508 : decode code 508 = .ok (.aload_n 0, 1) := by decide +kernel
theorem dl_509 : decode code 509 = .ok (.iload 4, 2) := by decide +kernel
theorem dl_511 : decode code 511 = .ok (.iconst 2, 1) := by decide +kernel
theorem dl_512 : decode code 512 = .ok (.iadd, 1) := by decide +kernel
theorem dl_513 : decode code 513 = .ok (.iaload, 1) := by decide +kernel
theorem dl_514 : decode code 514 = .ok (.aload_n 0, 1) := by decide +kernel
theorem dl_515 : decode code 515 = .ok (.iload 4, 2) := by decide +kernel
theorem dl_517 : decode code 517 = .ok (.iconst 3, 1) := by decide +kernel
theorem dl_518 : decode code 518 = .ok (.iadd, 1) := by decide +kernel
theorem dl_519 : decode code 519 = .ok (.iaload, 1) := by decide +kernel
theorem dl_520 : decode code 520 = .ok (.aload_n 0, 1) := by decide +kernel
theorem dl_521 : decode code 521 = .ok (.iload 4, 2) := by decide +kernel
theorem dl_523 : decode code 523 = .ok (.iconst 4, 1) := by decide +kernel
theorem dl_524 : decode code 524 = .ok (.iadd, 1) := by decide +kernel
theorem dl_525 : decode code 525 = .ok (.iaload, 1) := by decide +kernel
theorem dl_526 : decode code 526 = .ok (.invokevirtual 71, 3) := by decide +kernel
theorem dl_529 : decode code 529 = .ok (.pop, 1) := by decide +kernel
theorem dl_530 : decode code 530 = .ok (.aload_n 2, 1) := by decide +kernel
theorem dl_531 : decode code 531 = .ok (.aload_n 0, 1) := by decide +kernel
theorem dl_532 : decode code 532 = .ok (.iload 4, 2) := by decide +kernel
theorem dl_534 : decode code 534 = .ok (.iconst 1, 1) := by decide +kernel
theorem dl_535 : decode code 535 = .ok (.iadd, 1) := by decide +kernel
theorem dl_536 : decode code 536 = .ok (.iaload, 1) := by decide +kernel
theorem dl_537 : decode code 537 = .ok (.aload_n 0, 1) := by decide +kernel
theorem dl_538 : decode code 538 = .ok (.iload 4, 2) := by decide +kernel
theorem dl_540 : decode code 540 = .ok (.iconst 2, 1) := by decide +kernel
theorem dl_541 : decode code 541 = .ok (.iadd, 1) := by decide +kernel
theorem dl_542 : decode code 542 = .ok (.iaload, 1) := by decide +kernel
theorem dl_543 : decode code 543 = .ok (.aload_n 0, 1) := by decide +kernel
theorem dl_544 : decode code 544 = .ok (.iload 4, 2) := by decide +kernel
theorem dl_546 : decode code 546 = .ok (.iconst 3, 1) := by decide +kernel
theorem dl_547 : decode code 547 = .ok (.iadd, 1) := by decide +kernel
theorem dl_548 : decode code 548 = .ok (.iaload, 1) := by decide +kernel
theorem dl_549 : decode code 549 = .ok (.aload_n 0, 1) := by decide +kernel
theorem dl_550 : decode code 550 = .ok (.iload 4, 2) := by decide +kernel
theorem dl_552 : decode code 552 = .ok (.iconst 4, 1) := by decide +kernel
theorem dl_553 : decode code 553 = .ok (.iadd, 1) := by decide +kernel
theorem dl_554 : decode code 554 = .ok (.iaload, 1) := by decide +kernel
theorem dl_555 : decode code 555 = .ok (.invokevirtual 74, 3) := by decide +kernel
theorem dl_558 : decode code 558 = .ok (.pop, 1) := by decide +kernel
theorem dl_559 : decode code 559 = .ok (.goto 236, 3) := by decide +kernel
theorem dl_562 : decode code 562 = .ok (.aload_n 1, 1) := by decide +kernel
theorem dl_563 : decode code 563 = .ok (.aload_n 0, 1) := by decide +kernel
theorem dl_564 : decode code 564 = .ok (.iload 4, 2) := by decide +kernel
theorem dl_566 : decode code 566 = .ok (.iconst 1, 1) := by decide +kernel
theorem dl_567 : decode code 567 = .ok (.iadd, 1) := by decide +kernel
theorem dl_568 : decode code 568 = .ok (.iaload, 1) := by decide +kernel
theorem dl_569 : decode code 569 = .ok (.aload_n 0, 1) := by decide +kernel
theorem dl_570 : decode code 570 = .ok (.iload 4, 2) := by decide +kernel
theorem dl_572 : decode code 572 = .ok (.iconst 2, 1) := by decide +kernel
theorem dl_573 : decode code 573 = .ok (.iadd, 1) := by decide +kernel
theorem dl_574 : decode code 574 = .ok (.iaload, 1) := by decide +kernel
theorem dl_575 : decode code 575 = .ok (.aload_n 0, 1) := by decide +kernel
theorem dl_576 : decode code 576 = .ok (.iload 4, 2) := by decide +kernel
theorem dl_578 : decode code 578 = .ok (.iconst 3, 1) := by decide +kernel
theorem dl_579 : decode code 579 = .ok (.iadd, 1) := by decide +kernel
theorem dl_580 : decode code 580 = .ok (.iaload, 1) := by decide +kernel
theorem dl_581 : decode code 581 = .ok (.invokevirtual 75, 3) := by decide +kernel
theorem dl_584 : decode code 584 = .ok (.pop, 1) := by decide +kernel
theorem dl_585 : decode code 585 = .ok (.aload_n 2, 1) := by decide +kernel
theorem dl_586 : decode code 586 = .ok (.aload_n 0, 1) := by decide +kernel
theorem dl_587 : decode code 587 = .ok (.iload 4, 2) := by decide +kernel
theorem dl_589 : decode code 589 = .ok (.iconst 1, 1) := by decide +kernel
theorem dl_590 : decode code 590 = .ok (.iadd, 1) := by decide +kernel
theorem dl_591 : decode code 591 = .ok (.iaload, 1) := by decide +kernel
theorem dl_592 : decode code 592 = .ok (.aload_n 0, 1) := by decide +kernel
theorem dl_593 : decode code 593 = .ok (.iload 4, 2) := by decide +kernel
theorem dl_595 : decode code 595 = .ok (.iconst 2, 1) := by decide +kernel
theorem dl_596 : decode code 596 = .ok (.iadd, 1) := by decide +kernel
theorem dl_597 : decode code 597 = .ok (.iaload, 1) := by decide +kernel
theorem dl_598 : decode code 598 = .ok (.aload_n 0, 1) := by decide +kernel
theorem dl_599 : decode code 599 = .ok (.iload 4, 2) := by decide +kernel
theorem dl_601 : decode code 601 = .ok (.iconst 3, 1) := by decide +kernel
theorem dl_602 : decode code 602 = .ok (.iadd, 1) := by decide +kernel
theorem dl_603 : decode code 603 = .ok (.iaload, 1) := by decide +kernel
theorem dl_604 : decode code 604 = .ok (.invokevirtual 78, 3) := by decide +kernel
theorem dl_607 : decode code 607 = .ok (.pop, 1) := by decide +kernel
theorem dl_608 : decode code 608 = .ok (.goto 187, 3) := by decide +kernel
theorem dl_611 : decode code 611 = .ok (.aload_n 1, 1) := by decide +kernel
theorem dl_612 : decode code 612 = .ok (.aload_n 0, 1) := by decide +kernel
theorem dl_613 : decode code 613 = .ok (.iload 4, 2) := by decide +kernel
theorem dl_615 : decode code 615 = .ok (.iconst 1, 1) := by decide +kernel
theorem dl_616 : decode code 616 = .ok (.iadd, 1) := by decide +kernel
theorem dl_617 : decode code 617 = .ok (.iaload, 1) := by decide +kernel
theorem dl_618 : decode code 618 = .ok (.aload_n 0, 1) := by decide +kernel
theorem dl_619 : decode code 619 = .ok (.iload 4, 2) := by decide +kernel
theorem dl_621 : decode code 621 = .ok (.iconst 2, 1) := by decide +kernel
theorem dl_622 : decode code 622 = .ok (.iadd, 1) := by decide +kernel
theorem dl_623 : decode code 623 = .ok (.iaload, 1) := by decide +kernel
theorem dl_624 : decode code 624 = .ok (.aload_n 0, 1) := by decide +kernel
theorem dl_625 : decode code 625 = .ok (.iload 4, 2) := by decide +kernel
theorem dl_627 : decode code 627 = .ok (.iconst 3, 1) := by decide +kernel
theorem dl_628 : decode code 628 = .ok (.iadd, 1) := by decide +kernel
theorem dl_629 : decode code 629 = .ok (.iaload, 1) := by decide +kernel
theorem dl_630 : decode code 630 = .ok (.aload_n 0, 1) := by decide +kernel
theorem dl_631 : decode code 631 = .ok (.iload 4, 2) := by decide +kernel
theorem dl_633 : decode code 633 = .ok (.iconst 4, 1) := by decide +kernel
theorem dl_634 : decode code 634 = .ok (.iadd, 1) := by decide +kernel
theorem dl_635 : decode code 635 = .ok (.iaload, 1) := by decide +kernel
theorem dl_636 : decode code 636 = .ok (.invokevirtual 79, 3) := by decide +kernel
theorem dl_639 : decode code 639 = .ok (.aload_n 2, 1) := by decide +kernel
theorem dl_640 : decode code 640 = .ok (.aload_n 0, 1) := by decide +kernel
theorem dl_641 : decode code 641 = .ok (.iload 4, 2) := by decide +kernel
theorem dl_643 : decode code 643 = .ok (.iconst 1, 1) := by decide +kernel
theorem dl_644 : decode code 644 = .ok (.iadd, 1) := by decide +kernel
theorem dl_645 : decode code 645 = .ok (.iaload, 1) := by decide +kernel
theorem dl_646 : decode code 646 = .ok (.aload_n 0, 1) := by decide +kernel
theorem dl_647 : decode code 647 = .ok (.iload 4, 2) := by decide +kernel
theorem dl_649 : decode code 649 = .ok (.iconst 2, 1) := by decide +kernel
theorem dl_650 : decode code 650 = .ok (.iadd, 1) := by decide +kernel
theorem dl_651 : decode code 651 = .ok (.iaload, 1) := by decide +kernel
theorem dl_652 : decode code 652 = .ok (.aload_n 0, 1) := by decide +kernel
theorem dl_653 : decode code 653 = .ok (.iload 4, 2) := by decide +kernel
theorem dl_655 : decode code 655 = .ok (.iconst 3, 1) := by decide +kernel
theorem dl_656 : decode code 656 = .ok (.iadd, 1) := by decide +kernel
theorem dl_657 : decode code 657 = .ok (.iaload, 1) := by decide +kernel
theorem dl_658 : decode code 658 = .ok (.aload_n 0, 1) := by decide +kernel
theorem dl_659 : decode code 659 = .ok (.iload 4, 2) := by decide +kernel
theorem dl_661 : decode code 661 = .ok (.iconst 4, 1) := by decide +kernel
theorem dl_662 : decode code 662 = .ok (.iadd, 1) := by decide +kernel
theorem dl_663 : decode code 663 = .ok (.iaload, 1) := by decide +kernel
theorem dl_664 : decode code 664 = .ok (.invokevirtual 82, 3) := by decide +kernel
theorem dl_667 : decode code 667 = .ok (.if_icmp .eq 128, 3) := by decide +kernel
theorem dl_670 : decode code 670 = .ok (.iconst 0, 1) := by decide +kernel
theorem dl_671 : decode code 671 = .ok (.ireturn, 1) := by decide +kernel
theorem dl_672 : decode code 672 = .ok (.aload_n 1, 1) := by decide +kernel
theorem dl_673 : decode code 673 = .ok (.aload_n 0, 1) := by decide +kernel
theorem dl_674 : decode code 674 = .ok (.iload 4, 2) := by decide +kernel
theorem dl_676 : decode code 676 = .ok (.iconst 1, 1) := by decide +kernel
theorem dl_677 : decode code 677 = .ok (.iadd, 1) := by decide +kernel
theorem dl_678 : decode code 678 = .ok (.iaload, 1) := by decide +kernel
theorem dl_679 : decode code 679 = .ok (.aload_n 0, 1) := by decide +kernel
theorem dl_680 : decode code 680 = .ok (.iload 4, 2) := by decide +kernel
theorem dl_682 : decode code 682 = .ok (.iconst 2, 1) := by decide +kernel
theorem dl_683 : decode code 683 = .ok (.iadd, 1) := by decide +kernel
theorem dl_684 : decode code 684 = .ok (.iaload, 1) := by decide +kernel
theorem dl_685 : decode code 685 = .ok (.aload_n 0, 1) := by decide +kernel
theorem dl_686 : decode code 686 = .ok (.iload 4, 2) := by decide +kernel
theorem dl_688 : decode code 688 = .ok (.iconst 3, 1) := by decide +kernel
theorem dl_689 : decode code 689 = .ok (.iadd, 1) := by decide +kernel
theorem dl_690 : decode code 690 = .ok (.iaload, 1) := by decide +kernel
theorem dl_691 : decode code 691 = .ok (.invokevirtual 83, 3) := by decide +kernel
theorem dl_694 : decode code 694 = .ok (.pop, 1) := by decide +kernel
theorem dl_695 : decode code 695 = .ok (.aload_n 2, 1) := by decide +kernel
theorem dl_696 : decode code 696 = .ok (.aload_n 0, 1) := by decide +kernel
theorem dl_697 : decode code 697 = .ok (.iload 4, 2) := by decide +kernel
theorem dl_699 : decode code 699 = .ok (.iconst 1, 1) := by decide +kernel
theorem dl_700 : decode code 700 = .ok (.iadd, 1) := by decide +kernel
theorem dl_701 : decode code 701 = .ok (.iaload, 1) := by decide +kernel
theorem dl_702 : decode code 702 = .ok (.aload_n 0, 1) := by decide +kernel
theorem dl_703 : decode code 703 = .ok (.iload 4, 2) := by decide +kernel
theorem dl_705 : decode code 705 = .ok (.iconst 2, 1) := by decide +kernel
theorem dl_706 : decode code 706 = .ok (.iadd, 1) := by decide +kernel
theorem dl_707 : decode code 707 = .ok (.iaload, 1) := by decide +kernel
theorem dl_708 : decode code 708 = .ok (.aload_n 0, 1) := by decide +kernel
theorem dl_709 : decode code 709 = .ok (.iload 4, 2) := by decide +kernel
theorem dl_711 : decode code 711 = .ok (.iconst 3, 1) := by decide +kernel
theorem dl_712 : decode code 712 = .ok (.iadd, 1) := by decide +kernel
theorem dl_713 : decode code 713 = .ok (.iaload, 1) := by decide +kernel
theorem dl_714 : decode code 714 = .ok (.invokevirtual 86, 3) := by decide +kernel
theorem dl_717 : decode code 717 = .ok (.pop, 1) := by decide +kernel
theorem dl_718 : decode code 718 = .ok (.goto 77, 3) := by decide +kernel
theorem dl_721 : decode code 721 = .ok (.aload_n 1, 1) := by decide +kernel
theorem dl_722 : decode code 722 = .ok (.aload_n 0, 1) := by decide +kernel
theorem dl_723 : decode code 723 = .ok (.iload 4, 2) := by decide +kernel
theorem dl_725 : decode code 725 = .ok (.iconst 1, 1) := by decide +kernel
theorem dl_726 : decode code 726 = .ok (.iadd, 1) := by decide +kernel
theorem dl_727 : decode code 727 = .ok (.iaload, 1) := by decide +kernel
theorem dl_728 : decode code 728 = .ok (.aload_n 0, 1) := by decide +kernel
theorem dl_729 : decode code 729 = .ok (.iload 4, 2) := by decide +kernel
theorem dl_731 : decode code 731 = .ok (.iconst 2, 1) := by decide +kernel
theorem dl_732 : decode code 732 = .ok (.iadd, 1) := by decide +kernel
theorem dl_733 : decode code 733 = .ok (.iaload, 1) := by decide +kernel
theorem dl_734 : decode code 734 = .ok (.invokevirtual 87, 3) := by decide +kernel
theorem dl_737 : decode code 737 = .ok (.pop, 1) := by decide +kernel
theorem dl_738 : decode code 738 = .ok (.aload_n 2, 1) := by decide +kernel
theorem dl_739 : decode code 739 = .ok (.aload_n 0, 1) := by decide +kernel
theorem dl_740 : decode code 740 = .ok (.iload 4, 2) := by decide +kernel
theorem dl_742 : decode code 742 = .ok (.iconst 1, 1) := by decide +kernel
theorem dl_743 : decode code 743 = .ok (.iadd, 1) := by decide +kernel
theorem dl_744 : decode code 744 = .ok (.iaload, 1) := by decide +kernel
theorem dl_745 : decode code 745 = .ok (.aload_n 0, 1) := by decide +kernel
theorem dl_746 : decode code 746 = .ok (.iload 4, 2) := by decide +kernel
theorem dl_748 : decode code 748 = .ok (.iconst 2, 1) := by decide +kernel
theorem dl_749 : decode code 749 = .ok (.iadd, 1) := by decide +kernel
theorem dl_750 : decode code 750 = .ok (.iaload, 1) := by decide +kernel
theorem dl_751 : decode code 751 = .ok (.invokevirtual 91, 3) := by decide +kernel
theorem dl_754 : decode code 754 = .ok (.pop, 1) := by decide +kernel
theorem dl_755 : decode code 755 = .ok (.goto 40, 3) := by decide +kernel
theorem dl_758 : decode code 758 = .ok (.aload_n 1, 1) := by decide +kernel
theorem dl_759 : decode code 759 = .ok (.aload_n 0, 1) := by decide +kernel
theorem dl_760 : decode code 760 = .ok (.iload 4, 2) := by decide +kernel
theorem dl_762 : decode code 762 = .ok (.iconst 1, 1) := by decide +kernel
theorem dl_763 : decode code 763 = .ok (.iadd, 1) := by decide +kernel
theorem dl_764 : decode code 764 = .ok (.iaload, 1) := by decide +kernel
theorem dl_765 : decode code 765 = .ok (.aload_n 0, 1) := by decide +kernel
theorem dl_766 : decode code 766 = .ok (.iload 4, 2) := by decide +kernel
theorem dl_768 : decode code 768 = .ok (.iconst 2, 1) := by decide +kernel
theorem dl_769 : decode code 769 = .ok (.iadd, 1) := by decide +kernel
theorem dl_770 : decode code 770 = .ok (.iaload, 1) := by decide +kernel
theorem dl_771 : decode code 771 = .ok (.invokevirtual 92, 3) := by decide +kernel
theorem dl_774 : decode code 774 = .ok (.pop, 1) := by decide +kernel
theorem dl_775 : decode code 775 = .ok (.aload_n 2, 1) := by decide +kernel
theorem dl_776 : decode code 776 = .ok (.aload_n 0, 1) := by decide +kernel
theorem dl_777 : decode code 777 = .ok (.iload 4, 2) := by decide +kernel
theorem dl_779 : decode code 779 = .ok (.iconst 1, 1) := by decide +kernel
theorem dl_780 : decode code 780 = .ok (.iadd, 1) := by decide +kernel
theorem dl_781 : decode code 781 = .ok (.iaload, 1) := by decide +kernel
theorem dl_782 : decode code 782 = .ok (.aload_n 0, 1) := by decide +kernel
theorem dl_783 : decode code 783 = .ok (.iload 4, 2) := by decide +kernel
theorem dl_785 : decode code 785 = .ok (.iconst 2, 1) := by decide +kernel
theorem dl_786 : decode code 786 = .ok (.iadd, 1) := by decide +kernel
theorem dl_787 : decode code 787 = .ok (.iaload, 1) := by decide +kernel
theorem dl_788 : decode code 788 = .ok (.invokevirtual 95, 3) := by decide +kernel
theorem dl_791 : decode code 791 = .ok (.pop, 1) := by decide +kernel
theorem dl_792 : decode code 792 = .ok (.goto 3, 3) := by decide +kernel
theorem dl_795 : decode code 795 = .ok (.iinc 4 5, 3) := by decide +kernel
theorem dl_798 : decode code 798 = .ok (.goto (-775), 3) := by decide +kernel
theorem dl_801 : decode code 801 = .ok (.iconst 1, 1) := by decide +kernel
theorem dl_802 : decode code 802 = .ok (.ireturn, 1) := by decide +kernel
theorem ll_37 : Cond.methodLink R_Lw 37 ⟨"AreaRouters", "place", "(III)Z"⟩ ∈ lw_tbl := lt_1 (i := 155) (by set_option maxRecDepth 100000 in exact rfl)
theorem ll_41 : Cond.methodLink R_Lw 41 ⟨"AreaRoutersModel", "place", "(III)Z"⟩ ∈ lw_tbl := lt_4 (i := 107) (by set_option maxRecDepth 100000 in exact rfl)
theorem ll_42 : Cond.methodLink R_Lw 42 ⟨"AreaRouters", "attach", "(IIII)Z"⟩ ∈ lw_tbl := lt_1 (i := 170) (by set_option maxRecDepth 100000 in exact rfl)
theorem ll_46 : Cond.methodLink R_Lw 46 ⟨"AreaRoutersModel", "attach", "(IIII)Z"⟩ ∈ lw_tbl := lt_4 (i := 111) (by set_option maxRecDepth 100000 in exact rfl)
theorem ll_47 : Cond.methodLink R_Lw 47 ⟨"AreaRoutersLaw", "hello", "(LAreaRouters;III[J)I"⟩ ∈ lw_tbl := lt_2 (i := 95) (by set_option maxRecDepth 100000 in exact rfl)
theorem ll_52 : Cond.methodLink R_Lw 52 ⟨"AreaRoutersModel", "hello", "(III)I"⟩ ∈ lw_tbl := lt_3 (i := 211) (by set_option maxRecDepth 100000 in exact rfl)
theorem ll_53 : Cond.methodLink R_Lw 53 ⟨"AreaRoutersLaw", "spread", "(LAreaRouters;IIII[J)I"⟩ ∈ lw_tbl := lt_2 (i := 207) (by set_option maxRecDepth 100000 in exact rfl)
theorem ll_56 : Cond.methodLink R_Lw 56 ⟨"AreaRoutersModel", "spread", "(IIII)I"⟩ ∈ lw_tbl := lt_4 (i := 68) (by set_option maxRecDepth 100000 in exact rfl)
theorem ll_57 : Cond.methodLink R_Lw 57 ⟨"AreaRoutersLaw", "summary", "(LAreaRouters;IIII[J)I"⟩ ∈ lw_tbl := lt_3 (i := 88) (by set_option maxRecDepth 100000 in exact rfl)
theorem ll_59 : Cond.methodLink R_Lw 59 ⟨"AreaRoutersModel", "summary", "(IIII)I"⟩ ∈ lw_tbl := lt_4 (i := 91) (by set_option maxRecDepth 100000 in exact rfl)
theorem ll_60 : Cond.methodLink R_Lw 60 ⟨"AreaRoutersLaw", "request", "(LAreaRouters;IIII[J)I"⟩ ∈ lw_tbl := lt_3 (i := 110) (by set_option maxRecDepth 100000 in exact rfl)
theorem ll_62 : Cond.methodLink R_Lw 62 ⟨"AreaRoutersModel", "request", "(IIII)I"⟩ ∈ lw_tbl := lt_4 (i := 99) (by set_option maxRecDepth 100000 in exact rfl)
theorem ll_63 : Cond.methodLink R_Lw 63 ⟨"AreaRoutersLaw", "describe", "(LAreaRouters;I[J)I"⟩ ∈ lw_tbl := lt_3 (i := 122) (by set_option maxRecDepth 100000 in exact rfl)
theorem ll_66 : Cond.methodLink R_Lw 66 ⟨"AreaRoutersModel", "describe", "(I)I"⟩ ∈ lw_tbl := lt_4 (i := 1) (by set_option maxRecDepth 100000 in exact rfl)
theorem ll_67 : Cond.methodLink R_Lw 67 ⟨"AreaRouters", "tick", "()V"⟩ ∈ lw_tbl := lt_1 (i := 186) (by set_option maxRecDepth 100000 in exact rfl)
theorem ll_70 : Cond.methodLink R_Lw 70 ⟨"AreaRoutersModel", "tick", "()V"⟩ ∈ lw_tbl := lt_4 (i := 103) (by set_option maxRecDepth 100000 in exact rfl)
theorem ll_71 : Cond.methodLink R_Lw 71 ⟨"AreaRouters", "neighbour", "(IIII)Z"⟩ ∈ lw_tbl := lt_1 (i := 218) (by set_option maxRecDepth 100000 in exact rfl)
theorem ll_74 : Cond.methodLink R_Lw 74 ⟨"AreaRoutersModel", "neighbour", "(IIII)Z"⟩ ∈ lw_tbl := lt_4 (i := 161) (by set_option maxRecDepth 100000 in exact rfl)
theorem ll_75 : Cond.methodLink R_Lw 75 ⟨"AreaRouters", "speaker", "(III)I"⟩ ∈ lw_tbl := lt_1 (i := 233) (by set_option maxRecDepth 100000 in exact rfl)
theorem ll_78 : Cond.methodLink R_Lw 78 ⟨"AreaRoutersModel", "speaker", "(III)I"⟩ ∈ lw_tbl := lt_4 (i := 165) (by set_option maxRecDepth 100000 in exact rfl)
theorem ll_79 : Cond.methodLink R_Lw 79 ⟨"AreaRouters", "description", "(IIII)I"⟩ ∈ lw_tbl := lt_2 (i := 9) (by set_option maxRecDepth 100000 in exact rfl)
theorem ll_82 : Cond.methodLink R_Lw 82 ⟨"AreaRoutersModel", "description", "(IIII)I"⟩ ∈ lw_tbl := lt_4 (i := 169) (by set_option maxRecDepth 100000 in exact rfl)
theorem ll_83 : Cond.methodLink R_Lw 83 ⟨"AreaRouters", "marks", "(III)I"⟩ ∈ lw_tbl := lt_2 (i := 24) (by set_option maxRecDepth 100000 in exact rfl)
theorem ll_86 : Cond.methodLink R_Lw 86 ⟨"AreaRoutersModel", "marks", "(III)I"⟩ ∈ lw_tbl := lt_4 (i := 176) (by set_option maxRecDepth 100000 in exact rfl)
theorem ll_87 : Cond.methodLink R_Lw 87 ⟨"AreaRouters", "route", "(II)I"⟩ ∈ lw_tbl := lt_2 (i := 32) (by set_option maxRecDepth 100000 in exact rfl)
theorem ll_91 : Cond.methodLink R_Lw 91 ⟨"AreaRoutersModel", "route", "(II)I"⟩ ∈ lw_tbl := lt_4 (i := 115) (by set_option maxRecDepth 100000 in exact rfl)
theorem ll_92 : Cond.methodLink R_Lw 92 ⟨"AreaRouters", "trace", "(II)I"⟩ ∈ lw_tbl := lt_2 (i := 91) (by set_option maxRecDepth 100000 in exact rfl)
theorem ll_95 : Cond.methodLink R_Lw 95 ⟨"AreaRoutersModel", "trace", "(II)I"⟩ ∈ lw_tbl := lt_4 (i := 157) (by set_option maxRecDepth 100000 in exact rfl)
