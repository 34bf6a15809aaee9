/-! what class and reference must do at each call, and the law's walk of each case out of it -/
def sp_place (I : Nat → jz_M → jz_M → Prop) : Prop := ∀ (c : Nat) (mc mm : jz_M), c < 512 → I c mc mm → ∀ (a1 : Int32) (a2 : Int32) (a3 : Int32), ∃ r q, f_AR_place a1 a2 a3 mc = some r ∧ f_Mo_place a1 a2 a3 mm = some q ∧ r.1 = q.1 ∧ I (c + 1) r.2 q.2
def sp_attach (I : Nat → jz_M → jz_M → Prop) : Prop := ∀ (c : Nat) (mc mm : jz_M), c < 512 → I c mc mm → ∀ (a1 : Int32) (a2 : Int32) (a3 : Int32) (a4 : Int32), ∃ r q, f_AR_attach a1 a2 a3 a4 mc = some r ∧ f_Mo_attach a1 a2 a3 a4 mm = some q ∧ r.1 = q.1 ∧ I (c + 1) r.2 q.2
def sp_hello (I : Nat → jz_M → jz_M → Prop) : Prop := ∀ (c : Nat) (mc mm : jz_M), c < 512 → I c mc mm → ∀ (a1 : Int32) (a2 : Int32) (a3 : Int32), ∃ q, f_Mo_hello a1 a2 a3 mm = some q ∧ ((∃ r, f_AR_hello a1 a2 a3 mc = some r ∧ q.2 0 0 = 0 ∧ r.1 = q.1 ∧ I (c + 1) r.2 q.2) ∨ (fx_AR_checkSender a1 a2 mc = some 1 ∧ q.2 0 0 = 1 ∧ I (c + 1) mc q.2) ∨ (fx_AR_checkSender a1 a2 mc = some 2 ∧ q.2 0 0 = 2 ∧ I (c + 1) mc q.2))
def sp_spread (I : Nat → jz_M → jz_M → Prop) : Prop := ∀ (c : Nat) (mc mm : jz_M), c < 512 → I c mc mm → ∀ (a1 : Int32) (a2 : Int32) (a3 : Int32) (a4 : Int32), ∃ q, f_Mo_spread a1 a2 a3 a4 mm = some q ∧ ((∃ r, f_AR_spread a1 a2 a3 a4 mc = some r ∧ q.2 0 0 = 0 ∧ r.1 = q.1 ∧ I (c + 1) r.2 q.2) ∨ (fx_AR_checkSender a1 a2 mc = some 1 ∧ q.2 0 0 = 1 ∧ I (c + 1) mc q.2) ∨ (fx_AR_checkSender a1 a2 mc = some 2 ∧ q.2 0 0 = 2 ∧ I (c + 1) mc q.2) ∨ (f_AR_checkSender a1 a2 mc = some () ∧ fx_AR_checkLevel a1 a3 mc = some 3 ∧ q.2 0 0 = 3 ∧ I (c + 1) mc q.2))
def sp_summary (I : Nat → jz_M → jz_M → Prop) : Prop := ∀ (c : Nat) (mc mm : jz_M), c < 512 → I c mc mm → ∀ (a1 : Int32) (a2 : Int32) (a3 : Int32) (a4 : Int32), ∃ q, f_Mo_summary a1 a2 a3 a4 mm = some q ∧ ((∃ r, f_AR_summary a1 a2 a3 a4 mc = some r ∧ q.2 0 0 = 0 ∧ r.1 = q.1 ∧ I (c + 1) r.2 q.2) ∨ (fx_AR_checkSender a1 a2 mc = some 1 ∧ q.2 0 0 = 1 ∧ I (c + 1) mc q.2) ∨ (fx_AR_checkSender a1 a2 mc = some 2 ∧ q.2 0 0 = 2 ∧ I (c + 1) mc q.2) ∨ (f_AR_checkSender a1 a2 mc = some () ∧ fx_AR_checkLevel a1 a3 mc = some 3 ∧ q.2 0 0 = 3 ∧ I (c + 1) mc q.2))
def sp_request (I : Nat → jz_M → jz_M → Prop) : Prop := ∀ (c : Nat) (mc mm : jz_M), c < 512 → I c mc mm → ∀ (a1 : Int32) (a2 : Int32) (a3 : Int32) (a4 : Int32), ∃ q, f_Mo_request a1 a2 a3 a4 mm = some q ∧ ((∃ r, f_AR_request a1 a2 a3 a4 mc = some r ∧ q.2 0 0 = 0 ∧ r.1 = q.1 ∧ I (c + 1) r.2 q.2) ∨ (fx_AR_checkSender a1 a2 mc = some 1 ∧ q.2 0 0 = 1 ∧ I (c + 1) mc q.2) ∨ (fx_AR_checkSender a1 a2 mc = some 2 ∧ q.2 0 0 = 2 ∧ I (c + 1) mc q.2) ∨ (f_AR_checkSender a1 a2 mc = some () ∧ fx_AR_checkLevel a1 a3 mc = some 3 ∧ q.2 0 0 = 3 ∧ I (c + 1) mc q.2))
def sp_describe (I : Nat → jz_M → jz_M → Prop) : Prop := ∀ (c : Nat) (mc mm : jz_M), c < 512 → I c mc mm → ∀ (a1 : Int32), ∃ q, f_Mo_describe a1 mm = some q ∧ ((∃ r, f_AR_describe a1 mc = some r ∧ q.2 0 0 = 0 ∧ r.1 = q.1 ∧ I (c + 1) r.2 q.2) ∨ (fx_AR_describe a1 mc = some 1 ∧ q.2 0 0 = 1 ∧ I (c + 1) mc q.2))
def sp_tick (I : Nat → jz_M → jz_M → Prop) : Prop := ∀ (c : Nat) (mc mm : jz_M), c < 512 → I c mc mm → ∃ r q, f_AR_tick mc = some r ∧ f_Mo_tick mm = some q ∧ I (c + 1) r q
def sp_neighbour (I : Nat → jz_M → jz_M → Prop) : Prop := ∀ (c : Nat) (mc mm : jz_M), c < 512 → I c mc mm → ∀ (a1 : Int32) (a2 : Int32) (a3 : Int32) (a4 : Int32), ∃ r q, f_AR_neighbour a1 a2 a3 a4 mc = some r ∧ f_Mo_neighbour a1 a2 a3 a4 mm = some q ∧ r = q.1 ∧ I (c + 1) mc q.2
def sp_speaker (I : Nat → jz_M → jz_M → Prop) : Prop := ∀ (c : Nat) (mc mm : jz_M), c < 512 → I c mc mm → ∀ (a1 : Int32) (a2 : Int32) (a3 : Int32), ∃ r q, f_AR_speaker a1 a2 a3 mc = some r ∧ f_Mo_speaker a1 a2 a3 mm = some q ∧ r = q.1 ∧ I (c + 1) mc q.2
def sp_description (I : Nat → jz_M → jz_M → Prop) : Prop := ∀ (c : Nat) (mc mm : jz_M), c < 512 → I c mc mm → ∀ (a1 : Int32) (a2 : Int32) (a3 : Int32) (a4 : Int32), ∃ r q, f_AR_description a1 a2 a3 a4 mc = some r ∧ f_Mo_description a1 a2 a3 a4 mm = some q ∧ r = q.1 ∧ I (c + 1) mc q.2
def sp_marks (I : Nat → jz_M → jz_M → Prop) : Prop := ∀ (c : Nat) (mc mm : jz_M), c < 512 → I c mc mm → ∀ (a1 : Int32) (a2 : Int32) (a3 : Int32), ∃ r q, f_AR_marks a1 a2 a3 mc = some r ∧ f_Mo_marks a1 a2 a3 mm = some q ∧ r = q.1 ∧ I (c + 1) mc q.2
def sp_route (I : Nat → jz_M → jz_M → Prop) : Prop := ∀ (c : Nat) (mc mm : jz_M), c < 512 → I c mc mm → ∀ (a1 : Int32) (a2 : Int32), ∃ r q, f_AR_route a1 a2 mc = some r ∧ f_Mo_route a1 a2 mm = some q ∧ r.1 = q.1 ∧ I (c + 1) r.2 q.2
def sp_trace (I : Nat → jz_M → jz_M → Prop) : Prop := ∀ (c : Nat) (mc mm : jz_M), c < 512 → I c mc mm → ∀ (a1 : Int32) (a2 : Int32), ∃ r q, f_AR_trace a1 a2 mc = some r ∧ f_Mo_trace a1 a2 mm = some q ∧ r.1 = q.1 ∧ I (c + 1) r.2 q.2
theorem lo_Mo {Z : cz_Z} : iz_O (lz_G Z) 152 6 (fz_Mo (lz_M Z)) := ⟨by show (152 : Nat) < 174; decide, fun f => rfl⟩
theorem jl_widen {X : jz_X} {nL : Nat} {G : jz_G} {kc ks kc2 ks2 : Nat} {Q : State → Prop} {m : jz_M} {lv : List (Nat × Value)} {pc : Nat} {st : List Value} (h1 : kc ≤ kc2) (h2 : ks ≤ ks2) (k : jl_J X nL G kc2 ks2 Q m lv pc st) : jl_J X nL G kc ks Q m lv pc st := fun H locs ls hP hS hl => W.widen h1 h2 (k H locs ls hP hS hl)
theorem ll_in {L i j : Nat} {x4 y : Int32} (hx : x4 = nI i) (hy : y = nI j) (hL : i + j < L) (hL2 : L ≤ 2560) : vp_in (x4 + y) L := by
  rw [hx, hy, nI_add]
  exact vp_in_nI hL (by omega)
theorem ll_at {L i j : Nat} {x4 y : Int32} {xs : Nat → Int32} (hx : x4 = nI i) (hy : y = nI j) (hL : i + j < L) (hL2 : L ≤ 2560) : xs (i + j) = xs (x4 + y).toNatClampNeg := by
  rw [hx, hy, nI_add, nI_clamp (by omega)]
theorem dl_0 : decode code 0 = .ok (.new 8, 3) := by decide +kernel
theorem dl_3 : decode code 3 = .ok (.dup, 1) := by decide +kernel
theorem dl_4 : decode code 4 = .ok (.invokespecial 33, 3) := by decide +kernel
theorem dl_7 : decode code 7 = .ok (.astore_n 1, 1) := by decide +kernel
theorem dl_8 : decode code 8 = .ok (.new 34, 3) := by decide +kernel
theorem dl_11 : decode code 11 = .ok (.dup, 1) := by decide +kernel
theorem dl_12 : decode code 12 = .ok (.invokespecial 36, 3) := by decide +kernel
theorem dl_15 : decode code 15 = .ok (.astore_n 2, 1) := by decide +kernel
theorem dl_16 : decode code 16 = .ok (.iconst 1, 1) := by decide +kernel
theorem dl_17 : decode code 17 = .ok (.newarray .long, 2) := by decide +kernel
theorem dl_19 : decode code 19 = .ok (.astore_n 3, 1) := by decide +kernel
theorem dl_20 : decode code 20 = .ok (.iconst 0, 1) := by decide +kernel
theorem dl_21 : decode code 21 = .ok (.istore 4, 2) := by decide +kernel
theorem dl_23 : decode code 23 = .ok (.iload 4, 2) := by decide +kernel
theorem dl_25 : decode code 25 = .ok (.aload_n 0, 1) := by decide +kernel
theorem dl_26 : decode code 26 = .ok (.arraylength, 1) := by decide +kernel
theorem dl_27 : decode code 27 = .ok (.iconst 5, 1) := by decide +kernel
theorem dl_28 : decode code 28 = .ok (.isub, 1) := by decide +kernel
theorem dl_29 : decode code 29 = .ok (.if_icmp .gt 912, 3) := by decide +kernel
theorem dl_32 : decode code 32 = .ok (.aload_n 0, 1) := by decide +kernel
theorem dl_33 : decode code 33 = .ok (.iload 4, 2) := by decide +kernel
theorem dl_35 : decode code 35 = .ok (.iaload, 1) := by decide +kernel
theorem dl_36 : decode code 36 = .ok (.bipush 15, 2) := by decide +kernel
theorem dl_38 : decode code 38 = .ok (.iand, 1) := by decide +kernel
theorem dl_39 : decode code 39 = .ok (.tableswitch 896 0 13 #[69, 118, 179, 259, 351, 443, 535, 591, 602, 663, 712, 773, 822, 859], 69) := by decide +kernel
theorem dl_108 : decode code 108 = .ok (.aload_n 1, 1) := by decide +kernel
theorem dl_109 : decode code 109 = .ok (.aload_n 0, 1) := by decide +kernel
theorem dl_110 : decode code 110 = .ok (.iload 4, 2) := by decide +kernel
theorem dl_112 : decode code 112 = .ok (.iconst 1, 1) := by decide +kernel
theorem dl_113 : decode code 113 = .ok (.iadd, 1) := by decide +kernel
theorem dl_114 : decode code 114 = .ok (.iaload, 1) := by decide +kernel
theorem dl_115 : decode code 115 = .ok (.aload_n 0, 1) := by decide +kernel
theorem dl_116 : decode code 116 = .ok (.iload 4, 2) := by decide +kernel
theorem dl_118 : decode code 118 = .ok (.iconst 2, 1) := by decide +kernel
theorem dl_119 : decode code 119 = .ok (.iadd, 1) := by decide +kernel
theorem dl_120 : decode code 120 = .ok (.iaload, 1) := by decide +kernel
theorem dl_121 : decode code 121 = .ok (.aload_n 0, 1) := by decide +kernel
theorem dl_122 : decode code 122 = .ok (.iload 4, 2) := by decide +kernel
theorem dl_124 : decode code 124 = .ok (.iconst 3, 1) := by decide +kernel
theorem dl_125 : decode code 125 = .ok (.iadd, 1) := by decide +kernel
theorem dl_126 : decode code 126 = .ok (.iaload, 1) := by decide +kernel
theorem dl_127 : decode code 127 = .ok (.invokevirtual 37, 3) := by decide +kernel
theorem dl_130 : decode code 130 = .ok (.aload_n 2, 1) := by decide +kernel
theorem dl_131 : decode code 131 = .ok (.aload_n 0, 1) := by decide +kernel
theorem dl_132 : decode code 132 = .ok (.iload 4, 2) := by decide +kernel
theorem dl_134 : decode code 134 = .ok (.iconst 1, 1) := by decide +kernel
theorem dl_135 : decode code 135 = .ok (.iadd, 1) := by decide +kernel
theorem dl_136 : decode code 136 = .ok (.iaload, 1) := by decide +kernel
theorem dl_137 : decode code 137 = .ok (.aload_n 0, 1) := by decide +kernel
theorem dl_138 : decode code 138 = .ok (.iload 4, 2) := by decide +kernel
theorem dl_140 : decode code 140 = .ok (.iconst 2, 1) := by decide +kernel
theorem dl_141 : decode code 141 = .ok (.iadd, 1) := by decide +kernel
theorem dl_142 : decode code 142 = .ok (.iaload, 1) := by decide +kernel
theorem dl_143 : decode code 143 = .ok (.aload_n 0, 1) := by decide +kernel
theorem dl_144 : decode code 144 = .ok (.iload 4, 2) := by decide +kernel
theorem dl_146 : decode code 146 = .ok (.iconst 3, 1) := by decide +kernel
theorem dl_147 : decode code 147 = .ok (.iadd, 1) := by decide +kernel
theorem dl_148 : decode code 148 = .ok (.iaload, 1) := by decide +kernel
theorem dl_149 : decode code 149 = .ok (.invokevirtual 41, 3) := by decide +kernel
theorem dl_152 : decode code 152 = .ok (.if_icmp .eq 783, 3) := by decide +kernel
theorem dl_155 : decode code 155 = .ok (.iconst 0, 1) := by decide +kernel
theorem dl_156 : decode code 156 = .ok (.ireturn, 1) := by decide +kernel
theorem dl_157 : decode code 157 = .ok (.aload_n 1, 1) := by decide +kernel
theorem dl_158 : decode code 158 = .ok (.aload_n 0, 1) := by decide +kernel
theorem dl_159 : decode code 159 = .ok (.iload 4, 2) := by decide +kernel
theorem dl_161 : decode code 161 = .ok (.iconst 1, 1) := by decide +kernel
theorem dl_162 : decode code 162 = .ok (.iadd, 1) := by decide +kernel
theorem dl_163 : decode code 163 = .ok (.iaload, 1) := by decide +kernel
theorem dl_164 : decode code 164 = .ok (.aload_n 0, 1) := by decide +kernel
theorem dl_165 : decode code 165 = .ok (.iload 4, 2) := by decide +kernel
theorem dl_167 : decode code 167 = .ok (.iconst 2, 1) := by decide +kernel
theorem dl_168 : decode code 168 = .ok (.iadd, 1) := by decide +kernel
theorem dl_169 : decode code 169 = .ok (.iaload, 1) := by decide +kernel
theorem dl_170 : decode code 170 = .ok (.aload_n 0, 1) := by decide +kernel
theorem dl_171 : decode code 171 = .ok (.iload 4, 2) := by decide +kernel
theorem dl_173 : decode code 173 = .ok (.iconst 3, 1) := by decide +kernel
theorem dl_174 : decode code 174 = .ok (.iadd, 1) := by decide +kernel
theorem dl_175 : decode code 175 = .ok (.iaload, 1) := by decide +kernel
theorem dl_176 : decode code 176 = .ok (.aload_n 0, 1) := by decide +kernel
theorem dl_177 : decode code 177 = .ok (.iload 4, 2) := by decide +kernel
theorem dl_179 : decode code 179 = .ok (.iconst 4, 1) := by decide +kernel
theorem dl_180 : decode code 180 = .ok (.iadd, 1) := by decide +kernel
theorem dl_181 : decode code 181 = .ok (.iaload, 1) := by decide +kernel
theorem dl_182 : decode code 182 = .ok (.invokevirtual 42, 3) := by decide +kernel
theorem dl_185 : decode code 185 = .ok (.aload_n 2, 1) := by decide +kernel
theorem dl_186 : decode code 186 = .ok (.aload_n 0, 1) := by decide +kernel
theorem dl_187 : decode code 187 = .ok (.iload 4, 2) := by decide +kernel
theorem dl_189 : decode code 189 = .ok (.iconst 1, 1) := by decide +kernel
theorem dl_190 : decode code 190 = .ok (.iadd, 1) := by decide +kernel
theorem dl_191 : decode code 191 = .ok (.iaload, 1) := by decide +kernel
theorem dl_192 : decode code 192 = .ok (.aload_n 0, 1) := by decide +kernel
theorem dl_193 : decode code 193 = .ok (.iload 4, 2) := by decide +kernel
theorem dl_195 : decode code 195 = .ok (.iconst 2, 1) := by decide +kernel
theorem dl_196 : decode code 196 = .ok (.iadd, 1) := by decide +kernel
theorem dl_197 : decode code 197 = .ok (.iaload, 1) := by decide +kernel
theorem dl_198 : decode code 198 = .ok (.aload_n 0, 1) := by decide +kernel
theorem dl_199 : decode code 199 = .ok (.iload 4, 2) := by decide +kernel
theorem dl_201 : decode code 201 = .ok (.iconst 3, 1) := by decide +kernel
theorem dl_202 : decode code 202 = .ok (.iadd, 1) := by decide +kernel
theorem dl_203 : decode code 203 = .ok (.iaload, 1) := by decide +kernel
theorem dl_204 : decode code 204 = .ok (.aload_n 0, 1) := by decide +kernel
theorem dl_205 : decode code 205 = .ok (.iload 4, 2) := by decide +kernel
theorem dl_207 : decode code 207 = .ok (.iconst 4, 1) := by decide +kernel
theorem dl_208 : decode code 208 = .ok (.iadd, 1) := by decide +kernel
theorem dl_209 : decode code 209 = .ok (.iaload, 1) := by decide +kernel
theorem dl_210 : decode code 210 = .ok (.invokevirtual 46, 3) := by decide +kernel
theorem dl_213 : decode code 213 = .ok (.if_icmp .eq 722, 3) := by decide +kernel
theorem dl_216 : decode code 216 = .ok (.iconst 0, 1) := by decide +kernel
theorem dl_217 : decode code 217 = .ok (.ireturn, 1) := by decide +kernel
theorem dl_218 : decode code 218 = .ok (.aload_n 1, 1) := by decide +kernel
theorem dl_219 : decode code 219 = .ok (.aload_n 0, 1) := by decide +kernel
theorem dl_220 : decode code 220 = .ok (.iload 4, 2) := by decide +kernel
theorem dl_222 : decode code 222 = .ok (.iconst 1, 1) := by decide +kernel
theorem dl_223 : decode code 223 = .ok (.iadd, 1) := by decide +kernel
theorem dl_224 : decode code 224 = .ok (.iaload, 1) := by decide +kernel
theorem dl_225 : decode code 225 = .ok (.aload_n 0, 1) := by decide +kernel
theorem dl_226 : decode code 226 = .ok (.iload 4, 2) := by decide +kernel
theorem dl_228 : decode code 228 = .ok (.iconst 2, 1) := by decide +kernel
theorem dl_229 : decode code 229 = .ok (.iadd, 1) := by decide +kernel
theorem dl_230 : decode code 230 = .ok (.iaload, 1) := by decide +kernel
theorem dl_231 : decode code 231 = .ok (.aload_n 0, 1) := by decide +kernel
theorem dl_232 : decode code 232 = .ok (.iload 4, 2) := by decide +kernel
theorem dl_234 : decode code 234 = .ok (.iconst 3, 1) := by decide +kernel
theorem dl_235 : decode code 235 = .ok (.iadd, 1) := by decide +kernel
theorem dl_236 : decode code 236 = .ok (.iaload, 1) := by decide +kernel
theorem dl_237 : decode code 237 = .ok (.aload_n 3, 1) := by decide +kernel
theorem dl_238 : decode code 238 = .ok (.invokestatic 47, 3) := by decide +kernel
theorem dl_241 : decode code 241 = .ok (.istore 5, 2) := by decide +kernel
theorem dl_243 : decode code 243 = .ok (.aload_n 2, 1) := by decide +kernel
theorem dl_244 : decode code 244 = .ok (.aload_n 0, 1) := by decide +kernel
theorem dl_245 : decode code 245 = .ok (.iload 4, 2) := by decide +kernel
theorem dl_247 : decode code 247 = .ok (.iconst 1, 1) := by decide +kernel
theorem dl_248 : decode code 248 = .ok (.iadd, 1) := by decide +kernel
theorem dl_249 : decode code 249 = .ok (.iaload, 1) := by decide +kernel
theorem dl_250 : decode code 250 = .ok (.aload_n 0, 1) := by decide +kernel
theorem dl_251 : decode code 251 = .ok (.iload 4, 2) := by decide +kernel
theorem dl_253 : decode code 253 = .ok (.iconst 2, 1) := by decide +kernel
theorem dl_254 : decode code 254 = .ok (.iadd, 1) := by decide +kernel
theorem dl_255 : decode code 255 = .ok (.iaload, 1) := by decide +kernel
theorem dl_256 : decode code 256 = .ok (.aload_n 0, 1) := by decide +kernel
theorem dl_257 : decode code 257 = .ok (.iload 4, 2) := by decide +kernel
theorem dl_259 : decode code 259 = .ok (.iconst 3, 1) := by decide +kernel
theorem dl_260 : decode code 260 = .ok (.iadd, 1) := by decide +kernel
theorem dl_261 : decode code 261 = .ok (.iaload, 1) := by decide +kernel
theorem dl_262 : decode code 262 = .ok (.invokevirtual 52, 3) := by decide +kernel
theorem dl_265 : decode code 265 = .ok (.istore 6, 2) := by decide +kernel
theorem dl_267 : decode code 267 = .ok (.aload_n 2, 1) := by decide +kernel
theorem dl_268 : decode code 268 = .ok (.invokevirtual 53, 3) := by decide +kernel
theorem dl_271 : decode code 271 = .ok (.iload 5, 2) := by decide +kernel
theorem dl_273 : decode code 273 = .ok (.if_icmp .eq 5, 3) := by decide +kernel
theorem dl_276 : decode code 276 = .ok (.iconst 0, 1) := by decide +kernel
theorem dl_277 : decode code 277 = .ok (.ireturn, 1) := by decide +kernel
theorem dl_278 : decode code 278 = .ok (.iload 5, 2) := by decide +kernel
theorem dl_280 : decode code 280 = .ok (.ifCond .ne 15, 3) := by decide +kernel
theorem dl_283 : decode code 283 = .ok (.aload_n 3, 1) := by decide +kernel
theorem dl_284 : decode code 284 = .ok (.iconst 0, 1) := by decide +kernel
theorem dl_285 : decode code 285 = .ok (.laload, 1) := by decide +kernel
theorem dl_286 : decode code 286 = .ok (.iload 6, 2) := by decide +kernel
theorem dl_288 : decode code 288 = .ok (.i2l, 1) := by decide +kernel
theorem dl_289 : decode code 289 = .ok (.lcmp, 1) := by decide +kernel
theorem dl_290 : decode code 290 = .ok (.ifCond .eq 5, 3) := by decide +kernel
theorem dl_293 : decode code 293 = .ok (.iconst 0, 1) := by decide +kernel
theorem dl_294 : decode code 294 = .ok (.ireturn, 1) := by decide +kernel
theorem dl_295 : decode code 295 = .ok (.goto 640, 3) := by decide +kernel
theorem dl_298 : decode code 298 = .ok (.aload_n 1, 1) := by decide +kernel
theorem dl_299 : decode code 299 = .ok (.aload_n 0, 1) := by decide +kernel
theorem dl_300 : decode code 300 = .ok (.iload 4, 2) := by decide +kernel
theorem dl_302 : decode code 302 = .ok (.iconst 1, 1) := by decide +kernel
theorem dl_303 : decode code 303 = .ok (.iadd, 1) := by decide +kernel
theorem dl_304 : decode code 304 = .ok (.iaload, 1) := by decide +kernel
theorem dl_305 : decode code 305 = .ok (.aload_n 0, 1) := by decide +kernel
theorem dl_306 : decode code 306 = .ok (.iload 4, 2) := by decide +kernel
theorem dl_308 : decode code 308 = .ok (.iconst 2, 1) := by decide +kernel
theorem dl_309 : decode code 309 = .ok (.iadd, 1) := by decide +kernel
theorem dl_310 : decode code 310 = .ok (.iaload, 1) := by decide +kernel
theorem dl_311 : decode code 311 = .ok (.aload_n 0, 1) := by decide +kernel
theorem dl_312 : decode code 312 = .ok (.iload 4, 2) := by decide +kernel
theorem dl_314 : decode code 314 = .ok (.iconst 3, 1) := by decide +kernel
theorem dl_315 : decode code 315 = .ok (.iadd, 1) := by decide +kernel
theorem dl_316 : decode code 316 = .ok (.iaload, 1) := by decide +kernel
theorem dl_317 : decode code 317 = .ok (.aload_n 0, 1) := by decide +kernel
theorem dl_318 : decode code 318 = .ok (.iload 4, 2) := by decide +kernel
theorem dl_320 : decode code 320 = .ok (.iconst 4, 1) := by decide +kernel
theorem dl_321 : decode code 321 = .ok (.iadd, 1) := by decide +kernel
theorem dl_322 : decode code 322 = .ok (.iaload, 1) := by decide +kernel
theorem dl_323 : decode code 323 = .ok (.aload_n 3, 1) := by decide +kernel
theorem dl_324 : decode code 324 = .ok (.invokestatic 57, 3) := by decide +kernel
theorem dl_327 : decode code 327 = .ok (.istore 5, 2) := by decide +kernel
theorem dl_329 : decode code 329 = .ok (.aload_n 2, 1) := by decide +kernel
theorem dl_330 : decode code 330 = .ok (.aload_n 0, 1) := by decide +kernel
theorem dl_331 : decode code 331 = .ok (.iload 4, 2) := by decide +kernel
theorem dl_333 : decode code 333 = .ok (.iconst 1, 1) := by decide +kernel
theorem dl_334 : decode code 334 = .ok (.iadd, 1) := by decide +kernel
theorem dl_335 : decode code 335 = .ok (.iaload, 1) := by decide +kernel
theorem dl_336 : decode code 336 = .ok (.aload_n 0, 1) := by decide +kernel
theorem dl_337 : decode code 337 = .ok (.iload 4, 2) := by decide +kernel
theorem dl_339 : decode code 339 = .ok (.iconst 2, 1) := by decide +kernel
theorem dl_340 : decode code 340 = .ok (.iadd, 1) := by decide +kernel
theorem dl_341 : decode code 341 = .ok (.iaload, 1) := by decide +kernel
theorem dl_342 : decode code 342 = .ok (.aload_n 0, 1) := by decide +kernel
theorem dl_343 : decode code 343 = .ok (.iload 4, 2) := by decide +kernel
theorem dl_345 : decode code 345 = .ok (.iconst 3, 1) := by decide +kernel
theorem dl_346 : decode code 346 = .ok (.iadd, 1) := by decide +kernel
theorem dl_347 : decode code 347 = .ok (.iaload, 1) := by decide +kernel
theorem dl_348 : decode code 348 = .ok (.aload_n 0, 1) := by decide +kernel
theorem dl_349 : decode code 349 = .ok (.iload 4, 2) := by decide +kernel
theorem dl_351 : decode code 351 = .ok (.iconst 4, 1) := by decide +kernel
theorem dl_352 : decode code 352 = .ok (.iadd, 1) := by decide +kernel
theorem dl_353 : decode code 353 = .ok (.iaload, 1) := by decide +kernel
theorem dl_354 : decode code 354 = .ok (.invokevirtual 60, 3) := by decide +kernel
theorem dl_357 : decode code 357 = .ok (.istore 6, 2) := by decide +kernel
theorem dl_359 : decode code 359 = .ok (.aload_n 2, 1) := by decide +kernel
theorem dl_360 : decode code 360 = .ok (.invokevirtual 53, 3) := by decide +kernel
theorem dl_363 : decode code 363 = .ok (.iload 5, 2) := by decide +kernel
theorem dl_365 : decode code 365 = .ok (.if_icmp .eq 5, 3) := by decide +kernel
theorem dl_368 : decode code 368 = .ok (.iconst 0, 1) := by decide +kernel
theorem dl_369 : decode code 369 = .ok (.ireturn, 1) := by decide +kernel
theorem dl_370 : decode code 370 = .ok (.iload 5, 2) := by decide +kernel
theorem dl_372 : decode code 372 = .ok (.ifCond .ne 15, 3) := by decide +kernel
theorem dl_375 : decode code 375 = .ok (.aload_n 3, 1) := by decide +kernel
theorem dl_376 : decode code 376 = .ok (.iconst 0, 1) := by decide +kernel
theorem dl_377 : decode code 377 = .ok (.laload, 1) := by decide +kernel
theorem dl_378 : decode code 378 = .ok (.iload 6, 2) := by decide +kernel
theorem dl_380 : decode code 380 = .ok (.i2l, 1) := by decide +kernel
theorem dl_381 : decode code 381 = .ok (.lcmp, 1) := by decide +kernel
theorem dl_382 : decode code 382 = .ok (.ifCond .eq 5, 3) := by decide +kernel
theorem dl_385 : decode code 385 = .ok (.iconst 0, 1) := by decide +kernel
theorem dl_386 : decode code 386 = .ok (.ireturn, 1) := by decide +kernel
theorem dl_387 : decode code 387 = .ok (.goto 548, 3) := by decide +kernel
theorem dl_390 : decode code 390 = .ok (.aload_n 1, 1) := by decide +kernel
theorem dl_391 : decode code 391 = .ok (.aload_n 0, 1) := by decide +kernel
theorem dl_392 : decode code 392 = .ok (.iload 4, 2) := by decide +kernel
theorem dl_394 : decode code 394 = .ok (.iconst 1, 1) := by decide +kernel
theorem dl_395 : decode code 395 = .ok (.iadd, 1) := by decide +kernel
theorem dl_396 : decode code 396 = .ok (.iaload, 1) := by decide +kernel
theorem dl_397 : decode code 397 = .ok (.aload_n 0, 1) := by decide +kernel
theorem dl_398 : decode code 398 = .ok (.iload 4, 2) := by decide +kernel
theorem dl_400 : decode code 400 = .ok (.iconst 2, 1) := by decide +kernel
theorem dl_401 : decode code 401 = .ok (.iadd, 1) := by decide +kernel
theorem dl_402 : decode code 402 = .ok (.iaload, 1) := by decide +kernel
theorem dl_403 : decode code 403 = .ok (.aload_n 0, 1) := by decide +kernel
theorem dl_404 : decode code 404 = .ok (.iload 4, 2) := by decide +kernel
theorem dl_406 : decode code 406 = .ok (.iconst 3, 1) := by decide +kernel
theorem dl_407 : decode code 407 = .ok (.iadd, 1) := by decide +kernel
theorem dl_408 : decode code 408 = .ok (.iaload, 1) := by decide +kernel
theorem dl_409 : decode code 409 = .ok (.aload_n 0, 1) := by decide +kernel
theorem dl_410 : decode code 410 = .ok (.iload 4, 2) := by decide +kernel
theorem dl_412 : decode code 412 = .ok (.iconst 4, 1) := by decide +kernel
theorem dl_413 : decode code 413 = .ok (.iadd, 1) := by decide +kernel
theorem dl_414 : decode code 414 = .ok (.iaload, 1) := by decide +kernel
theorem dl_415 : decode code 415 = .ok (.aload_n 3, 1) := by decide +kernel
theorem dl_416 : decode code 416 = .ok (.invokestatic 61, 3) := by decide +kernel
theorem dl_419 : decode code 419 = .ok (.istore 5, 2) := by decide +kernel
theorem dl_421 : decode code 421 = .ok (.aload_n 2, 1) := by decide +kernel
theorem dl_422 : decode code 422 = .ok (.aload_n 0, 1) := by decide +kernel
theorem dl_423 : decode code 423 = .ok (.iload 4, 2) := by decide +kernel
theorem dl_425 : decode code 425 = .ok (.iconst 1, 1) := by decide +kernel
theorem dl_426 : decode code 426 = .ok (.iadd, 1) := by decide +kernel
theorem dl_427 : decode code 427 = .ok (.iaload, 1) := by decide +kernel
theorem dl_428 : decode code 428 = .ok (.aload_n 0, 1) := by decide +kernel
theorem dl_429 : decode code 429 = .ok (.iload 4, 2) := by decide +kernel
theorem dl_431 : decode code 431 = .ok (.iconst 2, 1) := by decide +kernel
theorem dl_432 : decode code 432 = .ok (.iadd, 1) := by decide +kernel
theorem dl_433 : decode code 433 = .ok (.iaload, 1) := by decide +kernel
theorem dl_434 : decode code 434 = .ok (.aload_n 0, 1) := by decide +kernel
theorem dl_435 : decode code 435 = .ok (.iload 4, 2) := by decide +kernel
theorem dl_437 : decode code 437 = .ok (.iconst 3, 1) := by decide +kernel
theorem dl_438 : decode code 438 = .ok (.iadd, 1) := by decide +kernel
theorem dl_439 : decode code 439 = .ok (.iaload, 1) := by decide +kernel
theorem dl_440 : decode code 440 = .ok (.aload_n 0, 1) := by decide +kernel
theorem dl_441 : decode code 441 = .ok (.iload 4, 2) := by decide +kernel
theorem dl_443 : decode code 443 = .ok (.iconst 4, 1) := by decide +kernel
theorem dl_444 : decode code 444 = .ok (.iadd, 1) := by decide +kernel
theorem dl_445 : decode code 445 = .ok (.iaload, 1) := by decide +kernel
theorem dl_446 : decode code 446 = .ok (.invokevirtual 63, 3) := by decide +kernel
theorem dl_449 : decode code 449 = .ok (.istore 6, 2) := by decide +kernel
theorem dl_451 : decode code 451 = .ok (.aload_n 2, 1) := by decide +kernel
theorem dl_452 : decode code 452 = .ok (.invokevirtual 53, 3) := by decide +kernel
theorem dl_455 : decode code 455 = .ok (.iload 5, 2) := by decide +kernel
theorem dl_457 : decode code 457 = .ok (.if_icmp .eq 5, 3) := by decide +kernel
theorem dl_460 : decode code 460 = .ok (.iconst 0, 1) := by decide +kernel
theorem dl_461 : decode code 461 = .ok (.ireturn, 1) := by decide +kernel
theorem dl_462 : decode code 462 = .ok (.iload 5, 2) := by decide +kernel
theorem dl_464 : decode code 464 = .ok (.ifCond .ne 15, 3) := by decide +kernel
theorem dl_467 : decode code 467 = .ok (.aload_n 3, 1) := by decide +kernel
theorem dl_468 : decode code 468 = .ok (.iconst 0, 1) := by decide +kernel
theorem dl_469 : decode code 469 = .ok (.laload, 1) := by decide +kernel
theorem dl_470 : decode code 470 = .ok (.iload 6, 2) := by decide +kernel
theorem dl_472 : decode code 472 = .ok (.i2l, 1) := by decide +kernel
theorem dl_473 : decode code 473 = .ok (.lcmp, 1) := by decide +kernel
theorem dl_474 : decode code 474 = .ok (.ifCond .eq 5, 3) := by decide +kernel
theorem dl_477 : decode code 477 = .ok (.iconst 0, 1) := by decide +kernel
theorem dl_478 : decode code 478 = .ok (.ireturn, 1) := by decide +kernel
theorem dl_479 : decode code 479 = .ok (.goto 456, 3) := by decide +kernel
theorem dl_482 : decode code 482 = .ok (.aload_n 1, 1) := by decide +kernel
theorem dl_483 : decode code 483 = .ok (.aload_n 0, 1) := by decide +kernel
theorem dl_484 : decode code 484 = .ok (.iload 4, 2) := by decide +kernel
theorem dl_486 : decode code 486 = .ok (.iconst 1, 1) := by decide +kernel
theorem dl_487 : decode code 487 = .ok (.iadd, 1) := by decide +kernel
theorem dl_488 : decode code 488 = .ok (.iaload, 1) := by decide +kernel
theorem dl_489 : decode code 489 = .ok (.aload_n 0, 1) := by decide +kernel
theorem dl_490 : decode code 490 = .ok (.iload 4, 2) := by decide +kernel
theorem dl_492 : decode code 492 = .ok (.iconst 2, 1) := by decide +kernel
theorem dl_493 : decode code 493 = .ok (.iadd, 1) := by decide +kernel
theorem dl_494 : decode code 494 = .ok (.iaload, 1) := by decide +kernel
theorem dl_495 : decode code 495 = .ok (.aload_n 0, 1) := by decide +kernel
theorem dl_496 : decode code 496 = .ok (.iload 4, 2) := by decide +kernel
theorem dl_498 : decode code 498 = .ok (.iconst 3, 1) := by decide +kernel
theorem dl_499 : decode code 499 = .ok (.iadd, 1) := by decide +kernel
theorem dl_500 : decode code 500 = .ok (.iaload, 1) := by decide +kernel
theorem dl_501 : decode code 501 = .ok (.aload_n 0, 1) := by decide +kernel
theorem dl_502 : decode code 502 = .ok (.iload 4, 2) := by decide +kernel
theorem dl_504 : decode code 504 = .ok (.iconst 4, 1) := by decide +kernel
theorem dl_505 : decode code 505 = .ok (.iadd, 1) := by decide +kernel
theorem dl_506 : decode code 506 = .ok (.iaload, 1) := by decide +kernel
theorem dl_507 : decode code 507 = .ok (.aload_n 3, 1) := by decide +kernel
theorem dl_508 : decode code 508 = .ok (.invokestatic 64, 3) := by decide +kernel
theorem dl_511 : decode code 511 = .ok (.istore 5, 2) := by decide +kernel
theorem dl_513 : decode code 513 = .ok (.aload_n 2, 1) := by decide +kernel
theorem dl_514 : decode code 514 = .ok (.aload_n 0, 1) := by decide +kernel
theorem dl_515 : decode code 515 = .ok (.iload 4, 2) := by decide +kernel
theorem dl_517 : decode code 517 = .ok (.iconst 1, 1) := by decide +kernel
theorem dl_518 : decode code 518 = .ok (.iadd, 1) := by decide +kernel
theorem dl_519 : decode code 519 = .ok (.iaload, 1) := by decide +kernel
theorem dl_520 : decode code 520 = .ok (.aload_n 0, 1) := by decide +kernel
theorem dl_521 : decode code 521 = .ok (.iload 4, 2) := by decide +kernel
theorem dl_523 : decode code 523 = .ok (.iconst 2, 1) := by decide +kernel
theorem dl_524 : decode code 524 = .ok (.iadd, 1) := by decide +kernel
theorem dl_525 : decode code 525 = .ok (.iaload, 1) := by decide +kernel
theorem dl_526 : decode code 526 = .ok (.aload_n 0, 1) := by decide +kernel
theorem dl_527 : decode code 527 = .ok (.iload 4, 2) := by decide +kernel
theorem dl_529 : decode code 529 = .ok (.iconst 3, 1) := by decide +kernel
theorem dl_530 : decode code 530 = .ok (.iadd, 1) := by decide +kernel
theorem dl_531 : decode code 531 = .ok (.iaload, 1) := by decide +kernel
theorem dl_532 : decode code 532 = .ok (.aload_n 0, 1) := by decide +kernel
theorem dl_533 : decode code 533 = .ok (.iload 4, 2) := by decide +kernel
theorem dl_535 : decode code 535 = .ok (.iconst 4, 1) := by decide +kernel
theorem dl_536 : decode code 536 = .ok (.iadd, 1) := by decide +kernel
theorem dl_537 : decode code 537 = .ok (.iaload, 1) := by decide +kernel
theorem dl_538 : decode code 538 = .ok (.invokevirtual 66, 3) := by decide +kernel
theorem dl_541 : decode code 541 = .ok (.istore 6, 2) := by decide +kernel
theorem dl_543 : decode code 543 = .ok (.aload_n 2, 1) := by decide +kernel
theorem dl_544 : decode code 544 = .ok (.invokevirtual 53, 3) := by decide +kernel
theorem dl_547 : decode code 547 = .ok (.iload 5, 2) := by decide +kernel
theorem dl_549 : decode code 549 = .ok (.if_icmp .eq 5, 3) := by decide +kernel
theorem dl_552 : decode code 552 = .ok (.iconst 0, 1) := by decide +kernel
theorem dl_553 : decode code 553 = .ok (.ireturn, 1) := by decide +kernel
theorem dl_554 : decode code 554 = .ok (.iload 5, 2) := by decide +kernel
theorem dl_556 : decode code 556 = .ok (.ifCond .ne 15, 3) := by decide +kernel
theorem dl_559 : decode code 559 = .ok (.aload_n 3, 1) := by decide +kernel
theorem dl_560 : decode code 560 = .ok (.iconst 0, 1) := by decide +kernel
theorem dl_561 : decode code 561 = .ok (.laload, 1) := by decide +kernel
theorem dl_562 : decode code 562 = .ok (.iload 6, 2) := by decide +kernel
theorem dl_564 : decode code 564 = .ok (.i2l, 1) := by decide +kernel
theorem dl_565 : decode code 565 = .ok (.lcmp, 1) := by decide +kernel
theorem dl_566 : decode code 566 = .ok (.ifCond .eq 5, 3) := by decide +kernel
theorem dl_569 : decode code 569 = .ok (.iconst 0, 1) := by decide +kernel
theorem dl_570 : decode code 570 = .ok (.ireturn, 1) := by decide +kernel
theorem dl_571 : decode code 571 = .ok (.goto 364, 3) := by decide +kernel
theorem dl_574 : decode code 574 = .ok (.aload_n 1, 1) := by decide +kernel
theorem dl_575 : decode code 575 = .ok (.aload_n 0, 1) := by decide +kernel
theorem dl_576 : decode code 576 = .ok (.iload 4, 2) := by decide +kernel
theorem dl_578 : decode code 578 = .ok (.iconst 1, 1) := by decide +kernel
theorem dl_579 : decode code 579 = .ok (.iadd, 1) := by decide +kernel
theorem dl_580 : decode code 580 = .ok (.iaload, 1) := by decide +kernel
theorem dl_581 : decode code 581 = .ok (.aload_n 3, 1) := by decide +kernel
theorem dl_582 : decode code 582 = .ok (.invokestatic 67, 3) := by decide +kernel
theorem dl_585 : decode code 585 = .ok (.istore 5, 2) := by decide +kernel
theorem dl_587 : decode code 587 = .ok (.aload_n 2, 1) := by decide +kernel
theorem dl_588 : decode code 588 = .ok (.aload_n 0, 1) := by decide +kernel
theorem dl_589 : decode code 589 = .ok (.iload 4, 2) := by decide +kernel
theorem dl_591 : decode code 591 = .ok (.iconst 1, 1) := by decide +kernel
theorem dl_592 : decode code 592 = .ok (.iadd, 1) := by decide +kernel
theorem dl_593 : decode code 593 = .ok (.iaload, 1) := by decide +kernel
theorem dl_594 : decode code 594 = .ok (.invokevirtual 70, 3) := by decide +kernel
theorem dl_597 : decode code 597 = .ok (.istore 6, 2) := by decide +kernel
theorem dl_599 : decode code 599 = .ok (.aload_n 2, 1) := by decide +kernel
theorem dl_600 : decode code 600 = .ok (.invokevirtual 53, 3) := by decide +kernel
theorem dl_603 : decode code 603 = .ok (.iload 5, 2) := by decide +kernel
theorem dl_605 : decode code 605 = .ok (.if_icmp .eq 5, 3) := by decide +kernel
theorem dl_608 : decode code 608 = .ok (.iconst 0, 1) := by decide +kernel
theorem dl_609 : decode code 609 = .ok (.ireturn, 1) := by decide +kernel
theorem dl_610 : decode code 610 = .ok (.iload 5, 2) := by decide +kernel
theorem dl_612 : decode code 612 = .ok (.ifCond .ne 15, 3) := by decide +kernel
theorem dl_615 : decode code 615 = .ok (.aload_n 3, 1) := by decide +kernel
theorem dl_616 : decode code 616 = .ok (.iconst 0, 1) := by decide +kernel
theorem dl_617 : decode code 617 = .ok (.laload, 1) := by decide +kernel
theorem dl_618 : decode code 618 = .ok (.iload 6, 2) := by decide +kernel
theorem dl_620 : decode code 620 = .ok (.i2l, 1) := by decide +kernel
theorem dl_621 : decode code 621 = .ok (.lcmp, 1) := by decide +kernel
theorem dl_622 : decode code 622 = .ok (.ifCond .eq 5, 3) := by decide +kernel
theorem dl_625 : decode code 625 = .ok (.iconst 0, 1) := by decide +kernel
theorem dl_626 : decode code 626 = .ok (.ireturn, 1) := by decide +kernel
theorem dl_627 : decode code 627 = .ok (.goto 308, 3) := by decide +kernel
theorem dl_630 : decode code 630 = .ok (.aload_n 1, 1) := by decide +kernel
theorem dl_631 : decode code 631 = .ok (.invokevirtual 71, 3) := by decide +kernel
theorem dl_634 : decode code 634 = .ok (.aload_n 2, 1) := by decide +kernel
theorem dl_635 : decode code 635 = .ok (.invokevirtual 74, 3) := by decide +kernel
theorem dl_638 : decode code 638 = .ok (.goto 297, 3) := by decide +kernel
theorem dl_641 : decode code 641 = .ok (.aload_n 1, 1) := by decide +kernel
theorem dl_642 : decode code 642 = .ok (.aload_n 0, 1) := by decide +kernel
theorem dl_643 : decode code 643 = .ok (.iload 4, 2) := by decide +kernel
theorem dl_645 : decode code 645 = .ok (.iconst 1, 1) := by decide +kernel
theorem dl_646 : decode code 646 = .ok (.iadd, 1) := by decide +kernel
theorem dl_647 : decode code 647 = .ok (.iaload, 1) := by decide +kernel
theorem dl_648 : decode code 648 = .ok (.aload_n 0, 1) := by decide +kernel
theorem dl_649 : decode code 649 = .ok (.iload 4, 2) := by decide +kernel
theorem dl_651 : decode code 651 = .ok (.iconst 2, 1) := by decide +kernel
theorem dl_652 : decode code 652 = .ok (.iadd, 1) := by decide +kernel
theorem dl_653 : decode code 653 = .ok (.iaload, 1) := by decide +kernel
theorem dl_654 : decode code 654 = .ok (.aload_n 0, 1) := by decide +kernel
theorem dl_655 : decode code 655 = .ok (.iload 4, 2) := by decide +kernel
theorem dl_657 : decode code 657 = .ok (.iconst 3, 1) := by decide +kernel
theorem dl_658 : decode code 658 = .ok (.iadd, 1) := by decide +kernel
theorem dl_659 : decode code 659 = .ok (.iaload, 1) := by decide +kernel
theorem dl_660 : decode code 660 = .ok (.aload_n 0, 1) := by decide +kernel
theorem dl_661 : decode code 661 = .ok (.iload 4, 2) := by decide +kernel
theorem dl_663 : decode code 663 = .ok (.iconst 4, 1) := by decide +kernel
theorem dl_664 : decode code 664 = .ok (.iadd, 1) := by decide +kernel
theorem dl_665 : decode code 665 = .ok (.iaload, 1) := by decide +kernel
theorem dl_666 : decode code 666 = .ok (.invokevirtual 75, 3) := by decide +kernel
theorem dl_669 : decode code 669 = .ok (.aload_n 2, 1) := by decide +kernel
theorem dl_670 : decode code 670 = .ok (.aload_n 0, 1) := by decide +kernel
theorem dl_671 : decode code 671 = .ok (.iload 4, 2) := by decide +kernel
theorem dl_673 : decode code 673 = .ok (.iconst 1, 1) := by decide +kernel
theorem dl_674 : decode code 674 = .ok (.iadd, 1) := by decide +kernel
theorem dl_675 : decode code 675 = .ok (.iaload, 1) := by decide +kernel
theorem dl_676 : decode code 676 = .ok (.aload_n 0, 1) := by decide +kernel
theorem dl_677 : decode code 677 = .ok (.iload 4, 2) := by decide +kernel
theorem dl_679 : decode code 679 = .ok (.iconst 2, 1) := by decide +kernel
theorem dl_680 : decode code 680 = .ok (.iadd, 1) := by decide +kernel
theorem dl_681 : decode code 681 = .ok (.iaload, 1) := by decide +kernel
theorem dl_682 : decode code 682 = .ok (.aload_n 0, 1) := by decide +kernel
theorem dl_683 : decode code 683 = .ok (.iload 4, 2) := by decide +kernel
theorem dl_685 : decode code 685 = .ok (.iconst 3, 1) := by decide +kernel
theorem dl_686 : decode code 686 = .ok (.iadd, 1) := by decide +kernel
theorem dl_687 : decode code 687 = .ok (.iaload, 1) := by decide +kernel
theorem dl_688 : decode code 688 = .ok (.aload_n 0, 1) := by decide +kernel
theorem dl_689 : decode code 689 = .ok (.iload 4, 2) := by decide +kernel
theorem dl_691 : decode code 691 = .ok (.iconst 4, 1) := by decide +kernel
theorem dl_692 : decode code 692 = .ok (.iadd, 1) := by decide +kernel
theorem dl_693 : decode code 693 = .ok (.iaload, 1) := by decide +kernel
theorem dl_694 : decode code 694 = .ok (.invokevirtual 78, 3) := by decide +kernel
theorem dl_697 : decode code 697 = .ok (.if_icmp .eq 238, 3) := by decide +kernel
theorem dl_700 : decode code 700 = .ok (.iconst 0, 1) := by decide +kernel
theorem dl_701 : decode code 701 = .ok (.ireturn, 1) := by decide +kernel
theorem dl_702 : decode code 702 = .ok (.aload_n 1, 1) := by decide +kernel
theorem dl_703 : decode code 703 = .ok (.aload_n 0, 1) := by decide +kernel
theorem dl_704 : decode code 704 = .ok (.iload 4, 2) := by decide +kernel
theorem dl_706 : decode code 706 = .ok (.iconst 1, 1) := by decide +kernel
theorem dl_707 : decode code 707 = .ok (.iadd, 1) := by decide +kernel
theorem dl_708 : decode code 708 = .ok (.iaload, 1) := by decide +kernel
theorem dl_709 : decode code 709 = .ok (.aload_n 0, 1) := by decide +kernel
theorem dl_710 : decode code 710 = .ok (.iload 4, 2) := by decide +kernel
theorem dl_712 : decode code 712 = .ok (.iconst 2, 1) := by decide +kernel
theorem dl_713 : decode code 713 = .ok (.iadd, 1) := by decide +kernel
theorem dl_714 : decode code 714 = .ok (.iaload, 1) := by decide +kernel
theorem dl_715 : decode code 715 = .ok (.aload_n 0, 1) := by decide +kernel
theorem dl_716 : decode code 716 = .ok (.iload 4, 2) := by decide +kernel
theorem dl_718 : decode code 718 = .ok (.iconst 3, 1) := by decide +kernel
theorem dl_719 : decode code 719 = .ok (.iadd, 1) := by decide +kernel
theorem dl_720 : decode code 720 = .ok (.iaload, 1) := by decide +kernel
theorem dl_721 : decode code 721 = .ok (.invokevirtual 79, 3) := by decide +kernel
theorem dl_724 : decode code 724 = .ok (.aload_n 2, 1) := by decide +kernel
theorem dl_725 : decode code 725 = .ok (.aload_n 0, 1) := by decide +kernel
theorem dl_726 : decode code 726 = .ok (.iload 4, 2) := by decide +kernel
theorem dl_728 : decode code 728 = .ok (.iconst 1, 1) := by decide +kernel
theorem dl_729 : decode code 729 = .ok (.iadd, 1) := by decide +kernel
theorem dl_730 : decode code 730 = .ok (.iaload, 1) := by decide +kernel
theorem dl_731 : decode code 731 = .ok (.aload_n 0, 1) := by decide +kernel
theorem dl_732 : decode code 732 = .ok (.iload 4, 2) := by decide +kernel
theorem dl_734 : decode code 734 = .ok (.iconst 2, 1) := by decide +kernel
theorem dl_735 : decode code 735 = .ok (.iadd, 1) := by decide +kernel
theorem dl_736 : decode code 736 = .ok (.iaload, 1) := by decide +kernel
theorem dl_737 : decode code 737 = .ok (.aload_n 0, 1) := by decide +kernel
theorem dl_738 : decode code 738 = .ok (.iload 4, 2) := by decide +kernel
theorem dl_740 : decode code 740 = .ok (.iconst 3, 1) := by decide +kernel
theorem dl_741 : decode code 741 = .ok (.iadd, 1) := by decide +kernel
theorem dl_742 : decode code 742 = .ok (.iaload, 1) := by decide +kernel
theorem dl_743 : decode code 743 = .ok (.invokevirtual 82, 3) := by decide +kernel
theorem dl_746 : decode code 746 = .ok (.if_icmp .eq 189, 3) := by decide +kernel
theorem dl_749 : decode code 749 = .ok (.iconst 0, 1) := by decide +kernel
theorem dl_750 : decode code 750 = .ok (.ireturn, 1) := by decide +kernel
theorem dl_751 : decode code 751 = .ok (.aload_n 1, 1) := by decide +kernel
theorem dl_752 : decode code 752 = .ok (.aload_n 0, 1) := by decide +kernel
theorem dl_753 : decode code 753 = .ok (.iload 4, 2) := by decide +kernel
theorem dl_755 : decode code 755 = .ok (.iconst 1, 1) := by decide +kernel
theorem dl_756 : decode code 756 = .ok (.iadd, 1) := by decide +kernel
theorem dl_757 : decode code 757 = .ok (.iaload, 1) := by decide +kernel
theorem dl_758 : decode code 758 = .ok (.aload_n 0, 1) := by decide +kernel
theorem dl_759 : decode code 759 = .ok (.iload 4, 2) := by decide +kernel
theorem dl_761 : decode code 761 = .ok (.iconst 2, 1) := by decide +kernel
theorem dl_762 : decode code 762 = .ok (.iadd, 1) := by decide +kernel
theorem dl_763 : decode code 763 = .ok (.iaload, 1) := by decide +kernel
theorem dl_764 : decode code 764 = .ok (.aload_n 0, 1) := by decide +kernel
theorem dl_765 : decode code 765 = .ok (.iload 4, 2) := by decide +kernel
theorem dl_767 : decode code 767 = .ok (.iconst 3, 1) := by decide +kernel
theorem dl_768 : decode code 768 = .ok (.iadd, 1) := by decide +kernel
theorem dl_769 : decode code 769 = .ok (.iaload, 1) := by decide +kernel
theorem dl_770 : decode code 770 = .ok (.aload_n 0, 1) := by decide +kernel
theorem dl_771 : decode code 771 = .ok (.iload 4, 2) := by decide +kernel
theorem dl_773 : decode code 773 = .ok (.iconst 4, 1) := by decide +kernel
theorem dl_774 : decode code 774 = .ok (.iadd, 1) := by decide +kernel
theorem dl_775 : decode code 775 = .ok (.iaload, 1) := by decide +kernel
theorem dl_776 : decode code 776 = .ok (.invokevirtual 83, 3) := by decide +kernel
theorem dl_779 : decode code 779 = .ok (.aload_n 2, 1) := by decide +kernel
theorem dl_780 : decode code 780 = .ok (.aload_n 0, 1) := by decide +kernel
theorem dl_781 : decode code 781 = .ok (.iload 4, 2) := by decide +kernel
theorem dl_783 : decode code 783 = .ok (.iconst 1, 1) := by decide +kernel
theorem dl_784 : decode code 784 = .ok (.iadd, 1) := by decide +kernel
theorem dl_785 : decode code 785 = .ok (.iaload, 1) := by decide +kernel
theorem dl_786 : decode code 786 = .ok (.aload_n 0, 1) := by decide +kernel
theorem dl_787 : decode code 787 = .ok (.iload 4, 2) := by decide +kernel
theorem dl_789 : decode code 789 = .ok (.iconst 2, 1) := by decide +kernel
theorem dl_790 : decode code 790 = .ok (.iadd, 1) := by decide +kernel
theorem dl_791 : decode code 791 = .ok (.iaload, 1) := by decide +kernel
theorem dl_792 : decode code 792 = .ok (.aload_n 0, 1) := by decide +kernel
theorem dl_793 : decode code 793 = .ok (.iload 4, 2) := by decide +kernel
theorem dl_795 : decode code 795 = .ok (.iconst 3, 1) := by decide +kernel
theorem dl_796 : decode code 796 = .ok (.iadd, 1) := by decide +kernel
theorem dl_797 : decode code 797 = .ok (.iaload, 1) := by decide +kernel
theorem dl_798 : decode code 798 = .ok (.aload_n 0, 1) := by decide +kernel
theorem dl_799 : decode code 799 = .ok (.iload 4, 2) := by decide +kernel
theorem dl_801 : decode code 801 = .ok (.iconst 4, 1) := by decide +kernel
theorem dl_802 : decode code 802 = .ok (.iadd, 1) := by decide +kernel
theorem dl_803 : decode code 803 = .ok (.iaload, 1) := by decide +kernel
theorem dl_804 : decode code 804 = .ok (.invokevirtual 86, 3) := by decide +kernel
theorem dl_807 : decode code 807 = .ok (.if_icmp .eq 128, 3) := by decide +kernel
theorem dl_810 : decode code 810 = .ok (.iconst 0, 1) := by decide +kernel
theorem dl_811 : decode code 811 = .ok (.ireturn, 1) := by decide +kernel
theorem dl_812 : decode code 812 = .ok (.aload_n 1, 1) := by decide +kernel
theorem dl_813 : decode code 813 = .ok (.aload_n 0, 1) := by decide +kernel
theorem dl_814 : decode code 814 = .ok (.iload 4, 2) := by decide +kernel
theorem dl_816 : decode code 816 = .ok (.iconst 1, 1) := by decide +kernel
theorem dl_817 : decode code 817 = .ok (.iadd, 1) := by decide +kernel
theorem dl_818 : decode code 818 = .ok (.iaload, 1) := by decide +kernel
theorem dl_819 : decode code 819 = .ok (.aload_n 0, 1) := by decide +kernel
theorem dl_820 : decode code 820 = .ok (.iload 4, 2) := by decide +kernel
theorem dl_822 : decode code 822 = .ok (.iconst 2, 1) := by decide +kernel
theorem dl_823 : decode code 823 = .ok (.iadd, 1) := by decide +kernel
theorem dl_824 : decode code 824 = .ok (.iaload, 1) := by decide +kernel
theorem dl_825 : decode code 825 = .ok (.aload_n 0, 1) := by decide +kernel
theorem dl_826 : decode code 826 = .ok (.iload 4, 2) := by decide +kernel
theorem dl_828 : decode code 828 = .ok (.iconst 3, 1) := by decide +kernel
theorem dl_829 : decode code 829 = .ok (.iadd, 1) := by decide +kernel
theorem dl_830 : decode code 830 = .ok (.iaload, 1) := by decide +kernel
theorem dl_831 : decode code 831 = .ok (.invokevirtual 87, 3) := by decide +kernel
theorem dl_834 : decode code 834 = .ok (.aload_n 2, 1) := by decide +kernel
theorem dl_835 : decode code 835 = .ok (.aload_n 0, 1) := by decide +kernel
theorem dl_836 : decode code 836 = .ok (.iload 4, 2) := by decide +kernel
theorem dl_838 : decode code 838 = .ok (.iconst 1, 1) := by decide +kernel
theorem dl_839 : decode code 839 = .ok (.iadd, 1) := by decide +kernel
theorem dl_840 : decode code 840 = .ok (.iaload, 1) := by decide +kernel
theorem dl_841 : decode code 841 = .ok (.aload_n 0, 1) := by decide +kernel
theorem dl_842 : decode code 842 = .ok (.iload 4, 2) := by decide +kernel
theorem dl_844 : decode code 844 = .ok (.iconst 2, 1) := by decide +kernel
theorem dl_845 : decode code 845 = .ok (.iadd, 1) := by decide +kernel
theorem dl_846 : decode code 846 = .ok (.iaload, 1) := by decide +kernel
theorem dl_847 : decode code 847 = .ok (.aload_n 0, 1) := by decide +kernel
theorem dl_848 : decode code 848 = .ok (.iload 4, 2) := by decide +kernel
theorem dl_850 : decode code 850 = .ok (.iconst 3, 1) := by decide +kernel
theorem dl_851 : decode code 851 = .ok (.iadd, 1) := by decide +kernel
theorem dl_852 : decode code 852 = .ok (.iaload, 1) := by decide +kernel
theorem dl_853 : decode code 853 = .ok (.invokevirtual 90, 3) := by decide +kernel
theorem dl_856 : decode code 856 = .ok (.if_icmp .eq 79, 3) := by decide +kernel
theorem dl_859 : decode code 859 = .ok (.iconst 0, 1) := by decide +kernel
theorem dl_860 : decode code 860 = .ok (.ireturn, 1) := by decide +kernel
theorem dl_861 : decode code 861 = .ok (.aload_n 1, 1) := by decide +kernel
theorem dl_862 : decode code 862 = .ok (.aload_n 0, 1) := by decide +kernel
theorem dl_863 : decode code 863 = .ok (.iload 4, 2) := by decide +kernel
theorem dl_865 : decode code 865 = .ok (.iconst 1, 1) := by decide +kernel
theorem dl_866 : decode code 866 = .ok (.iadd, 1) := by decide +kernel
theorem dl_867 : decode code 867 = .ok (.iaload, 1) := by decide +kernel
theorem dl_868 : decode code 868 = .ok (.aload_n 0, 1) := by decide +kernel
theorem dl_869 : decode code 869 = .ok (.iload 4, 2) := by decide +kernel
theorem dl_871 : decode code 871 = .ok (.iconst 2, 1) := by decide +kernel
theorem dl_872 : decode code 872 = .ok (.iadd, 1) := by decide +kernel
theorem dl_873 : decode code 873 = .ok (.iaload, 1) := by decide +kernel
theorem dl_874 : decode code 874 = .ok (.invokevirtual 91, 3) := by decide +kernel
theorem dl_877 : decode code 877 = .ok (.aload_n 2, 1) := by decide +kernel
theorem dl_878 : decode code 878 = .ok (.aload_n 0, 1) := by decide +kernel
theorem dl_879 : decode code 879 = .ok (.iload 4, 2) := by decide +kernel
theorem dl_881 : decode code 881 = .ok (.iconst 1, 1) := by decide +kernel
theorem dl_882 : decode code 882 = .ok (.iadd, 1) := by decide +kernel
theorem dl_883 : decode code 883 = .ok (.iaload, 1) := by decide +kernel
theorem dl_884 : decode code 884 = .ok (.aload_n 0, 1) := by decide +kernel
theorem dl_885 : decode code 885 = .ok (.iload 4, 2) := by decide +kernel
theorem dl_887 : decode code 887 = .ok (.iconst 2, 1) := by decide +kernel
theorem dl_888 : decode code 888 = .ok (.iadd, 1) := by decide +kernel
theorem dl_889 : decode code 889 = .ok (.iaload, 1) := by decide +kernel
theorem dl_890 : decode code 890 = .ok (.invokevirtual 95, 3) := by decide +kernel
theorem dl_893 : decode code 893 = .ok (.if_icmp .eq 42, 3) := by decide +kernel
theorem dl_896 : decode code 896 = .ok (.iconst 0, 1) := by decide +kernel
theorem dl_897 : decode code 897 = .ok (.ireturn, 1) := by decide +kernel
theorem dl_898 : decode code 898 = .ok (.aload_n 1, 1) := by decide +kernel
theorem dl_899 : decode code 899 = .ok (.aload_n 0, 1) := by decide +kernel
theorem dl_900 : decode code 900 = .ok (.iload 4, 2) := by decide +kernel
theorem dl_902 : decode code 902 = .ok (.iconst 1, 1) := by decide +kernel
theorem dl_903 : decode code 903 = .ok (.iadd, 1) := by decide +kernel
theorem dl_904 : decode code 904 = .ok (.iaload, 1) := by decide +kernel
theorem dl_905 : decode code 905 = .ok (.aload_n 0, 1) := by decide +kernel
theorem dl_906 : decode code 906 = .ok (.iload 4, 2) := by decide +kernel
theorem dl_908 : decode code 908 = .ok (.iconst 2, 1) := by decide +kernel
theorem dl_909 : decode code 909 = .ok (.iadd, 1) := by decide +kernel
theorem dl_910 : decode code 910 = .ok (.iaload, 1) := by decide +kernel
theorem dl_911 : decode code 911 = .ok (.invokevirtual 96, 3) := by decide +kernel
theorem dl_914 : decode code 914 = .ok (.aload_n 2, 1) := by decide +kernel
theorem dl_915 : decode code 915 = .ok (.aload_n 0, 1) := by decide +kernel
theorem dl_916 : decode code 916 = .ok (.iload 4, 2) := by decide +kernel
theorem dl_918 : decode code 918 = .ok (.iconst 1, 1) := by decide +kernel
theorem dl_919 : decode code 919 = .ok (.iadd, 1) := by decide +kernel
theorem dl_920 : decode code 920 = .ok (.iaload, 1) := by decide +kernel
theorem dl_921 : decode code 921 = .ok (.aload_n 0, 1) := by decide +kernel
theorem dl_922 : decode code 922 = .ok (.iload 4, 2) := by decide +kernel
theorem dl_924 : decode code 924 = .ok (.iconst 2, 1) := by decide +kernel
theorem dl_925 : decode code 925 = .ok (.iadd, 1) := by decide +kernel
theorem dl_926 : decode code 926 = .ok (.iaload, 1) := by decide +kernel
theorem dl_927 : decode code 927 = .ok (.invokevirtual 99, 3) := by decide +kernel
theorem dl_930 : decode code 930 = .ok (.if_icmp .eq 5, 3) := by decide +kernel
theorem dl_933 : decode code 933 = .ok (.iconst 0, 1) := by decide +kernel
theorem dl_934 : decode code 934 = .ok (.ireturn, 1) := by decide +kernel
theorem dl_935 : decode code 935 = .ok (.iinc 4 5, 3) := by decide +kernel
theorem dl_938 : decode code 938 = .ok (.goto (-915), 3) := by decide +kernel
theorem dl_941 : decode code 941 = .ok (.iconst 1, 1) := by decide +kernel
theorem dl_942 : decode code 942 = .ok (.ireturn, 1) := by decide +kernel
theorem ll_37 : Cond.methodLink R_Lw 37 ⟨"AreaRouters", "place", "(III)Z"⟩ ∈ lw_tbl := lt_1 (i := 155) (by set_option maxRecDepth 100000 in exact rfl)
theorem ll_41 : Cond.methodLink R_Lw 41 ⟨"AreaRoutersModel", "place", "(III)Z"⟩ ∈ lw_tbl := lt_4 (i := 111) (by set_option maxRecDepth 100000 in exact rfl)
theorem ll_42 : Cond.methodLink R_Lw 42 ⟨"AreaRouters", "attach", "(IIII)Z"⟩ ∈ lw_tbl := lt_1 (i := 170) (by set_option maxRecDepth 100000 in exact rfl)
theorem ll_46 : Cond.methodLink R_Lw 46 ⟨"AreaRoutersModel", "attach", "(IIII)Z"⟩ ∈ lw_tbl := lt_4 (i := 115) (by set_option maxRecDepth 100000 in exact rfl)
theorem ll_47 : Cond.methodLink R_Lw 47 ⟨"AreaRoutersLaw", "hello", "(LAreaRouters;III[J)I"⟩ ∈ lw_tbl := lt_2 (i := 95) (by set_option maxRecDepth 100000 in exact rfl)
theorem ll_52 : Cond.methodLink R_Lw 52 ⟨"AreaRoutersModel", "hello", "(III)I"⟩ ∈ lw_tbl := lt_3 (i := 215) (by set_option maxRecDepth 100000 in exact rfl)
theorem ll_53 : Cond.methodLink R_Lw 53 ⟨"AreaRoutersModel", "thrown", "()I"⟩ ∈ lw_tbl := lt_3 (i := 211) (by set_option maxRecDepth 100000 in exact rfl)
theorem ll_57 : Cond.methodLink R_Lw 57 ⟨"AreaRoutersLaw", "spread", "(LAreaRouters;IIII[J)I"⟩ ∈ lw_tbl := lt_2 (i := 207) (by set_option maxRecDepth 100000 in exact rfl)
theorem ll_60 : Cond.methodLink R_Lw 60 ⟨"AreaRoutersModel", "spread", "(IIII)I"⟩ ∈ lw_tbl := lt_4 (i := 72) (by set_option maxRecDepth 100000 in exact rfl)
theorem ll_61 : Cond.methodLink R_Lw 61 ⟨"AreaRoutersLaw", "summary", "(LAreaRouters;IIII[J)I"⟩ ∈ lw_tbl := lt_3 (i := 88) (by set_option maxRecDepth 100000 in exact rfl)
theorem ll_63 : Cond.methodLink R_Lw 63 ⟨"AreaRoutersModel", "summary", "(IIII)I"⟩ ∈ lw_tbl := lt_4 (i := 95) (by set_option maxRecDepth 100000 in exact rfl)
theorem ll_64 : Cond.methodLink R_Lw 64 ⟨"AreaRoutersLaw", "request", "(LAreaRouters;IIII[J)I"⟩ ∈ lw_tbl := lt_3 (i := 110) (by set_option maxRecDepth 100000 in exact rfl)
theorem ll_66 : Cond.methodLink R_Lw 66 ⟨"AreaRoutersModel", "request", "(IIII)I"⟩ ∈ lw_tbl := lt_4 (i := 103) (by set_option maxRecDepth 100000 in exact rfl)
theorem ll_67 : Cond.methodLink R_Lw 67 ⟨"AreaRoutersLaw", "describe", "(LAreaRouters;I[J)I"⟩ ∈ lw_tbl := lt_3 (i := 122) (by set_option maxRecDepth 100000 in exact rfl)
theorem ll_70 : Cond.methodLink R_Lw 70 ⟨"AreaRoutersModel", "describe", "(I)I"⟩ ∈ lw_tbl := lt_4 (i := 5) (by set_option maxRecDepth 100000 in exact rfl)
theorem ll_71 : Cond.methodLink R_Lw 71 ⟨"AreaRouters", "tick", "()V"⟩ ∈ lw_tbl := lt_1 (i := 186) (by set_option maxRecDepth 100000 in exact rfl)
theorem ll_74 : Cond.methodLink R_Lw 74 ⟨"AreaRoutersModel", "tick", "()V"⟩ ∈ lw_tbl := lt_4 (i := 107) (by set_option maxRecDepth 100000 in exact rfl)
theorem ll_75 : Cond.methodLink R_Lw 75 ⟨"AreaRouters", "neighbour", "(IIII)Z"⟩ ∈ lw_tbl := lt_1 (i := 218) (by set_option maxRecDepth 100000 in exact rfl)
theorem ll_78 : Cond.methodLink R_Lw 78 ⟨"AreaRoutersModel", "neighbour", "(IIII)Z"⟩ ∈ lw_tbl := lt_4 (i := 165) (by set_option maxRecDepth 100000 in exact rfl)
theorem ll_79 : Cond.methodLink R_Lw 79 ⟨"AreaRouters", "speaker", "(III)I"⟩ ∈ lw_tbl := lt_1 (i := 233) (by set_option maxRecDepth 100000 in exact rfl)
theorem ll_82 : Cond.methodLink R_Lw 82 ⟨"AreaRoutersModel", "speaker", "(III)I"⟩ ∈ lw_tbl := lt_4 (i := 169) (by set_option maxRecDepth 100000 in exact rfl)
theorem ll_83 : Cond.methodLink R_Lw 83 ⟨"AreaRouters", "description", "(IIII)I"⟩ ∈ lw_tbl := lt_2 (i := 9) (by set_option maxRecDepth 100000 in exact rfl)
theorem ll_86 : Cond.methodLink R_Lw 86 ⟨"AreaRoutersModel", "description", "(IIII)I"⟩ ∈ lw_tbl := lt_4 (i := 173) (by set_option maxRecDepth 100000 in exact rfl)
theorem ll_87 : Cond.methodLink R_Lw 87 ⟨"AreaRouters", "marks", "(III)I"⟩ ∈ lw_tbl := lt_2 (i := 24) (by set_option maxRecDepth 100000 in exact rfl)
theorem ll_90 : Cond.methodLink R_Lw 90 ⟨"AreaRoutersModel", "marks", "(III)I"⟩ ∈ lw_tbl := lt_4 (i := 180) (by set_option maxRecDepth 100000 in exact rfl)
theorem ll_91 : Cond.methodLink R_Lw 91 ⟨"AreaRouters", "route", "(II)I"⟩ ∈ lw_tbl := lt_2 (i := 32) (by set_option maxRecDepth 100000 in exact rfl)
theorem ll_95 : Cond.methodLink R_Lw 95 ⟨"AreaRoutersModel", "route", "(II)I"⟩ ∈ lw_tbl := lt_4 (i := 119) (by set_option maxRecDepth 100000 in exact rfl)
theorem ll_96 : Cond.methodLink R_Lw 96 ⟨"AreaRouters", "trace", "(II)I"⟩ ∈ lw_tbl := lt_2 (i := 91) (by set_option maxRecDepth 100000 in exact rfl)
theorem ll_99 : Cond.methodLink R_Lw 99 ⟨"AreaRoutersModel", "trace", "(II)I"⟩ ∈ lw_tbl := lt_4 (i := 161) (by set_option maxRecDepth 100000 in exact rfl)
