/-! names: classes, fields, methods, words (by program, out of the claim's tables and listing) -/
abbrev R_AR : String := "AreaRouters"
def T_AR : u_T := fun k => match k with
  | 0 => ("AreaRouters", "areas", "[I", true)
  | 1 => ("AreaRouters", "levelSets", "[I", true)
  | 2 => ("AreaRouters", "wiring", "LAreaRouters$Wiring;", true)
  | 3 => ("AreaRouters", "hearings", "[LAreaRouters$Hearing;", true)
  | 4 => ("AreaRouters", "bases", "[LAreaRouters$Base;", true)
  | 5 => ("AreaRouters", "draft", "LAreaRouters$Draft;", true)
  | _ => ("AreaRouters", "ways", "LAreaRouters$Ways;", true)
def ty_AR : Nat → FieldType := fun k => match k with
  | 0 => .array .int
  | 1 => .array .int
  | 2 => .object "AreaRouters$Wiring"
  | 3 => .array (.object "AreaRouters$Hearing")
  | 4 => .array (.object "AreaRouters$Base")
  | 5 => .object "AreaRouters$Draft"
  | _ => .object "AreaRouters$Ways"
theorem tn_AR : ∀ a, a < 7 → ∀ b, b < 7 → a ≠ b → (T_AR a).2.1 ≠ (T_AR b).2.1 := by decide +kernel
theorem tt_AR : ∀ k, k < 7 → parseFieldDescriptor (T_AR k).2.2.1 = some (ty_AR k) := by decide +kernel
theorem il_AR : ∀ w ∈ u_ws R_AR T_AR 7, w ∈ lw_tbl := by
  intro w hw
  have hz : u_ws R_AR T_AR 7 = [.laysFinal "AreaRouters" "AreaRouters" "areas" "[I", .laysFinal "AreaRouters" "AreaRouters" "levelSets" "[I", .laysFinal "AreaRouters" "AreaRouters" "wiring" "LAreaRouters$Wiring;", .laysFinal "AreaRouters" "AreaRouters" "hearings" "[LAreaRouters$Hearing;", .laysFinal "AreaRouters" "AreaRouters" "bases" "[LAreaRouters$Base;", .laysFinal "AreaRouters" "AreaRouters" "draft" "LAreaRouters$Draft;", .laysFinal "AreaRouters" "AreaRouters" "ways" "LAreaRouters$Ways;"] := by decide +kernel
  rw [hz] at hw
  simp only [List.mem_cons, List.not_mem_nil, or_false] at hw
  rcases hw with rfl | rfl | rfl | rfl | rfl | rfl | rfl
  · exact lt_1 (i := 140) (by set_option maxRecDepth 100000 in exact rfl)
  · exact lt_1 (i := 142) (by set_option maxRecDepth 100000 in exact rfl)
  · exact lt_1 (i := 144) (by set_option maxRecDepth 100000 in exact rfl)
  · exact lt_1 (i := 146) (by set_option maxRecDepth 100000 in exact rfl)
  · exact lt_1 (i := 148) (by set_option maxRecDepth 100000 in exact rfl)
  · exact lt_1 (i := 150) (by set_option maxRecDepth 100000 in exact rfl)
  · exact lt_1 (i := 152) (by set_option maxRecDepth 100000 in exact rfl)
theorem in_AR : ∀ w ∈ u_ws R_AR T_AR 7, w ∈ gw_tbl := fun w hw => gw_in (il_AR w hw) (by
  have hz : ∀ w ∈ u_ws R_AR T_AR 7, gw_ok w = true := by decide +kernel
  exact hz w hw)
abbrev R_Wi : String := "AreaRouters$Wiring"
def T_Wi : u_T := fun k => match k with
  | 0 => ("AreaRouters$Wiring", "metrics", "[I", true)
  | _ => ("AreaRouters$Wiring", "priorities", "[I", true)
def ty_Wi : Nat → FieldType := fun k => match k with
  | 0 => .array .int
  | _ => .array .int
theorem tn_Wi : ∀ a, a < 2 → ∀ b, b < 2 → a ≠ b → (T_Wi a).2.1 ≠ (T_Wi b).2.1 := by decide +kernel
theorem tt_Wi : ∀ k, k < 2 → parseFieldDescriptor (T_Wi k).2.2.1 = some (ty_Wi k) := by decide +kernel
theorem il_Wi : ∀ w ∈ u_ws R_Wi T_Wi 2, w ∈ lw_tbl := by
  intro w hw
  have hz : u_ws R_Wi T_Wi 2 = [.laysFinal "AreaRouters$Wiring" "AreaRouters$Wiring" "metrics" "[I", .laysFinal "AreaRouters$Wiring" "AreaRouters$Wiring" "priorities" "[I"] := by decide +kernel
  rw [hz] at hw
  simp only [List.mem_cons, List.not_mem_nil, or_false] at hw
  rcases hw with rfl | rfl
  · exact lt_1 (i := 31) (by set_option maxRecDepth 100000 in exact rfl)
  · exact lt_1 (i := 33) (by set_option maxRecDepth 100000 in exact rfl)
theorem in_Wi : ∀ w ∈ u_ws R_Wi T_Wi 2, w ∈ gw_tbl := fun w hw => gw_in (il_Wi w hw) (by
  have hz : ∀ w ∈ u_ws R_Wi T_Wi 2, gw_ok w = true := by decide +kernel
  exact hz w hw)
abbrev R_He : String := "AreaRouters$Hearing"
def T_He : u_T := fun k => match k with
  | 0 => ("AreaRouters$Hearing", "ticksLeft", "[I", true)
  | _ => ("AreaRouters$Hearing", "named", "[Z", true)
def ty_He : Nat → FieldType := fun k => match k with
  | 0 => .array .int
  | _ => .array .boolean
theorem tn_He : ∀ a, a < 2 → ∀ b, b < 2 → a ≠ b → (T_He a).2.1 ≠ (T_He b).2.1 := by decide +kernel
theorem tt_He : ∀ k, k < 2 → parseFieldDescriptor (T_He k).2.2.1 = some (ty_He k) := by decide +kernel
theorem il_He : ∀ w ∈ u_ws R_He T_He 2, w ∈ lw_tbl := by
  intro w hw
  have hz : u_ws R_He T_He 2 = [.laysFinal "AreaRouters$Hearing" "AreaRouters$Hearing" "ticksLeft" "[I", .laysFinal "AreaRouters$Hearing" "AreaRouters$Hearing" "named" "[Z"] := by decide +kernel
  rw [hz] at hw
  simp only [List.mem_cons, List.not_mem_nil, or_false] at hw
  rcases hw with rfl | rfl
  · exact lt_1 (i := 46) (by set_option maxRecDepth 100000 in exact rfl)
  · exact lt_1 (i := 48) (by set_option maxRecDepth 100000 in exact rfl)
theorem in_He : ∀ w ∈ u_ws R_He T_He 2, w ∈ gw_tbl := fun w hw => gw_in (il_He w hw) (by
  have hz : ∀ w ∈ u_ws R_He T_He 2, gw_ok w = true := by decide +kernel
  exact hz w hw)
abbrev R_Dr : String := "AreaRouters$Draft"
def T_Dr : u_T := fun k => match k with
  | 0 => ("AreaRouters$Draft", "links", "[I", true)
  | 1 => ("AreaRouters$Draft", "linkCount", "I", false)
  | 2 => ("AreaRouters$Draft", "area", "I", false)
  | _ => ("AreaRouters$Draft", "exit", "Z", false)
def ty_Dr : Nat → FieldType := fun k => match k with
  | 0 => .array .int
  | 1 => .int
  | 2 => .int
  | _ => .boolean
theorem tn_Dr : ∀ a, a < 4 → ∀ b, b < 4 → a ≠ b → (T_Dr a).2.1 ≠ (T_Dr b).2.1 := by decide +kernel
theorem tt_Dr : ∀ k, k < 4 → parseFieldDescriptor (T_Dr k).2.2.1 = some (ty_Dr k) := by decide +kernel
theorem il_Dr : ∀ w ∈ u_ws R_Dr T_Dr 4, w ∈ lw_tbl := by
  intro w hw
  have hz : u_ws R_Dr T_Dr 4 = [.laysFinal "AreaRouters$Draft" "AreaRouters$Draft" "links" "[I", .lays "AreaRouters$Draft" "AreaRouters$Draft" "linkCount" "I", .lays "AreaRouters$Draft" "AreaRouters$Draft" "area" "I", .lays "AreaRouters$Draft" "AreaRouters$Draft" "exit" "Z"] := by decide +kernel
  rw [hz] at hw
  simp only [List.mem_cons, List.not_mem_nil, or_false] at hw
  rcases hw with rfl | rfl | rfl | rfl
  · exact lt_1 (i := 108) (by set_option maxRecDepth 100000 in exact rfl)
  · exact lt_1 (i := 110) (by set_option maxRecDepth 100000 in exact rfl)
  · exact lt_1 (i := 112) (by set_option maxRecDepth 100000 in exact rfl)
  · exact lt_1 (i := 114) (by set_option maxRecDepth 100000 in exact rfl)
theorem in_Dr : ∀ w ∈ u_ws R_Dr T_Dr 4, w ∈ gw_tbl := fun w hw => gw_in (il_Dr w hw) (by
  have hz : ∀ w ∈ u_ws R_Dr T_Dr 4, gw_ok w = true := by decide +kernel
  exact hz w hw)
abbrev R_Ba : String := "AreaRouters$Base"
def T_Ba : u_T := fun k => match k with
  | 0 => ("AreaRouters$Base", "sequences", "[I", true)
  | 1 => ("AreaRouters$Base", "greatest", "[I", true)
  | 2 => ("AreaRouters$Base", "lives", "[I", true)
  | 3 => ("AreaRouters$Base", "ticksAtRest", "[I", true)
  | 4 => ("AreaRouters$Base", "exits", "[Z", true)
  | 5 => ("AreaRouters$Base", "areas", "[I", true)
  | 6 => ("AreaRouters$Base", "linkCounts", "[I", true)
  | 7 => ("AreaRouters$Base", "links", "[I", true)
  | 8 => ("AreaRouters$Base", "due", "[I", true)
  | _ => ("AreaRouters$Base", "asked", "[I", true)
def ty_Ba : Nat → FieldType := fun k => match k with
  | 0 => .array .int
  | 1 => .array .int
  | 2 => .array .int
  | 3 => .array .int
  | 4 => .array .boolean
  | 5 => .array .int
  | 6 => .array .int
  | 7 => .array .int
  | 8 => .array .int
  | _ => .array .int
theorem tn_Ba : ∀ a, a < 10 → ∀ b, b < 10 → a ≠ b → (T_Ba a).2.1 ≠ (T_Ba b).2.1 := by decide +kernel
theorem tt_Ba : ∀ k, k < 10 → parseFieldDescriptor (T_Ba k).2.2.1 = some (ty_Ba k) := by decide +kernel
theorem il_Ba : ∀ w ∈ u_ws R_Ba T_Ba 10, w ∈ lw_tbl := by
  intro w hw
  have hz : u_ws R_Ba T_Ba 10 = [.laysFinal "AreaRouters$Base" "AreaRouters$Base" "sequences" "[I", .laysFinal "AreaRouters$Base" "AreaRouters$Base" "greatest" "[I", .laysFinal "AreaRouters$Base" "AreaRouters$Base" "lives" "[I", .laysFinal "AreaRouters$Base" "AreaRouters$Base" "ticksAtRest" "[I", .laysFinal "AreaRouters$Base" "AreaRouters$Base" "exits" "[Z", .laysFinal "AreaRouters$Base" "AreaRouters$Base" "areas" "[I", .laysFinal "AreaRouters$Base" "AreaRouters$Base" "linkCounts" "[I", .laysFinal "AreaRouters$Base" "AreaRouters$Base" "links" "[I", .laysFinal "AreaRouters$Base" "AreaRouters$Base" "due" "[I", .laysFinal "AreaRouters$Base" "AreaRouters$Base" "asked" "[I"] := by decide +kernel
  rw [hz] at hw
  simp only [List.mem_cons, List.not_mem_nil, or_false] at hw
  rcases hw with rfl | rfl | rfl | rfl | rfl | rfl | rfl | rfl | rfl | rfl
  · exact lt_1 (i := 72) (by set_option maxRecDepth 100000 in exact rfl)
  · exact lt_1 (i := 74) (by set_option maxRecDepth 100000 in exact rfl)
  · exact lt_1 (i := 76) (by set_option maxRecDepth 100000 in exact rfl)
  · exact lt_1 (i := 78) (by set_option maxRecDepth 100000 in exact rfl)
  · exact lt_1 (i := 80) (by set_option maxRecDepth 100000 in exact rfl)
  · exact lt_1 (i := 82) (by set_option maxRecDepth 100000 in exact rfl)
  · exact lt_1 (i := 84) (by set_option maxRecDepth 100000 in exact rfl)
  · exact lt_1 (i := 86) (by set_option maxRecDepth 100000 in exact rfl)
  · exact lt_1 (i := 88) (by set_option maxRecDepth 100000 in exact rfl)
  · exact lt_1 (i := 90) (by set_option maxRecDepth 100000 in exact rfl)
theorem in_Ba : ∀ w ∈ u_ws R_Ba T_Ba 10, w ∈ gw_tbl := fun w hw => gw_in (il_Ba w hw) (by
  have hz : ∀ w ∈ u_ws R_Ba T_Ba 10, gw_ok w = true := by decide +kernel
  exact hz w hw)
abbrev R_Wa : String := "AreaRouters$Ways"
def T_Wa : u_T := fun k => match k with
  | 0 => ("AreaRouters$Ways", "costs", "[I", true)
  | 1 => ("AreaRouters$Ways", "firstHops", "[I", true)
  | _ => ("AreaRouters$Ways", "settled", "[Z", true)
def ty_Wa : Nat → FieldType := fun k => match k with
  | 0 => .array .int
  | 1 => .array .int
  | _ => .array .boolean
theorem tn_Wa : ∀ a, a < 3 → ∀ b, b < 3 → a ≠ b → (T_Wa a).2.1 ≠ (T_Wa b).2.1 := by decide +kernel
theorem tt_Wa : ∀ k, k < 3 → parseFieldDescriptor (T_Wa k).2.2.1 = some (ty_Wa k) := by decide +kernel
theorem il_Wa : ∀ w ∈ u_ws R_Wa T_Wa 3, w ∈ lw_tbl := by
  intro w hw
  have hz : u_ws R_Wa T_Wa 3 = [.laysFinal "AreaRouters$Ways" "AreaRouters$Ways" "costs" "[I", .laysFinal "AreaRouters$Ways" "AreaRouters$Ways" "firstHops" "[I", .laysFinal "AreaRouters$Ways" "AreaRouters$Ways" "settled" "[Z"] := by decide +kernel
  rw [hz] at hw
  simp only [List.mem_cons, List.not_mem_nil, or_false] at hw
  rcases hw with rfl | rfl | rfl
  · exact lt_1 (i := 126) (by set_option maxRecDepth 100000 in exact rfl)
  · exact lt_1 (i := 128) (by set_option maxRecDepth 100000 in exact rfl)
  · exact lt_1 (i := 130) (by set_option maxRecDepth 100000 in exact rfl)
theorem in_Wa : ∀ w ∈ u_ws R_Wa T_Wa 3, w ∈ gw_tbl := fun w hw => gw_in (il_Wa w hw) (by
  have hz : ∀ w ∈ u_ws R_Wa T_Wa 3, gw_ok w = true := by decide +kernel
  exact hz w hw)
abbrev R_Mo : String := "AreaRoutersModel"
def T_Mo : u_T := fun k => match k with
  | 0 => ("AreaRoutersModel", "thrown", "I", false)
  | 1 => ("AreaRoutersModel", "area", "[I", true)
  | 2 => ("AreaRoutersModel", "levels", "[I", true)
  | 3 => ("AreaRoutersModel", "placed", "[Z", true)
  | 4 => ("AreaRoutersModel", "metric", "[I", true)
  | 5 => ("AreaRoutersModel", "priority", "[I", true)
  | 6 => ("AreaRoutersModel", "heard", "[I", true)
  | 7 => ("AreaRoutersModel", "named", "[Z", true)
  | 8 => ("AreaRoutersModel", "sequence", "[I", true)
  | 9 => ("AreaRoutersModel", "most", "[I", true)
  | 10 => ("AreaRoutersModel", "life", "[I", true)
  | 11 => ("AreaRoutersModel", "gone", "[I", true)
  | 12 => ("AreaRoutersModel", "exit", "[Z", true)
  | 13 => ("AreaRoutersModel", "where", "[I", true)
  | 14 => ("AreaRoutersModel", "many", "[I", true)
  | 15 => ("AreaRoutersModel", "link", "[I", true)
  | 16 => ("AreaRoutersModel", "due", "[I", true)
  | 17 => ("AreaRoutersModel", "asked", "[I", true)
  | 18 => ("AreaRoutersModel", "count", "I", false)
  | 19 => ("AreaRoutersModel", "now", "[I", true)
  | 20 => ("AreaRoutersModel", "cost", "[I", true)
  | _ => ("AreaRoutersModel", "hops", "[I", true)
def ty_Mo : Nat → FieldType := fun k => match k with
  | 0 => .int
  | 1 => .array .int
  | 2 => .array .int
  | 3 => .array .boolean
  | 4 => .array .int
  | 5 => .array .int
  | 6 => .array .int
  | 7 => .array .boolean
  | 8 => .array .int
  | 9 => .array .int
  | 10 => .array .int
  | 11 => .array .int
  | 12 => .array .boolean
  | 13 => .array .int
  | 14 => .array .int
  | 15 => .array .int
  | 16 => .array .int
  | 17 => .array .int
  | 18 => .int
  | 19 => .array .int
  | 20 => .array .int
  | _ => .array .int
theorem tn_Mo : ∀ a, a < 22 → ∀ b, b < 22 → a ≠ b → (T_Mo a).2.1 ≠ (T_Mo b).2.1 := by decide +kernel
theorem tt_Mo : ∀ k, k < 22 → parseFieldDescriptor (T_Mo k).2.2.1 = some (ty_Mo k) := by decide +kernel
theorem il_Mo : ∀ w ∈ u_ws R_Mo T_Mo 22, w ∈ lw_tbl := by
  intro w hw
  have hz : u_ws R_Mo T_Mo 22 = [.lays "AreaRoutersModel" "AreaRoutersModel" "thrown" "I", .laysFinal "AreaRoutersModel" "AreaRoutersModel" "area" "[I", .laysFinal "AreaRoutersModel" "AreaRoutersModel" "levels" "[I", .laysFinal "AreaRoutersModel" "AreaRoutersModel" "placed" "[Z", .laysFinal "AreaRoutersModel" "AreaRoutersModel" "metric" "[I", .laysFinal "AreaRoutersModel" "AreaRoutersModel" "priority" "[I", .laysFinal "AreaRoutersModel" "AreaRoutersModel" "heard" "[I", .laysFinal "AreaRoutersModel" "AreaRoutersModel" "named" "[Z", .laysFinal "AreaRoutersModel" "AreaRoutersModel" "sequence" "[I", .laysFinal "AreaRoutersModel" "AreaRoutersModel" "most" "[I", .laysFinal "AreaRoutersModel" "AreaRoutersModel" "life" "[I", .laysFinal "AreaRoutersModel" "AreaRoutersModel" "gone" "[I", .laysFinal "AreaRoutersModel" "AreaRoutersModel" "exit" "[Z", .laysFinal "AreaRoutersModel" "AreaRoutersModel" "where" "[I", .laysFinal "AreaRoutersModel" "AreaRoutersModel" "many" "[I", .laysFinal "AreaRoutersModel" "AreaRoutersModel" "link" "[I", .laysFinal "AreaRoutersModel" "AreaRoutersModel" "due" "[I", .laysFinal "AreaRoutersModel" "AreaRoutersModel" "asked" "[I", .lays "AreaRoutersModel" "AreaRoutersModel" "count" "I", .laysFinal "AreaRoutersModel" "AreaRoutersModel" "now" "[I", .laysFinal "AreaRoutersModel" "AreaRoutersModel" "cost" "[I", .laysFinal "AreaRoutersModel" "AreaRoutersModel" "hops" "[I"] := by decide +kernel
  rw [hz] at hw
  simp only [List.mem_cons, List.not_mem_nil, or_false] at hw
  rcases hw with rfl | rfl | rfl | rfl | rfl | rfl | rfl | rfl | rfl | rfl | rfl | rfl | rfl | rfl | rfl | rfl | rfl | rfl | rfl | rfl | rfl | rfl
  · exact lt_3 (i := 166) (by set_option maxRecDepth 100000 in exact rfl)
  · exact lt_3 (i := 168) (by set_option maxRecDepth 100000 in exact rfl)
  · exact lt_3 (i := 170) (by set_option maxRecDepth 100000 in exact rfl)
  · exact lt_3 (i := 172) (by set_option maxRecDepth 100000 in exact rfl)
  · exact lt_3 (i := 174) (by set_option maxRecDepth 100000 in exact rfl)
  · exact lt_3 (i := 176) (by set_option maxRecDepth 100000 in exact rfl)
  · exact lt_3 (i := 178) (by set_option maxRecDepth 100000 in exact rfl)
  · exact lt_3 (i := 180) (by set_option maxRecDepth 100000 in exact rfl)
  · exact lt_3 (i := 182) (by set_option maxRecDepth 100000 in exact rfl)
  · exact lt_3 (i := 184) (by set_option maxRecDepth 100000 in exact rfl)
  · exact lt_3 (i := 186) (by set_option maxRecDepth 100000 in exact rfl)
  · exact lt_3 (i := 188) (by set_option maxRecDepth 100000 in exact rfl)
  · exact lt_3 (i := 190) (by set_option maxRecDepth 100000 in exact rfl)
  · exact lt_3 (i := 192) (by set_option maxRecDepth 100000 in exact rfl)
  · exact lt_3 (i := 194) (by set_option maxRecDepth 100000 in exact rfl)
  · exact lt_3 (i := 196) (by set_option maxRecDepth 100000 in exact rfl)
  · exact lt_3 (i := 198) (by set_option maxRecDepth 100000 in exact rfl)
  · exact lt_3 (i := 200) (by set_option maxRecDepth 100000 in exact rfl)
  · exact lt_3 (i := 202) (by set_option maxRecDepth 100000 in exact rfl)
  · exact lt_3 (i := 204) (by set_option maxRecDepth 100000 in exact rfl)
  · exact lt_3 (i := 206) (by set_option maxRecDepth 100000 in exact rfl)
  · exact lt_3 (i := 208) (by set_option maxRecDepth 100000 in exact rfl)
theorem in_Mo : ∀ w ∈ u_ws R_Mo T_Mo 22, w ∈ gw_tbl := fun w hw => gw_in (il_Mo w hw) (by
  have hz : ∀ w ∈ u_ws R_Mo T_Mo 22, gw_ok w = true := by decide +kernel
  exact hz w hw)
abbrev kz_cl : List vw_C := [(R_AR, T_AR, 7), (R_Wi, T_Wi, 2), (R_He, T_He, 2), (R_Dr, T_Dr, 4), (R_Ba, T_Ba, 10), (R_Wa, T_Wa, 3), (R_Mo, T_Mo, 22)]
abbrev b_AR_isRouter : ByteArray := prog_1_method_16_code
abbrev y_AR_isRouter : MethodName := ⟨"AreaRouters", "isRouter", "(I)Z"⟩
theorem sz_AR_isRouter : cz_S (.code y_AR_isRouter b_AR_isRouter 1 (some .boolean)) y_AR_isRouter b_AR_isRouter 1 (some .boolean) 1 := ⟨rfl, lt_1 (i := 161) (by set_option maxRecDepth 100000 in exact rfl), lt_1 (i := 1) (by set_option maxRecDepth 100000 in exact rfl), by decide +kernel, by decide +kernel⟩
theorem tz_AR_isRouter : Cond.static y_AR_isRouter ∈ lw_tbl := lt_1 (i := 160) (by set_option maxRecDepth 100000 in exact rfl)
abbrev b_Wi_isAttached : ByteArray := prog_6_method_5_code
abbrev y_Wi_isAttached : MethodName := ⟨"AreaRouters$Wiring", "isAttached", "(II)Z"⟩
theorem sz_Wi_isAttached : cz_S (.code y_Wi_isAttached b_Wi_isAttached 3 (some .boolean)) y_Wi_isAttached b_Wi_isAttached 3 (some .boolean) 2 := ⟨rfl, lt_1 (i := 169) (by set_option maxRecDepth 100000 in exact rfl), lt_1 (i := 2) (by set_option maxRecDepth 100000 in exact rfl), by decide +kernel, by decide +kernel⟩
theorem tz_Wi_isAttached : cz_V y_Wi_isAttached := ⟨lt_1 (i := 168) (by set_option maxRecDepth 100000 in exact rfl), List.mem_of_getElem? (i := 1) (by decide +kernel)⟩
abbrev b_Wi_circuitsOf : ByteArray := prog_6_method_8_code
abbrev y_Wi_circuitsOf : MethodName := ⟨"AreaRouters$Wiring", "circuitsOf", "(I)I"⟩
theorem sz_Wi_circuitsOf : cz_S (.code y_Wi_circuitsOf b_Wi_circuitsOf 4 (some .int)) y_Wi_circuitsOf b_Wi_circuitsOf 4 (some .int) 1 := ⟨rfl, lt_1 (i := 165) (by set_option maxRecDepth 100000 in exact rfl), lt_1 (i := 2) (by set_option maxRecDepth 100000 in exact rfl), by decide +kernel, by decide +kernel⟩
theorem tz_Wi_circuitsOf : cz_V y_Wi_circuitsOf := ⟨lt_1 (i := 164) (by set_option maxRecDepth 100000 in exact rfl), List.mem_of_getElem? (i := 0) (by decide +kernel)⟩
abbrev b_AR_place : ByteArray := prog_1_method_2_code
abbrev y_AR_place : MethodName := ⟨"AreaRouters", "place", "(III)Z"⟩
theorem sz_AR_place : cz_S (.code y_AR_place b_AR_place 4 (some .boolean)) y_AR_place b_AR_place 4 (some .boolean) 3 := ⟨rfl, lt_1 (i := 158) (by set_option maxRecDepth 100000 in exact rfl), lt_1 (i := 1) (by set_option maxRecDepth 100000 in exact rfl), by decide +kernel, by decide +kernel⟩
theorem tz_AR_place : cz_V y_AR_place := ⟨lt_1 (i := 156) (by set_option maxRecDepth 100000 in exact rfl), lt_1 (i := 157) (by set_option maxRecDepth 100000 in exact rfl)⟩
abbrev b_AR_isCircuit : ByteArray := prog_1_method_17_code
abbrev y_AR_isCircuit : MethodName := ⟨"AreaRouters", "isCircuit", "(I)Z"⟩
theorem sz_AR_isCircuit : cz_S (.code y_AR_isCircuit b_AR_isCircuit 1 (some .boolean)) y_AR_isCircuit b_AR_isCircuit 1 (some .boolean) 1 := ⟨rfl, lt_1 (i := 176) (by set_option maxRecDepth 100000 in exact rfl), lt_1 (i := 1) (by set_option maxRecDepth 100000 in exact rfl), by decide +kernel, by decide +kernel⟩
theorem tz_AR_isCircuit : Cond.static y_AR_isCircuit ∈ lw_tbl := lt_1 (i := 175) (by set_option maxRecDepth 100000 in exact rfl)
abbrev b_Wi_countOn : ByteArray := prog_6_method_6_code
abbrev y_Wi_countOn : MethodName := ⟨"AreaRouters$Wiring", "countOn", "(I)I"⟩
theorem sz_Wi_countOn : cz_S (.code y_Wi_countOn b_Wi_countOn 4 (some .int)) y_Wi_countOn b_Wi_countOn 4 (some .int) 1 := ⟨rfl, lt_1 (i := 181) (by set_option maxRecDepth 100000 in exact rfl), lt_1 (i := 2) (by set_option maxRecDepth 100000 in exact rfl), by decide +kernel, by decide +kernel⟩
theorem tz_Wi_countOn : cz_V y_Wi_countOn := ⟨lt_1 (i := 180) (by set_option maxRecDepth 100000 in exact rfl), List.mem_of_getElem? (i := 2) (by decide +kernel)⟩
abbrev b_Wi_join : ByteArray := prog_6_method_2_code
abbrev y_Wi_join : MethodName := ⟨"AreaRouters$Wiring", "join", "(IIII)V"⟩
theorem sz_Wi_join : cz_S (.code y_Wi_join b_Wi_join 5 none) y_Wi_join b_Wi_join 5 none 4 := ⟨rfl, lt_1 (i := 185) (by set_option maxRecDepth 100000 in exact rfl), lt_1 (i := 2) (by set_option maxRecDepth 100000 in exact rfl), by decide +kernel, by decide +kernel⟩
theorem tz_Wi_join : cz_V y_Wi_join := ⟨lt_1 (i := 184) (by set_option maxRecDepth 100000 in exact rfl), List.mem_of_getElem? (i := 3) (by decide +kernel)⟩
abbrev b_AR_attach : ByteArray := prog_1_method_3_code
abbrev y_AR_attach : MethodName := ⟨"AreaRouters", "attach", "(IIII)Z"⟩
theorem sz_AR_attach : cz_S (.code y_AR_attach b_AR_attach 5 (some .boolean)) y_AR_attach b_AR_attach 5 (some .boolean) 4 := ⟨rfl, lt_1 (i := 173) (by set_option maxRecDepth 100000 in exact rfl), lt_1 (i := 1) (by set_option maxRecDepth 100000 in exact rfl), by decide +kernel, by decide +kernel⟩
theorem tz_AR_attach : cz_V y_AR_attach := ⟨lt_1 (i := 171) (by set_option maxRecDepth 100000 in exact rfl), lt_1 (i := 172) (by set_option maxRecDepth 100000 in exact rfl)⟩
abbrev b_AR_checkSender : ByteArray := prog_1_method_27_code
abbrev y_AR_checkSender : MethodName := ⟨"AreaRouters", "checkSender", "(II)V"⟩
theorem sz_AR_checkSender : cz_S (.code y_AR_checkSender b_AR_checkSender 3 none) y_AR_checkSender b_AR_checkSender 3 none 2 := ⟨rfl, lt_2 (i := 107) (by set_option maxRecDepth 100000 in exact rfl), lt_1 (i := 1) (by set_option maxRecDepth 100000 in exact rfl), by decide +kernel, by decide +kernel⟩
theorem tz_AR_checkSender : cz_V y_AR_checkSender := ⟨lt_2 (i := 106) (by set_option maxRecDepth 100000 in exact rfl), List.mem_of_getElem? (i := 29) (by decide +kernel)⟩
abbrev b_AR_isMeant : ByteArray := prog_1_method_20_code
abbrev y_AR_isMeant : MethodName := ⟨"AreaRouters", "isMeant", "(II)Z"⟩
theorem sz_AR_isMeant : cz_S (.code y_AR_isMeant b_AR_isMeant 2 (some .boolean)) y_AR_isMeant b_AR_isMeant 2 (some .boolean) 2 := ⟨rfl, lt_2 (i := 194) (by set_option maxRecDepth 100000 in exact rfl), lt_1 (i := 1) (by set_option maxRecDepth 100000 in exact rfl), by decide +kernel, by decide +kernel⟩
theorem tz_AR_isMeant : Cond.static y_AR_isMeant ∈ lw_tbl := lt_2 (i := 193) (by set_option maxRecDepth 100000 in exact rfl)
abbrev b_AR_isLevel : ByteArray := prog_1_method_18_code
abbrev y_AR_isLevel : MethodName := ⟨"AreaRouters", "isLevel", "(I)Z"⟩
theorem sz_AR_isLevel : cz_S (.code y_AR_isLevel b_AR_isLevel 1 (some .boolean)) y_AR_isLevel b_AR_isLevel 1 (some .boolean) 1 := ⟨rfl, lt_1 (i := 224) (by set_option maxRecDepth 100000 in exact rfl), lt_1 (i := 1) (by set_option maxRecDepth 100000 in exact rfl), by decide +kernel, by decide +kernel⟩
theorem tz_AR_isLevel : Cond.static y_AR_isLevel ∈ lw_tbl := lt_1 (i := 223) (by set_option maxRecDepth 100000 in exact rfl)
abbrev b_AR_hasLevel : ByteArray := prog_1_method_24_code
abbrev y_AR_hasLevel : MethodName := ⟨"AreaRouters", "hasLevel", "(II)Z"⟩
theorem sz_AR_hasLevel : cz_S (.code y_AR_hasLevel b_AR_hasLevel 3 (some .boolean)) y_AR_hasLevel b_AR_hasLevel 3 (some .boolean) 2 := ⟨rfl, lt_2 (i := 0) (by set_option maxRecDepth 100000 in exact rfl), lt_1 (i := 1) (by set_option maxRecDepth 100000 in exact rfl), by decide +kernel, by decide +kernel⟩
theorem tz_AR_hasLevel : cz_V y_AR_hasLevel := ⟨lt_1 (i := 239) (by set_option maxRecDepth 100000 in exact rfl), List.mem_of_getElem? (i := 13) (by decide +kernel)⟩
abbrev b_AR_hearingAt : ByteArray := prog_1_method_26_code
abbrev y_AR_hearingAt : MethodName := ⟨"AreaRouters", "hearingAt", "(I)LAreaRouters$Hearing;"⟩
theorem sz_AR_hearingAt : cz_S (.code y_AR_hearingAt b_AR_hearingAt 2 (some (.object "AreaRouters$Hearing"))) y_AR_hearingAt b_AR_hearingAt 2 (some (.object "AreaRouters$Hearing")) 1 := ⟨rfl, lt_1 (i := 228) (by set_option maxRecDepth 100000 in exact rfl), lt_1 (i := 1) (by set_option maxRecDepth 100000 in exact rfl), by decide +kernel, by decide +kernel⟩
theorem tz_AR_hearingAt : cz_V y_AR_hearingAt := ⟨lt_1 (i := 227) (by set_option maxRecDepth 100000 in exact rfl), List.mem_of_getElem? (i := 11) (by decide +kernel)⟩
abbrev b_He_isHeard : ByteArray := prog_4_method_3_code
abbrev y_He_isHeard : MethodName := ⟨"AreaRouters$Hearing", "isHeard", "(III)Z"⟩
theorem sz_He_isHeard : cz_S (.code y_He_isHeard b_He_isHeard 4 (some .boolean)) y_He_isHeard b_He_isHeard 4 (some .boolean) 3 := ⟨rfl, lt_2 (i := 202) (by set_option maxRecDepth 100000 in exact rfl), lt_1 (i := 3) (by set_option maxRecDepth 100000 in exact rfl), by decide +kernel, by decide +kernel⟩
theorem tz_He_isHeard : cz_V y_He_isHeard := ⟨lt_2 (i := 201) (by set_option maxRecDepth 100000 in exact rfl), List.mem_of_getElem? (i := 32) (by decide +kernel)⟩
abbrev b_He_note : ByteArray := prog_4_method_2_code
abbrev y_He_note : MethodName := ⟨"AreaRouters$Hearing", "note", "(IIIZ)V"⟩
theorem sz_He_note : cz_S (.code y_He_note b_He_note 6 none) y_He_note b_He_note 6 none 4 := ⟨rfl, lt_2 (i := 206) (by set_option maxRecDepth 100000 in exact rfl), lt_1 (i := 3) (by set_option maxRecDepth 100000 in exact rfl), by decide +kernel, by decide +kernel⟩
theorem tz_He_note : cz_V y_He_note := ⟨lt_2 (i := 205) (by set_option maxRecDepth 100000 in exact rfl), List.mem_of_getElem? (i := 33) (by decide +kernel)⟩
abbrev b_AR_noteHello : ByteArray := prog_1_method_29_code
abbrev y_AR_noteHello : MethodName := ⟨"AreaRouters", "noteHello", "(III)V"⟩
theorem sz_AR_noteHello : cz_S (.code y_AR_noteHello b_AR_noteHello 7 none) y_AR_noteHello b_AR_noteHello 7 none 3 := ⟨rfl, lt_2 (i := 198) (by set_option maxRecDepth 100000 in exact rfl), lt_1 (i := 1) (by set_option maxRecDepth 100000 in exact rfl), by decide +kernel, by decide +kernel⟩
theorem tz_AR_noteHello : cz_V y_AR_noteHello := ⟨lt_2 (i := 197) (by set_option maxRecDepth 100000 in exact rfl), List.mem_of_getElem? (i := 31) (by decide +kernel)⟩
abbrev b_AR_hello : ByteArray := prog_1_method_4_code
abbrev y_AR_hello : MethodName := ⟨"AreaRouters", "hello", "(III)I"⟩
theorem sz_AR_hello : cz_S (.code y_AR_hello b_AR_hello 6 (some .int)) y_AR_hello b_AR_hello 6 (some .int) 3 := ⟨rfl, lt_2 (i := 103) (by set_option maxRecDepth 100000 in exact rfl), lt_1 (i := 1) (by set_option maxRecDepth 100000 in exact rfl), by decide +kernel, by decide +kernel⟩
theorem tz_AR_hello : cz_V y_AR_hello := ⟨lt_2 (i := 101) (by set_option maxRecDepth 100000 in exact rfl), lt_2 (i := 102) (by set_option maxRecDepth 100000 in exact rfl)⟩
abbrev b_AR_checkLevel : ByteArray := prog_1_method_28_code
abbrev y_AR_checkLevel : MethodName := ⟨"AreaRouters", "checkLevel", "(II)V"⟩
theorem sz_AR_checkLevel : cz_S (.code y_AR_checkLevel b_AR_checkLevel 3 none) y_AR_checkLevel b_AR_checkLevel 3 none 2 := ⟨rfl, lt_2 (i := 218) (by set_option maxRecDepth 100000 in exact rfl), lt_1 (i := 1) (by set_option maxRecDepth 100000 in exact rfl), by decide +kernel, by decide +kernel⟩
theorem tz_AR_checkLevel : cz_V y_AR_checkLevel := ⟨lt_2 (i := 217) (by set_option maxRecDepth 100000 in exact rfl), List.mem_of_getElem? (i := 34) (by decide +kernel)⟩
abbrev b_AR_baseOf : ByteArray := prog_1_method_25_code
abbrev y_AR_baseOf : MethodName := ⟨"AreaRouters", "baseOf", "(II)LAreaRouters$Base;"⟩
theorem sz_AR_baseOf : cz_S (.code y_AR_baseOf b_AR_baseOf 3 (some (.object "AreaRouters$Base"))) y_AR_baseOf b_AR_baseOf 3 (some (.object "AreaRouters$Base")) 2 := ⟨rfl, lt_1 (i := 197) (by set_option maxRecDepth 100000 in exact rfl), lt_1 (i := 1) (by set_option maxRecDepth 100000 in exact rfl), by decide +kernel, by decide +kernel⟩
theorem tz_AR_baseOf : cz_V y_AR_baseOf := ⟨lt_1 (i := 196) (by set_option maxRecDepth 100000 in exact rfl), List.mem_of_getElem? (i := 5) (by decide +kernel)⟩
abbrev b_Ba_isDue : ByteArray := prog_2_method_5_code
abbrev y_Ba_isDue : MethodName := ⟨"AreaRouters$Base", "isDue", "(II)Z"⟩
theorem sz_Ba_isDue : cz_S (.code y_Ba_isDue b_Ba_isDue 3 (some .boolean)) y_Ba_isDue b_Ba_isDue 3 (some .boolean) 2 := ⟨rfl, lt_2 (i := 238) (by set_option maxRecDepth 100000 in exact rfl), lt_1 (i := 4) (by set_option maxRecDepth 100000 in exact rfl), by decide +kernel, by decide +kernel⟩
theorem tz_Ba_isDue : cz_V y_Ba_isDue := ⟨lt_2 (i := 237) (by set_option maxRecDepth 100000 in exact rfl), List.mem_of_getElem? (i := 35) (by decide +kernel)⟩
abbrev b_He_isMutual : ByteArray := prog_4_method_4_code
abbrev y_He_isMutual : MethodName := ⟨"AreaRouters$Hearing", "isMutual", "(III)Z"⟩
theorem sz_He_isMutual : cz_S (.code y_He_isMutual b_He_isMutual 5 (some .boolean)) y_He_isMutual b_He_isMutual 5 (some .boolean) 3 := ⟨rfl, lt_1 (i := 232) (by set_option maxRecDepth 100000 in exact rfl), lt_1 (i := 3) (by set_option maxRecDepth 100000 in exact rfl), by decide +kernel, by decide +kernel⟩
theorem tz_He_isMutual : cz_V y_He_isMutual := ⟨lt_1 (i := 231) (by set_option maxRecDepth 100000 in exact rfl), List.mem_of_getElem? (i := 12) (by decide +kernel)⟩
abbrev b_AR_isReached : ByteArray := prog_1_method_30_code
abbrev y_AR_isReached : MethodName := ⟨"AreaRouters", "isReached", "(IIIII)Z"⟩
theorem sz_AR_isReached : cz_S (.code y_AR_isReached b_AR_isReached 6 (some .boolean)) y_AR_isReached b_AR_isReached 6 (some .boolean) 5 := ⟨rfl, lt_3 (i := 2) (by set_option maxRecDepth 100000 in exact rfl), lt_1 (i := 1) (by set_option maxRecDepth 100000 in exact rfl), by decide +kernel, by decide +kernel⟩
theorem tz_AR_isReached : cz_V y_AR_isReached := ⟨lt_3 (i := 1) (by set_option maxRecDepth 100000 in exact rfl), List.mem_of_getElem? (i := 36) (by decide +kernel)⟩
abbrev b_Ba_isAlive : ByteArray := prog_2_method_3_code
abbrev y_Ba_isAlive : MethodName := ⟨"AreaRouters$Base", "isAlive", "(I)Z"⟩
theorem sz_Ba_isAlive : cz_S (.code y_Ba_isAlive b_Ba_isAlive 2 (some .boolean)) y_Ba_isAlive b_Ba_isAlive 2 (some .boolean) 1 := ⟨rfl, lt_1 (i := 205) (by set_option maxRecDepth 100000 in exact rfl), lt_1 (i := 4) (by set_option maxRecDepth 100000 in exact rfl), by decide +kernel, by decide +kernel⟩
theorem tz_Ba_isAlive : cz_V y_Ba_isAlive := ⟨lt_1 (i := 204) (by set_option maxRecDepth 100000 in exact rfl), List.mem_of_getElem? (i := 7) (by decide +kernel)⟩
abbrev b_Ba_orderAgainst : ByteArray := prog_2_method_13_code
abbrev y_Ba_orderAgainst : MethodName := ⟨"AreaRouters$Base", "orderAgainst", "(LAreaRouters$Base;I)I"⟩
theorem sz_Ba_orderAgainst : cz_S (.code y_Ba_orderAgainst b_Ba_orderAgainst 3 (some .int)) y_Ba_orderAgainst b_Ba_orderAgainst 3 (some .int) 2 := ⟨rfl, lt_3 (i := 10) (by set_option maxRecDepth 100000 in exact rfl), lt_1 (i := 4) (by set_option maxRecDepth 100000 in exact rfl), by decide +kernel, by decide +kernel⟩
theorem tz_Ba_orderAgainst : cz_V y_Ba_orderAgainst := ⟨lt_3 (i := 9) (by set_option maxRecDepth 100000 in exact rfl), List.mem_of_getElem? (i := 38) (by decide +kernel)⟩
abbrev b_Ba_setDue : ByteArray := prog_2_method_7_code
abbrev y_Ba_setDue : MethodName := ⟨"AreaRouters$Base", "setDue", "(IIZ)V"⟩
theorem sz_Ba_setDue : cz_S (.code y_Ba_setDue b_Ba_setDue 4 none) y_Ba_setDue b_Ba_setDue 4 none 3 := ⟨rfl, lt_3 (i := 14) (by set_option maxRecDepth 100000 in exact rfl), lt_1 (i := 4) (by set_option maxRecDepth 100000 in exact rfl), by decide +kernel, by decide +kernel⟩
theorem tz_Ba_setDue : cz_V y_Ba_setDue := ⟨lt_3 (i := 13) (by set_option maxRecDepth 100000 in exact rfl), List.mem_of_getElem? (i := 39) (by decide +kernel)⟩
abbrev b_Ba_setAsked : ByteArray := prog_2_method_8_code
abbrev y_Ba_setAsked : MethodName := ⟨"AreaRouters$Base", "setAsked", "(IIZ)V"⟩
theorem sz_Ba_setAsked : cz_S (.code y_Ba_setAsked b_Ba_setAsked 4 none) y_Ba_setAsked b_Ba_setAsked 4 none 3 := ⟨rfl, lt_3 (i := 18) (by set_option maxRecDepth 100000 in exact rfl), lt_1 (i := 4) (by set_option maxRecDepth 100000 in exact rfl), by decide +kernel, by decide +kernel⟩
theorem tz_Ba_setAsked : cz_V y_Ba_setAsked := ⟨lt_3 (i := 17) (by set_option maxRecDepth 100000 in exact rfl), List.mem_of_getElem? (i := 40) (by decide +kernel)⟩
abbrev b_Ba_takeLinks : ByteArray := prog_2_method_19_code
abbrev y_Ba_takeLinks : MethodName := ⟨"AreaRouters$Base", "takeLinks", "(I[III)V"⟩
theorem sz_Ba_takeLinks : cz_S (.code y_Ba_takeLinks b_Ba_takeLinks 6 none) y_Ba_takeLinks b_Ba_takeLinks 6 none 4 := ⟨rfl, lt_3 (i := 29) (by set_option maxRecDepth 100000 in exact rfl), lt_1 (i := 4) (by set_option maxRecDepth 100000 in exact rfl), by decide +kernel, by decide +kernel⟩
theorem tz_Ba_takeLinks : cz_V y_Ba_takeLinks := ⟨lt_3 (i := 28) (by set_option maxRecDepth 100000 in exact rfl), List.mem_of_getElem? (i := 42) (by decide +kernel)⟩
abbrev b_Ba_copyFrom : ByteArray := prog_2_method_18_code
abbrev y_Ba_copyFrom : MethodName := ⟨"AreaRouters$Base", "copyFrom", "(LAreaRouters$Base;I)V"⟩
theorem sz_Ba_copyFrom : cz_S (.code y_Ba_copyFrom b_Ba_copyFrom 3 none) y_Ba_copyFrom b_Ba_copyFrom 3 none 2 := ⟨rfl, lt_3 (i := 22) (by set_option maxRecDepth 100000 in exact rfl), lt_1 (i := 4) (by set_option maxRecDepth 100000 in exact rfl), by decide +kernel, by decide +kernel⟩
theorem tz_Ba_copyFrom : cz_V y_Ba_copyFrom := ⟨lt_3 (i := 21) (by set_option maxRecDepth 100000 in exact rfl), List.mem_of_getElem? (i := 41) (by decide +kernel)⟩
abbrev b_AR_routerOf : ByteArray := prog_1_method_22_code
abbrev y_AR_routerOf : MethodName := ⟨"AreaRouters", "routerOf", "(I)I"⟩
theorem sz_AR_routerOf : cz_S (.code y_AR_routerOf b_AR_routerOf 1 (some .int)) y_AR_routerOf b_AR_routerOf 1 (some .int) 1 := ⟨rfl, lt_2 (i := 72) (by set_option maxRecDepth 100000 in exact rfl), lt_1 (i := 1) (by set_option maxRecDepth 100000 in exact rfl), by decide +kernel, by decide +kernel⟩
theorem tz_AR_routerOf : Cond.static y_AR_routerOf ∈ lw_tbl := lt_2 (i := 71) (by set_option maxRecDepth 100000 in exact rfl)
abbrev b_AR_partOf : ByteArray := prog_1_method_23_code
abbrev y_AR_partOf : MethodName := ⟨"AreaRouters", "partOf", "(I)I"⟩
theorem sz_AR_partOf : cz_S (.code y_AR_partOf b_AR_partOf 1 (some .int)) y_AR_partOf b_AR_partOf 1 (some .int) 1 := ⟨rfl, lt_2 (i := 54) (by set_option maxRecDepth 100000 in exact rfl), lt_1 (i := 1) (by set_option maxRecDepth 100000 in exact rfl), by decide +kernel, by decide +kernel⟩
theorem tz_AR_partOf : Cond.static y_AR_partOf ∈ lw_tbl := lt_2 (i := 53) (by set_option maxRecDepth 100000 in exact rfl)
abbrev b_Dr_begin : ByteArray := prog_3_method_2_code
abbrev y_Dr_begin : MethodName := ⟨"AreaRouters$Draft", "begin", "(I)V"⟩
theorem sz_Dr_begin : cz_S (.code y_Dr_begin b_Dr_begin 2 none) y_Dr_begin b_Dr_begin 2 none 1 := ⟨rfl, lt_3 (i := 44) (by set_option maxRecDepth 100000 in exact rfl), lt_1 (i := 5) (by set_option maxRecDepth 100000 in exact rfl), by decide +kernel, by decide +kernel⟩
theorem tz_Dr_begin : cz_V y_Dr_begin := ⟨lt_3 (i := 43) (by set_option maxRecDepth 100000 in exact rfl), List.mem_of_getElem? (i := 45) (by decide +kernel)⟩
abbrev b_AR_hasLevelTwoNeighbourElsewhere : ByteArray := prog_1_method_32_code
abbrev y_AR_hasLevelTwoNeighbourElsewhere : MethodName := ⟨"AreaRouters", "hasLevelTwoNeighbourElsewhere", "(I)Z"⟩
theorem sz_AR_hasLevelTwoNeighbourElsewhere : cz_S (.code y_AR_hasLevelTwoNeighbourElsewhere b_AR_hasLevelTwoNeighbourElsewhere 4 (some .boolean)) y_AR_hasLevelTwoNeighbourElsewhere b_AR_hasLevelTwoNeighbourElsewhere 4 (some .boolean) 1 := ⟨rfl, lt_3 (i := 52) (by set_option maxRecDepth 100000 in exact rfl), lt_1 (i := 1) (by set_option maxRecDepth 100000 in exact rfl), by decide +kernel, by decide +kernel⟩
theorem tz_AR_hasLevelTwoNeighbourElsewhere : cz_V y_AR_hasLevelTwoNeighbourElsewhere := ⟨lt_3 (i := 51) (by set_option maxRecDepth 100000 in exact rfl), List.mem_of_getElem? (i := 47) (by decide +kernel)⟩
abbrev b_He_firstMutual : ByteArray := prog_4_method_5_code
abbrev y_He_firstMutual : MethodName := ⟨"AreaRouters$Hearing", "firstMutual", "(II)I"⟩
theorem sz_He_firstMutual : cz_S (.code y_He_firstMutual b_He_firstMutual 4 (some .int)) y_He_firstMutual b_He_firstMutual 4 (some .int) 2 := ⟨rfl, lt_3 (i := 56) (by set_option maxRecDepth 100000 in exact rfl), lt_1 (i := 3) (by set_option maxRecDepth 100000 in exact rfl), by decide +kernel, by decide +kernel⟩
theorem tz_He_firstMutual : cz_V y_He_firstMutual := ⟨lt_3 (i := 55) (by set_option maxRecDepth 100000 in exact rfl), List.mem_of_getElem? (i := 48) (by decide +kernel)⟩
abbrev b_Wi_isShared : ByteArray := prog_6_method_7_code
abbrev y_Wi_isShared : MethodName := ⟨"AreaRouters$Wiring", "isShared", "(I)Z"⟩
theorem sz_Wi_isShared : cz_S (.code y_Wi_isShared b_Wi_isShared 2 (some .boolean)) y_Wi_isShared b_Wi_isShared 2 (some .boolean) 1 := ⟨rfl, lt_3 (i := 61) (by set_option maxRecDepth 100000 in exact rfl), lt_1 (i := 2) (by set_option maxRecDepth 100000 in exact rfl), by decide +kernel, by decide +kernel⟩
theorem tz_Wi_isShared : cz_V y_Wi_isShared := ⟨lt_3 (i := 60) (by set_option maxRecDepth 100000 in exact rfl), List.mem_of_getElem? (i := 49) (by decide +kernel)⟩
abbrev b_Wi_priorityOf : ByteArray := prog_6_method_4_code
abbrev y_Wi_priorityOf : MethodName := ⟨"AreaRouters$Wiring", "priorityOf", "(II)I"⟩
theorem sz_Wi_priorityOf : cz_S (.code y_Wi_priorityOf b_Wi_priorityOf 3 (some .int)) y_Wi_priorityOf b_Wi_priorityOf 3 (some .int) 2 := ⟨rfl, lt_2 (i := 8) (by set_option maxRecDepth 100000 in exact rfl), lt_1 (i := 2) (by set_option maxRecDepth 100000 in exact rfl), by decide +kernel, by decide +kernel⟩
theorem tz_Wi_priorityOf : cz_V y_Wi_priorityOf := ⟨lt_2 (i := 7) (by set_option maxRecDepth 100000 in exact rfl), List.mem_of_getElem? (i := 15) (by decide +kernel)⟩
abbrev b_AR_speakerSeenBy : ByteArray := prog_1_method_31_code
abbrev y_AR_speakerSeenBy : MethodName := ⟨"AreaRouters", "speakerSeenBy", "(III)I"⟩
theorem sz_AR_speakerSeenBy : cz_S (.code y_AR_speakerSeenBy b_AR_speakerSeenBy 7 (some .int)) y_AR_speakerSeenBy b_AR_speakerSeenBy 7 (some .int) 3 := ⟨rfl, lt_2 (i := 4) (by set_option maxRecDepth 100000 in exact rfl), lt_1 (i := 1) (by set_option maxRecDepth 100000 in exact rfl), by decide +kernel, by decide +kernel⟩
theorem tz_AR_speakerSeenBy : cz_V y_AR_speakerSeenBy := ⟨lt_2 (i := 3) (by set_option maxRecDepth 100000 in exact rfl), List.mem_of_getElem? (i := 14) (by decide +kernel)⟩
abbrev b_AR_nameOf : ByteArray := prog_1_method_21_code
abbrev y_AR_nameOf : MethodName := ⟨"AreaRouters", "nameOf", "(II)I"⟩
theorem sz_AR_nameOf : cz_S (.code y_AR_nameOf b_AR_nameOf 2 (some .int)) y_AR_nameOf b_AR_nameOf 2 (some .int) 2 := ⟨rfl, lt_2 (i := 42) (by set_option maxRecDepth 100000 in exact rfl), lt_1 (i := 1) (by set_option maxRecDepth 100000 in exact rfl), by decide +kernel, by decide +kernel⟩
theorem tz_AR_nameOf : Cond.static y_AR_nameOf ∈ lw_tbl := lt_2 (i := 41) (by set_option maxRecDepth 100000 in exact rfl)
abbrev b_Wi_metricOf : ByteArray := prog_6_method_3_code
abbrev y_Wi_metricOf : MethodName := ⟨"AreaRouters$Wiring", "metricOf", "(II)I"⟩
theorem sz_Wi_metricOf : cz_S (.code y_Wi_metricOf b_Wi_metricOf 3 (some .int)) y_Wi_metricOf b_Wi_metricOf 3 (some .int) 2 := ⟨rfl, lt_3 (i := 66) (by set_option maxRecDepth 100000 in exact rfl), lt_1 (i := 2) (by set_option maxRecDepth 100000 in exact rfl), by decide +kernel, by decide +kernel⟩
theorem tz_Wi_metricOf : cz_V y_Wi_metricOf := ⟨lt_3 (i := 65) (by set_option maxRecDepth 100000 in exact rfl), List.mem_of_getElem? (i := 50) (by decide +kernel)⟩
abbrev b_Dr_addLink : ByteArray := prog_3_method_3_code
abbrev y_Dr_addLink : MethodName := ⟨"AreaRouters$Draft", "addLink", "(II)V"⟩
theorem sz_Dr_addLink : cz_S (.code y_Dr_addLink b_Dr_addLink 3 none) y_Dr_addLink b_Dr_addLink 3 none 2 := ⟨rfl, lt_3 (i := 70) (by set_option maxRecDepth 100000 in exact rfl), lt_1 (i := 5) (by set_option maxRecDepth 100000 in exact rfl), by decide +kernel, by decide +kernel⟩
theorem tz_Dr_addLink : cz_V y_Dr_addLink := ⟨lt_3 (i := 69) (by set_option maxRecDepth 100000 in exact rfl), List.mem_of_getElem? (i := 51) (by decide +kernel)⟩
abbrev b_AR_draftItself : ByteArray := prog_1_method_34_code
abbrev y_AR_draftItself : MethodName := ⟨"AreaRouters", "draftItself", "(II)V"⟩
theorem sz_AR_draftItself : cz_S (.code y_AR_draftItself b_AR_draftItself 6 none) y_AR_draftItself b_AR_draftItself 6 none 2 := ⟨rfl, lt_3 (i := 48) (by set_option maxRecDepth 100000 in exact rfl), lt_1 (i := 1) (by set_option maxRecDepth 100000 in exact rfl), by decide +kernel, by decide +kernel⟩
theorem tz_AR_draftItself : cz_V y_AR_draftItself := ⟨lt_3 (i := 47) (by set_option maxRecDepth 100000 in exact rfl), List.mem_of_getElem? (i := 46) (by decide +kernel)⟩
abbrev b_AR_draftCircuit : ByteArray := prog_1_method_35_code
abbrev y_AR_draftCircuit : MethodName := ⟨"AreaRouters", "draftCircuit", "(III)Z"⟩
theorem sz_AR_draftCircuit : cz_S (.code y_AR_draftCircuit b_AR_draftCircuit 6 (some .boolean)) y_AR_draftCircuit b_AR_draftCircuit 6 (some .boolean) 3 := ⟨rfl, lt_3 (i := 74) (by set_option maxRecDepth 100000 in exact rfl), lt_1 (i := 1) (by set_option maxRecDepth 100000 in exact rfl), by decide +kernel, by decide +kernel⟩
theorem tz_AR_draftCircuit : cz_V y_AR_draftCircuit := ⟨lt_3 (i := 73) (by set_option maxRecDepth 100000 in exact rfl), List.mem_of_getElem? (i := 52) (by decide +kernel)⟩
abbrev b_AR_draftPart : ByteArray := prog_1_method_33_code
abbrev y_AR_draftPart : MethodName := ⟨"AreaRouters", "draftPart", "(III)Z"⟩
theorem sz_AR_draftPart : cz_S (.code y_AR_draftPart b_AR_draftPart 4 (some .boolean)) y_AR_draftPart b_AR_draftPart 4 (some .boolean) 3 := ⟨rfl, lt_3 (i := 40) (by set_option maxRecDepth 100000 in exact rfl), lt_1 (i := 1) (by set_option maxRecDepth 100000 in exact rfl), by decide +kernel, by decide +kernel⟩
theorem tz_AR_draftPart : cz_V y_AR_draftPart := ⟨lt_3 (i := 39) (by set_option maxRecDepth 100000 in exact rfl), List.mem_of_getElem? (i := 44) (by decide +kernel)⟩
abbrev b_Ba_renew : ByteArray := prog_2_method_17_code
abbrev y_Ba_renew : MethodName := ⟨"AreaRouters$Base", "renew", "(ILAreaRouters$Draft;I)V"⟩
theorem sz_Ba_renew : cz_S (.code y_Ba_renew b_Ba_renew 4 none) y_Ba_renew b_Ba_renew 4 none 3 := ⟨rfl, lt_3 (i := 78) (by set_option maxRecDepth 100000 in exact rfl), lt_1 (i := 4) (by set_option maxRecDepth 100000 in exact rfl), by decide +kernel, by decide +kernel⟩
theorem tz_Ba_renew : cz_V y_Ba_renew := ⟨lt_3 (i := 77) (by set_option maxRecDepth 100000 in exact rfl), List.mem_of_getElem? (i := 53) (by decide +kernel)⟩
abbrev b_Ba_end : ByteArray := prog_2_method_21_code
abbrev y_Ba_end : MethodName := ⟨"AreaRouters$Base", "end", "(II)V"⟩
theorem sz_Ba_end : cz_S (.code y_Ba_end b_Ba_end 3 none) y_Ba_end b_Ba_end 3 none 2 := ⟨rfl, lt_1 (i := 209) (by set_option maxRecDepth 100000 in exact rfl), lt_1 (i := 4) (by set_option maxRecDepth 100000 in exact rfl), by decide +kernel, by decide +kernel⟩
theorem tz_Ba_end : cz_V y_Ba_end := ⟨lt_1 (i := 208) (by set_option maxRecDepth 100000 in exact rfl), List.mem_of_getElem? (i := 8) (by decide +kernel)⟩
abbrev b_Ba_askNowhere : ByteArray := prog_2_method_10_code
abbrev y_Ba_askNowhere : MethodName := ⟨"AreaRouters$Base", "askNowhere", "(I)V"⟩
theorem sz_Ba_askNowhere : cz_S (.code y_Ba_askNowhere b_Ba_askNowhere 2 none) y_Ba_askNowhere b_Ba_askNowhere 2 none 1 := ⟨rfl, lt_3 (i := 83) (by set_option maxRecDepth 100000 in exact rfl), lt_1 (i := 4) (by set_option maxRecDepth 100000 in exact rfl), by decide +kernel, by decide +kernel⟩
theorem tz_Ba_askNowhere : cz_V y_Ba_askNowhere := ⟨lt_3 (i := 82) (by set_option maxRecDepth 100000 in exact rfl), List.mem_of_getElem? (i := 54) (by decide +kernel)⟩
abbrev b_AR_answerForOwn : ByteArray := prog_1_method_38_code
abbrev y_AR_answerForOwn : MethodName := ⟨"AreaRouters", "answerForOwn", "(III)V"⟩
theorem sz_AR_answerForOwn : cz_S (.code y_AR_answerForOwn b_AR_answerForOwn 5 none) y_AR_answerForOwn b_AR_answerForOwn 5 none 3 := ⟨rfl, lt_3 (i := 35) (by set_option maxRecDepth 100000 in exact rfl), lt_1 (i := 1) (by set_option maxRecDepth 100000 in exact rfl), by decide +kernel, by decide +kernel⟩
theorem tz_AR_answerForOwn : cz_V y_AR_answerForOwn := ⟨lt_3 (i := 34) (by set_option maxRecDepth 100000 in exact rfl), List.mem_of_getElem? (i := 43) (by decide +kernel)⟩
abbrev b_Ba_setDueOn : ByteArray := prog_2_method_9_code
abbrev y_Ba_setDueOn : MethodName := ⟨"AreaRouters$Base", "setDueOn", "(II)V"⟩
theorem sz_Ba_setDueOn : cz_S (.code y_Ba_setDueOn b_Ba_setDueOn 3 none) y_Ba_setDueOn b_Ba_setDueOn 3 none 2 := ⟨rfl, lt_3 (i := 87) (by set_option maxRecDepth 100000 in exact rfl), lt_1 (i := 4) (by set_option maxRecDepth 100000 in exact rfl), by decide +kernel, by decide +kernel⟩
theorem tz_Ba_setDueOn : cz_V y_Ba_setDueOn := ⟨lt_3 (i := 86) (by set_option maxRecDepth 100000 in exact rfl), List.mem_of_getElem? (i := 55) (by decide +kernel)⟩
abbrev b_AR_receive : ByteArray := prog_1_method_37_code
abbrev y_AR_receive : MethodName := ⟨"AreaRouters", "receive", "(IIILAreaRouters$Base;I)V"⟩
theorem sz_AR_receive : cz_S (.code y_AR_receive b_AR_receive 8 none) y_AR_receive b_AR_receive 8 none 5 := ⟨rfl, lt_3 (i := 6) (by set_option maxRecDepth 100000 in exact rfl), lt_1 (i := 1) (by set_option maxRecDepth 100000 in exact rfl), by decide +kernel, by decide +kernel⟩
theorem tz_AR_receive : cz_V y_AR_receive := ⟨lt_3 (i := 5) (by set_option maxRecDepth 100000 in exact rfl), List.mem_of_getElem? (i := 37) (by decide +kernel)⟩
abbrev b_AR_spread : ByteArray := prog_1_method_5_code
abbrev y_AR_spread : MethodName := ⟨"AreaRouters", "spread", "(IIII)I"⟩
theorem sz_AR_spread : cz_S (.code y_AR_spread b_AR_spread 9 (some .int)) y_AR_spread b_AR_spread 9 (some .int) 4 := ⟨rfl, lt_2 (i := 214) (by set_option maxRecDepth 100000 in exact rfl), lt_1 (i := 1) (by set_option maxRecDepth 100000 in exact rfl), by decide +kernel, by decide +kernel⟩
theorem tz_AR_spread : cz_V y_AR_spread := ⟨lt_2 (i := 212) (by set_option maxRecDepth 100000 in exact rfl), lt_2 (i := 213) (by set_option maxRecDepth 100000 in exact rfl)⟩
abbrev b_Ba_has : ByteArray := prog_2_method_2_code
abbrev y_Ba_has : MethodName := ⟨"AreaRouters$Base", "has", "(I)Z"⟩
theorem sz_Ba_has : cz_S (.code y_Ba_has b_Ba_has 2 (some .boolean)) y_Ba_has b_Ba_has 2 (some .boolean) 1 := ⟨rfl, lt_1 (i := 213) (by set_option maxRecDepth 100000 in exact rfl), lt_1 (i := 4) (by set_option maxRecDepth 100000 in exact rfl), by decide +kernel, by decide +kernel⟩
theorem tz_Ba_has : cz_V y_Ba_has := ⟨lt_1 (i := 212) (by set_option maxRecDepth 100000 in exact rfl), List.mem_of_getElem? (i := 9) (by decide +kernel)⟩
abbrev b_Ba_compareWithTold : ByteArray := prog_2_method_14_code
abbrev y_Ba_compareWithTold : MethodName := ⟨"AreaRouters$Base", "compareWithTold", "(LAreaRouters$Base;II)V"⟩
theorem sz_Ba_compareWithTold : cz_S (.code y_Ba_compareWithTold b_Ba_compareWithTold 5 none) y_Ba_compareWithTold b_Ba_compareWithTold 5 none 3 := ⟨rfl, lt_3 (i := 102) (by set_option maxRecDepth 100000 in exact rfl), lt_1 (i := 4) (by set_option maxRecDepth 100000 in exact rfl), by decide +kernel, by decide +kernel⟩
theorem tz_Ba_compareWithTold : cz_V y_Ba_compareWithTold := ⟨lt_3 (i := 101) (by set_option maxRecDepth 100000 in exact rfl), List.mem_of_getElem? (i := 57) (by decide +kernel)⟩
abbrev b_Ba_compareWithSummary : ByteArray := prog_2_method_15_code
abbrev y_Ba_compareWithSummary : MethodName := ⟨"AreaRouters$Base", "compareWithSummary", "(LAreaRouters$Base;I)V"⟩
theorem sz_Ba_compareWithSummary : cz_S (.code y_Ba_compareWithSummary b_Ba_compareWithSummary 4 none) y_Ba_compareWithSummary b_Ba_compareWithSummary 4 none 2 := ⟨rfl, lt_3 (i := 98) (by set_option maxRecDepth 100000 in exact rfl), lt_1 (i := 4) (by set_option maxRecDepth 100000 in exact rfl), by decide +kernel, by decide +kernel⟩
theorem tz_Ba_compareWithSummary : cz_V y_Ba_compareWithSummary := ⟨lt_3 (i := 97) (by set_option maxRecDepth 100000 in exact rfl), List.mem_of_getElem? (i := 56) (by decide +kernel)⟩
abbrev b_Ba_count : ByteArray := prog_2_method_4_code
abbrev y_Ba_count : MethodName := ⟨"AreaRouters$Base", "count", "()I"⟩
theorem sz_Ba_count : cz_S (.code y_Ba_count b_Ba_count 3 (some .int)) y_Ba_count b_Ba_count 3 (some .int) 0 := ⟨rfl, lt_3 (i := 109) (by set_option maxRecDepth 100000 in exact rfl), lt_1 (i := 4) (by set_option maxRecDepth 100000 in exact rfl), by decide +kernel, by decide +kernel⟩
theorem tz_Ba_count : cz_V y_Ba_count := ⟨lt_3 (i := 108) (by set_option maxRecDepth 100000 in exact rfl), List.mem_of_getElem? (i := 58) (by decide +kernel)⟩
abbrev b_AR_summary : ByteArray := prog_1_method_6_code
abbrev y_AR_summary : MethodName := ⟨"AreaRouters", "summary", "(IIII)I"⟩
theorem sz_AR_summary : cz_S (.code y_AR_summary b_AR_summary 7 (some .int)) y_AR_summary b_AR_summary 7 (some .int) 4 := ⟨rfl, lt_3 (i := 94) (by set_option maxRecDepth 100000 in exact rfl), lt_1 (i := 1) (by set_option maxRecDepth 100000 in exact rfl), by decide +kernel, by decide +kernel⟩
theorem tz_AR_summary : cz_V y_AR_summary := ⟨lt_3 (i := 92) (by set_option maxRecDepth 100000 in exact rfl), lt_3 (i := 93) (by set_option maxRecDepth 100000 in exact rfl)⟩
abbrev b_Ba_isAsked : ByteArray := prog_2_method_6_code
abbrev y_Ba_isAsked : MethodName := ⟨"AreaRouters$Base", "isAsked", "(II)Z"⟩
theorem sz_Ba_isAsked : cz_S (.code y_Ba_isAsked b_Ba_isAsked 3 (some .boolean)) y_Ba_isAsked b_Ba_isAsked 3 (some .boolean) 2 := ⟨rfl, lt_3 (i := 120) (by set_option maxRecDepth 100000 in exact rfl), lt_1 (i := 4) (by set_option maxRecDepth 100000 in exact rfl), by decide +kernel, by decide +kernel⟩
theorem tz_Ba_isAsked : cz_V y_Ba_isAsked := ⟨lt_3 (i := 119) (by set_option maxRecDepth 100000 in exact rfl), List.mem_of_getElem? (i := 59) (by decide +kernel)⟩
abbrev b_AR_request : ByteArray := prog_1_method_7_code
abbrev y_AR_request : MethodName := ⟨"AreaRouters", "request", "(IIII)I"⟩
theorem sz_AR_request : cz_S (.code y_AR_request b_AR_request 9 (some .int)) y_AR_request b_AR_request 9 (some .int) 4 := ⟨rfl, lt_3 (i := 116) (by set_option maxRecDepth 100000 in exact rfl), lt_1 (i := 1) (by set_option maxRecDepth 100000 in exact rfl), by decide +kernel, by decide +kernel⟩
theorem tz_AR_request : cz_V y_AR_request := ⟨lt_3 (i := 114) (by set_option maxRecDepth 100000 in exact rfl), lt_3 (i := 115) (by set_option maxRecDepth 100000 in exact rfl)⟩
abbrev b_Ba_linkOf : ByteArray := prog_2_method_20_code
abbrev y_Ba_linkOf : MethodName := ⟨"AreaRouters$Base", "linkOf", "(II)I"⟩
theorem sz_Ba_linkOf : cz_S (.code y_Ba_linkOf b_Ba_linkOf 3 (some .int)) y_Ba_linkOf b_Ba_linkOf 3 (some .int) 2 := ⟨rfl, lt_2 (i := 23) (by set_option maxRecDepth 100000 in exact rfl), lt_1 (i := 4) (by set_option maxRecDepth 100000 in exact rfl), by decide +kernel, by decide +kernel⟩
theorem tz_Ba_linkOf : cz_V y_Ba_linkOf := ⟨lt_2 (i := 22) (by set_option maxRecDepth 100000 in exact rfl), List.mem_of_getElem? (i := 17) (by decide +kernel)⟩
abbrev b_Ba_isStillTrue : ByteArray := prog_2_method_16_code
abbrev y_Ba_isStillTrue : MethodName := ⟨"AreaRouters$Base", "isStillTrue", "(ILAreaRouters$Draft;)Z"⟩
theorem sz_Ba_isStillTrue : cz_S (.code y_Ba_isStillTrue b_Ba_isStillTrue 4 (some .boolean)) y_Ba_isStillTrue b_Ba_isStillTrue 4 (some .boolean) 2 := ⟨rfl, lt_3 (i := 137) (by set_option maxRecDepth 100000 in exact rfl), lt_1 (i := 4) (by set_option maxRecDepth 100000 in exact rfl), by decide +kernel, by decide +kernel⟩
theorem tz_Ba_isStillTrue : cz_V y_Ba_isStillTrue := ⟨lt_3 (i := 136) (by set_option maxRecDepth 100000 in exact rfl), List.mem_of_getElem? (i := 61) (by decide +kernel)⟩
abbrev b_AR_bringUpToDate : ByteArray := prog_1_method_36_code
abbrev y_AR_bringUpToDate : MethodName := ⟨"AreaRouters", "bringUpToDate", "(III)Z"⟩
theorem sz_AR_bringUpToDate : cz_S (.code y_AR_bringUpToDate b_AR_bringUpToDate 6 (some .boolean)) y_AR_bringUpToDate b_AR_bringUpToDate 6 (some .boolean) 3 := ⟨rfl, lt_3 (i := 133) (by set_option maxRecDepth 100000 in exact rfl), lt_1 (i := 1) (by set_option maxRecDepth 100000 in exact rfl), by decide +kernel, by decide +kernel⟩
theorem tz_AR_bringUpToDate : cz_V y_AR_bringUpToDate := ⟨lt_3 (i := 132) (by set_option maxRecDepth 100000 in exact rfl), List.mem_of_getElem? (i := 60) (by decide +kernel)⟩
abbrev b_AR_describe : ByteArray := prog_1_method_8_code
abbrev y_AR_describe : MethodName := ⟨"AreaRouters", "describe", "(I)I"⟩
theorem sz_AR_describe : cz_S (.code y_AR_describe b_AR_describe 5 (some .int)) y_AR_describe b_AR_describe 5 (some .int) 1 := ⟨rfl, lt_3 (i := 128) (by set_option maxRecDepth 100000 in exact rfl), lt_1 (i := 1) (by set_option maxRecDepth 100000 in exact rfl), by decide +kernel, by decide +kernel⟩
theorem tz_AR_describe : cz_V y_AR_describe := ⟨lt_3 (i := 126) (by set_option maxRecDepth 100000 in exact rfl), lt_3 (i := 127) (by set_option maxRecDepth 100000 in exact rfl)⟩
abbrev b_He_age : ByteArray := prog_4_method_6_code
abbrev y_He_age : MethodName := ⟨"AreaRouters$Hearing", "age", "()V"⟩
theorem sz_He_age : cz_S (.code y_He_age b_He_age 2 none) y_He_age b_He_age 2 none 0 := ⟨rfl, lt_1 (i := 193) (by set_option maxRecDepth 100000 in exact rfl), lt_1 (i := 3) (by set_option maxRecDepth 100000 in exact rfl), by decide +kernel, by decide +kernel⟩
theorem tz_He_age : cz_V y_He_age := ⟨lt_1 (i := 192) (by set_option maxRecDepth 100000 in exact rfl), List.mem_of_getElem? (i := 4) (by decide +kernel)⟩
abbrev b_Ba_remove : ByteArray := prog_2_method_23_code
abbrev y_Ba_remove : MethodName := ⟨"AreaRouters$Base", "remove", "(I)V"⟩
theorem sz_Ba_remove : cz_S (.code y_Ba_remove b_Ba_remove 2 none) y_Ba_remove b_Ba_remove 2 none 1 := ⟨rfl, lt_1 (i := 217) (by set_option maxRecDepth 100000 in exact rfl), lt_1 (i := 4) (by set_option maxRecDepth 100000 in exact rfl), by decide +kernel, by decide +kernel⟩
theorem tz_Ba_remove : cz_V y_Ba_remove := ⟨lt_1 (i := 216) (by set_option maxRecDepth 100000 in exact rfl), List.mem_of_getElem? (i := 10) (by decide +kernel)⟩
abbrev b_Ba_age : ByteArray := prog_2_method_22_code
abbrev y_Ba_age : MethodName := ⟨"AreaRouters$Base", "age", "(I)V"⟩
theorem sz_Ba_age : cz_S (.code y_Ba_age b_Ba_age 3 none) y_Ba_age b_Ba_age 3 none 1 := ⟨rfl, lt_1 (i := 201) (by set_option maxRecDepth 100000 in exact rfl), lt_1 (i := 4) (by set_option maxRecDepth 100000 in exact rfl), by decide +kernel, by decide +kernel⟩
theorem tz_Ba_age : cz_V y_Ba_age := ⟨lt_1 (i := 200) (by set_option maxRecDepth 100000 in exact rfl), List.mem_of_getElem? (i := 6) (by decide +kernel)⟩
abbrev b_AR_tick : ByteArray := prog_1_method_9_code
abbrev y_AR_tick : MethodName := ⟨"AreaRouters", "tick", "()V"⟩
theorem sz_AR_tick : cz_S (.code y_AR_tick b_AR_tick 3 none) y_AR_tick b_AR_tick 3 none 0 := ⟨rfl, lt_1 (i := 189) (by set_option maxRecDepth 100000 in exact rfl), lt_1 (i := 1) (by set_option maxRecDepth 100000 in exact rfl), by decide +kernel, by decide +kernel⟩
theorem tz_AR_tick : cz_V y_AR_tick := ⟨lt_1 (i := 187) (by set_option maxRecDepth 100000 in exact rfl), lt_1 (i := 188) (by set_option maxRecDepth 100000 in exact rfl)⟩
abbrev b_AR_neighbour : ByteArray := prog_1_method_10_code
abbrev y_AR_neighbour : MethodName := ⟨"AreaRouters", "neighbour", "(IIII)Z"⟩
theorem sz_AR_neighbour : cz_S (.code y_AR_neighbour b_AR_neighbour 5 (some .boolean)) y_AR_neighbour b_AR_neighbour 5 (some .boolean) 4 := ⟨rfl, lt_1 (i := 221) (by set_option maxRecDepth 100000 in exact rfl), lt_1 (i := 1) (by set_option maxRecDepth 100000 in exact rfl), by decide +kernel, by decide +kernel⟩
theorem tz_AR_neighbour : cz_V y_AR_neighbour := ⟨lt_1 (i := 219) (by set_option maxRecDepth 100000 in exact rfl), lt_1 (i := 220) (by set_option maxRecDepth 100000 in exact rfl)⟩
abbrev b_AR_speaker : ByteArray := prog_1_method_11_code
abbrev y_AR_speaker : MethodName := ⟨"AreaRouters", "speaker", "(III)I"⟩
theorem sz_AR_speaker : cz_S (.code y_AR_speaker b_AR_speaker 4 (some .int)) y_AR_speaker b_AR_speaker 4 (some .int) 3 := ⟨rfl, lt_1 (i := 236) (by set_option maxRecDepth 100000 in exact rfl), lt_1 (i := 1) (by set_option maxRecDepth 100000 in exact rfl), by decide +kernel, by decide +kernel⟩
theorem tz_AR_speaker : cz_V y_AR_speaker := ⟨lt_1 (i := 234) (by set_option maxRecDepth 100000 in exact rfl), lt_1 (i := 235) (by set_option maxRecDepth 100000 in exact rfl)⟩
abbrev b_AR_isName : ByteArray := prog_1_method_19_code
abbrev y_AR_isName : MethodName := ⟨"AreaRouters", "isName", "(I)Z"⟩
theorem sz_AR_isName : cz_S (.code y_AR_isName b_AR_isName 1 (some .boolean)) y_AR_isName b_AR_isName 1 (some .boolean) 1 := ⟨rfl, lt_2 (i := 15) (by set_option maxRecDepth 100000 in exact rfl), lt_1 (i := 1) (by set_option maxRecDepth 100000 in exact rfl), by decide +kernel, by decide +kernel⟩
theorem tz_AR_isName : Cond.static y_AR_isName ∈ lw_tbl := lt_2 (i := 14) (by set_option maxRecDepth 100000 in exact rfl)
abbrev b_Ba_tell : ByteArray := prog_2_method_12_code
abbrev y_Ba_tell : MethodName := ⟨"AreaRouters$Base", "tell", "(II)I"⟩
theorem sz_Ba_tell : cz_S (.code y_Ba_tell b_Ba_tell 3 (some .int)) y_Ba_tell b_Ba_tell 3 (some .int) 2 := ⟨rfl, lt_2 (i := 19) (by set_option maxRecDepth 100000 in exact rfl), lt_1 (i := 4) (by set_option maxRecDepth 100000 in exact rfl), by decide +kernel, by decide +kernel⟩
theorem tz_Ba_tell : cz_V y_Ba_tell := ⟨lt_2 (i := 18) (by set_option maxRecDepth 100000 in exact rfl), List.mem_of_getElem? (i := 16) (by decide +kernel)⟩
abbrev b_AR_description : ByteArray := prog_1_method_12_code
abbrev y_AR_description : MethodName := ⟨"AreaRouters", "description", "(IIII)I"⟩
theorem sz_AR_description : cz_S (.code y_AR_description b_AR_description 5 (some .int)) y_AR_description b_AR_description 5 (some .int) 4 := ⟨rfl, lt_2 (i := 12) (by set_option maxRecDepth 100000 in exact rfl), lt_1 (i := 1) (by set_option maxRecDepth 100000 in exact rfl), by decide +kernel, by decide +kernel⟩
theorem tz_AR_description : cz_V y_AR_description := ⟨lt_2 (i := 10) (by set_option maxRecDepth 100000 in exact rfl), lt_2 (i := 11) (by set_option maxRecDepth 100000 in exact rfl)⟩
abbrev b_Ba_marksOf : ByteArray := prog_2_method_11_code
abbrev y_Ba_marksOf : MethodName := ⟨"AreaRouters$Base", "marksOf", "(I)I"⟩
theorem sz_Ba_marksOf : cz_S (.code y_Ba_marksOf b_Ba_marksOf 2 (some .int)) y_Ba_marksOf b_Ba_marksOf 2 (some .int) 1 := ⟨rfl, lt_2 (i := 31) (by set_option maxRecDepth 100000 in exact rfl), lt_1 (i := 4) (by set_option maxRecDepth 100000 in exact rfl), by decide +kernel, by decide +kernel⟩
theorem tz_Ba_marksOf : cz_V y_Ba_marksOf := ⟨lt_2 (i := 30) (by set_option maxRecDepth 100000 in exact rfl), List.mem_of_getElem? (i := 18) (by decide +kernel)⟩
abbrev b_AR_marks : ByteArray := prog_1_method_13_code
abbrev y_AR_marks : MethodName := ⟨"AreaRouters", "marks", "(III)I"⟩
theorem sz_AR_marks : cz_S (.code y_AR_marks b_AR_marks 4 (some .int)) y_AR_marks b_AR_marks 4 (some .int) 3 := ⟨rfl, lt_2 (i := 27) (by set_option maxRecDepth 100000 in exact rfl), lt_1 (i := 1) (by set_option maxRecDepth 100000 in exact rfl), by decide +kernel, by decide +kernel⟩
theorem tz_AR_marks : cz_V y_AR_marks := ⟨lt_2 (i := 25) (by set_option maxRecDepth 100000 in exact rfl), lt_2 (i := 26) (by set_option maxRecDepth 100000 in exact rfl)⟩
abbrev b_Wa_nextToSettle : ByteArray := prog_5_method_3_code
abbrev y_Wa_nextToSettle : MethodName := ⟨"AreaRouters$Ways", "nextToSettle", "()I"⟩
theorem sz_Wa_nextToSettle : cz_S (.code y_Wa_nextToSettle b_Wa_nextToSettle 3 (some .int)) y_Wa_nextToSettle b_Wa_nextToSettle 3 (some .int) 0 := ⟨rfl, lt_2 (i := 51) (by set_option maxRecDepth 100000 in exact rfl), lt_1 (i := 6) (by set_option maxRecDepth 100000 in exact rfl), by decide +kernel, by decide +kernel⟩
theorem tz_Wa_nextToSettle : cz_V y_Wa_nextToSettle := ⟨lt_2 (i := 50) (by set_option maxRecDepth 100000 in exact rfl), List.mem_of_getElem? (i := 21) (by decide +kernel)⟩
abbrev b_Ba_hasLink : ByteArray := prog_2_method_24_code
abbrev y_Ba_hasLink : MethodName := ⟨"AreaRouters$Base", "hasLink", "(II)Z"⟩
theorem sz_Ba_hasLink : cz_S (.code y_Ba_hasLink b_Ba_hasLink 4 (some .boolean)) y_Ba_hasLink b_Ba_hasLink 4 (some .boolean) 2 := ⟨rfl, lt_2 (i := 65) (by set_option maxRecDepth 100000 in exact rfl), lt_1 (i := 4) (by set_option maxRecDepth 100000 in exact rfl), by decide +kernel, by decide +kernel⟩
theorem tz_Ba_hasLink : cz_V y_Ba_hasLink := ⟨lt_2 (i := 64) (by set_option maxRecDepth 100000 in exact rfl), List.mem_of_getElem? (i := 23) (by decide +kernel)⟩
abbrev b_Wa_reach : ByteArray := prog_5_method_5_code
abbrev y_Wa_reach : MethodName := ⟨"AreaRouters$Ways", "reach", "(III)V"⟩
theorem sz_Wa_reach : cz_S (.code y_Wa_reach b_Wa_reach 5 none) y_Wa_reach b_Wa_reach 5 none 3 := ⟨rfl, lt_2 (i := 69) (by set_option maxRecDepth 100000 in exact rfl), lt_1 (i := 6) (by set_option maxRecDepth 100000 in exact rfl), by decide +kernel, by decide +kernel⟩
theorem tz_Wa_reach : cz_V y_Wa_reach := ⟨lt_2 (i := 68) (by set_option maxRecDepth 100000 in exact rfl), List.mem_of_getElem? (i := 24) (by decide +kernel)⟩
abbrev b_Wa_followLinks : ByteArray := prog_5_method_4_code
abbrev y_Wa_followLinks : MethodName := ⟨"AreaRouters$Ways", "followLinks", "(LAreaRouters$Base;I)V"⟩
theorem sz_Wa_followLinks : cz_S (.code y_Wa_followLinks b_Wa_followLinks 6 none) y_Wa_followLinks b_Wa_followLinks 6 none 2 := ⟨rfl, lt_2 (i := 58) (by set_option maxRecDepth 100000 in exact rfl), lt_1 (i := 6) (by set_option maxRecDepth 100000 in exact rfl), by decide +kernel, by decide +kernel⟩
theorem tz_Wa_followLinks : cz_V y_Wa_followLinks := ⟨lt_2 (i := 57) (by set_option maxRecDepth 100000 in exact rfl), List.mem_of_getElem? (i := 22) (by decide +kernel)⟩
abbrev b_Wa_find : ByteArray := prog_5_method_2_code
abbrev y_Wa_find : MethodName := ⟨"AreaRouters$Ways", "find", "(LAreaRouters$Base;I)V"⟩
theorem sz_Wa_find : cz_S (.code y_Wa_find b_Wa_find 5 none) y_Wa_find b_Wa_find 5 none 2 := ⟨rfl, lt_2 (i := 46) (by set_option maxRecDepth 100000 in exact rfl), lt_1 (i := 6) (by set_option maxRecDepth 100000 in exact rfl), by decide +kernel, by decide +kernel⟩
theorem tz_Wa_find : cz_V y_Wa_find := ⟨lt_2 (i := 45) (by set_option maxRecDepth 100000 in exact rfl), List.mem_of_getElem? (i := 20) (by decide +kernel)⟩
abbrev b_Wa_wayTo : ByteArray := prog_5_method_7_code
abbrev y_Wa_wayTo : MethodName := ⟨"AreaRouters$Ways", "wayTo", "(I)I"⟩
theorem sz_Wa_wayTo : cz_S (.code y_Wa_wayTo b_Wa_wayTo 4 (some .int)) y_Wa_wayTo b_Wa_wayTo 4 (some .int) 1 := ⟨rfl, lt_2 (i := 76) (by set_option maxRecDepth 100000 in exact rfl), lt_1 (i := 6) (by set_option maxRecDepth 100000 in exact rfl), by decide +kernel, by decide +kernel⟩
theorem tz_Wa_wayTo : cz_V y_Wa_wayTo := ⟨lt_2 (i := 75) (by set_option maxRecDepth 100000 in exact rfl), List.mem_of_getElem? (i := 25) (by decide +kernel)⟩
abbrev b_Wa_nearer : ByteArray := prog_5_method_6_code
abbrev y_Wa_nearer : MethodName := ⟨"AreaRouters$Ways", "nearer", "(II)I"⟩
theorem sz_Wa_nearer : cz_S (.code y_Wa_nearer b_Wa_nearer 4 (some .int)) y_Wa_nearer b_Wa_nearer 4 (some .int) 2 := ⟨rfl, lt_2 (i := 86) (by set_option maxRecDepth 100000 in exact rfl), lt_1 (i := 6) (by set_option maxRecDepth 100000 in exact rfl), by decide +kernel, by decide +kernel⟩
theorem tz_Wa_nearer : cz_V y_Wa_nearer := ⟨lt_2 (i := 85) (by set_option maxRecDepth 100000 in exact rfl), List.mem_of_getElem? (i := 27) (by decide +kernel)⟩
abbrev b_AR_wayToArea : ByteArray := prog_1_method_40_code
abbrev y_AR_wayToArea : MethodName := ⟨"AreaRouters", "wayToArea", "(II)I"⟩
theorem sz_AR_wayToArea : cz_S (.code y_AR_wayToArea b_AR_wayToArea 6 (some .int)) y_AR_wayToArea b_AR_wayToArea 6 (some .int) 2 := ⟨rfl, lt_2 (i := 82) (by set_option maxRecDepth 100000 in exact rfl), lt_1 (i := 1) (by set_option maxRecDepth 100000 in exact rfl), by decide +kernel, by decide +kernel⟩
theorem tz_AR_wayToArea : cz_V y_AR_wayToArea := ⟨lt_2 (i := 81) (by set_option maxRecDepth 100000 in exact rfl), List.mem_of_getElem? (i := 26) (by decide +kernel)⟩
abbrev b_AR_wayToExit : ByteArray := prog_1_method_41_code
abbrev y_AR_wayToExit : MethodName := ⟨"AreaRouters", "wayToExit", "(I)I"⟩
theorem sz_AR_wayToExit : cz_S (.code y_AR_wayToExit b_AR_wayToExit 5 (some .int)) y_AR_wayToExit b_AR_wayToExit 5 (some .int) 1 := ⟨rfl, lt_2 (i := 90) (by set_option maxRecDepth 100000 in exact rfl), lt_1 (i := 1) (by set_option maxRecDepth 100000 in exact rfl), by decide +kernel, by decide +kernel⟩
theorem tz_AR_wayToExit : cz_V y_AR_wayToExit := ⟨lt_2 (i := 89) (by set_option maxRecDepth 100000 in exact rfl), List.mem_of_getElem? (i := 28) (by decide +kernel)⟩
abbrev b_AR_wayFrom : ByteArray := prog_1_method_39_code
abbrev y_AR_wayFrom : MethodName := ⟨"AreaRouters", "wayFrom", "(II)I"⟩
theorem sz_AR_wayFrom : cz_S (.code y_AR_wayFrom b_AR_wayFrom 4 (some .int)) y_AR_wayFrom b_AR_wayFrom 4 (some .int) 2 := ⟨rfl, lt_2 (i := 39) (by set_option maxRecDepth 100000 in exact rfl), lt_1 (i := 1) (by set_option maxRecDepth 100000 in exact rfl), by decide +kernel, by decide +kernel⟩
theorem tz_AR_wayFrom : cz_V y_AR_wayFrom := ⟨lt_2 (i := 38) (by set_option maxRecDepth 100000 in exact rfl), List.mem_of_getElem? (i := 19) (by decide +kernel)⟩
abbrev b_AR_route : ByteArray := prog_1_method_14_code
abbrev y_AR_route : MethodName := ⟨"AreaRouters", "route", "(II)I"⟩
theorem sz_AR_route : cz_S (.code y_AR_route b_AR_route 3 (some .int)) y_AR_route b_AR_route 3 (some .int) 2 := ⟨rfl, lt_2 (i := 35) (by set_option maxRecDepth 100000 in exact rfl), lt_1 (i := 1) (by set_option maxRecDepth 100000 in exact rfl), by decide +kernel, by decide +kernel⟩
theorem tz_AR_route : cz_V y_AR_route := ⟨lt_2 (i := 33) (by set_option maxRecDepth 100000 in exact rfl), lt_2 (i := 34) (by set_option maxRecDepth 100000 in exact rfl)⟩
abbrev b_AR_trace : ByteArray := prog_1_method_15_code
abbrev y_AR_trace : MethodName := ⟨"AreaRouters", "trace", "(II)I"⟩
theorem sz_AR_trace : cz_S (.code y_AR_trace b_AR_trace 6 (some .int)) y_AR_trace b_AR_trace 6 (some .int) 2 := ⟨rfl, lt_2 (i := 94) (by set_option maxRecDepth 100000 in exact rfl), lt_1 (i := 1) (by set_option maxRecDepth 100000 in exact rfl), by decide +kernel, by decide +kernel⟩
theorem tz_AR_trace : cz_V y_AR_trace := ⟨lt_2 (i := 92) (by set_option maxRecDepth 100000 in exact rfl), lt_2 (i := 93) (by set_option maxRecDepth 100000 in exact rfl)⟩
theorem lk_Ba_43 : Cond.methodLink R_Ba 43 ⟨"AreaRouters$Base", "has", "(I)Z"⟩ ∈ lw_tbl := lt_1 (i := 210) (by set_option maxRecDepth 100000 in exact rfl)
theorem lk_Ba_47 : Cond.methodLink R_Ba 47 ⟨"AreaRouters$Base", "linkOf", "(II)I"⟩ ∈ lw_tbl := lt_2 (i := 20) (by set_option maxRecDepth 100000 in exact rfl)
theorem lk_Ba_51 : Cond.methodLink R_Ba 51 ⟨"AreaRouters$Base", "isAlive", "(I)Z"⟩ ∈ lw_tbl := lt_1 (i := 202) (by set_option maxRecDepth 100000 in exact rfl)
theorem lk_Ba_54 : Cond.methodLink R_Ba 54 ⟨"AreaRouters$Base", "orderAgainst", "(LAreaRouters$Base;I)I"⟩ ∈ lw_tbl := lt_3 (i := 103) (by set_option maxRecDepth 100000 in exact rfl)
theorem lk_Ba_58 : Cond.methodLink R_Ba 58 ⟨"AreaRouters$Base", "setDue", "(IIZ)V"⟩ ∈ lw_tbl := lt_3 (i := 104) (by set_option maxRecDepth 100000 in exact rfl)
theorem lk_Ba_62 : Cond.methodLink R_Ba 62 ⟨"AreaRouters$Base", "setAsked", "(IIZ)V"⟩ ∈ lw_tbl := lt_3 (i := 105) (by set_option maxRecDepth 100000 in exact rfl)
theorem lk_Ba_65 : Cond.methodLink R_Ba 65 ⟨"AreaRouters$Base", "compareWithTold", "(LAreaRouters$Base;II)V"⟩ ∈ lw_tbl := lt_3 (i := 99) (by set_option maxRecDepth 100000 in exact rfl)
theorem lk_Ba_83 : Cond.methodLink R_Ba 83 ⟨"AreaRouters$Base", "takeLinks", "(I[III)V"⟩ ∈ lw_tbl := lt_3 (i := 26) (by set_option maxRecDepth 100000 in exact rfl)
theorem lk_Ba_92 : Cond.methodLink R_Ba 92 ⟨"AreaRouters$Base", "end", "(II)V"⟩ ∈ lw_tbl := lt_1 (i := 206) (by set_option maxRecDepth 100000 in exact rfl)
theorem lk_Ba_96 : Cond.methodLink R_Ba 96 ⟨"AreaRouters$Base", "remove", "(I)V"⟩ ∈ lw_tbl := lt_1 (i := 214) (by set_option maxRecDepth 100000 in exact rfl)
theorem lk_He_19 : Cond.methodLink R_He 19 ⟨"AreaRouters$Hearing", "isMutual", "(III)Z"⟩ ∈ lw_tbl := lt_3 (i := 57) (by set_option maxRecDepth 100000 in exact rfl)
theorem lk_Wa_23 : Cond.methodLink R_Wa 23 ⟨"AreaRouters$Ways", "nextToSettle", "()I"⟩ ∈ lw_tbl := lt_2 (i := 48) (by set_option maxRecDepth 100000 in exact rfl)
theorem lk_Wa_27 : Cond.methodLink R_Wa 27 ⟨"AreaRouters$Ways", "followLinks", "(LAreaRouters$Base;I)V"⟩ ∈ lw_tbl := lt_2 (i := 55) (by set_option maxRecDepth 100000 in exact rfl)
theorem lk_Wa_31 : Cond.methodLinkNest R_Wa 31 ⟨"AreaRouters", "partOf", "(I)I"⟩ "AreaRouters" ∈ lw_tbl := lt_2 (i := 52) (by set_option maxRecDepth 100000 in exact rfl)
theorem lk_Wa_35 : Cond.methodLinkNest R_Wa 35 ⟨"AreaRouters$Base", "isAlive", "(I)Z"⟩ "AreaRouters" ∈ lw_tbl := lt_2 (i := 59) (by set_option maxRecDepth 100000 in exact rfl)
theorem lk_Wa_44 : Cond.methodLinkNest R_Wa 44 ⟨"AreaRouters$Base", "linkOf", "(II)I"⟩ "AreaRouters" ∈ lw_tbl := lt_2 (i := 60) (by set_option maxRecDepth 100000 in exact rfl)
theorem lk_Wa_48 : Cond.methodLinkNest R_Wa 48 ⟨"AreaRouters", "isName", "(I)Z"⟩ "AreaRouters" ∈ lw_tbl := lt_2 (i := 61) (by set_option maxRecDepth 100000 in exact rfl)
theorem lk_Wa_51 : Cond.methodLinkNest R_Wa 51 ⟨"AreaRouters$Base", "hasLink", "(II)Z"⟩ "AreaRouters" ∈ lw_tbl := lt_2 (i := 62) (by set_option maxRecDepth 100000 in exact rfl)
theorem lk_Wa_55 : Cond.methodLink R_Wa 55 ⟨"AreaRouters$Ways", "reach", "(III)V"⟩ ∈ lw_tbl := lt_2 (i := 66) (by set_option maxRecDepth 100000 in exact rfl)
theorem lk_Wa_59 : Cond.methodLinkNest R_Wa 59 ⟨"AreaRouters", "routerOf", "(I)I"⟩ "AreaRouters" ∈ lw_tbl := lt_2 (i := 70) (by set_option maxRecDepth 100000 in exact rfl)
theorem lk_Wa_62 : Cond.methodLinkNest R_Wa 62 ⟨"AreaRouters", "isRouter", "(I)Z"⟩ "AreaRouters" ∈ lw_tbl := lt_2 (i := 77) (by set_option maxRecDepth 100000 in exact rfl)
theorem lk_Wa_65 : Cond.methodLinkNest R_Wa 65 ⟨"AreaRouters", "nameOf", "(II)I"⟩ "AreaRouters" ∈ lw_tbl := lt_2 (i := 78) (by set_option maxRecDepth 100000 in exact rfl)
theorem lk_Wi_18 : Cond.methodLink R_Wi 18 ⟨"AreaRouters$Wiring", "isAttached", "(II)Z"⟩ ∈ lw_tbl := lt_1 (i := 166) (by set_option maxRecDepth 100000 in exact rfl)
theorem lk_Wi_22 : Cond.methodLink R_Wi 22 ⟨"AreaRouters$Wiring", "countOn", "(I)I"⟩ ∈ lw_tbl := lt_3 (i := 62) (by set_option maxRecDepth 100000 in exact rfl)
theorem lk_AR_102 : Cond.methodLinkNest R_AR 102 ⟨"AreaRouters$Wiring", "isShared", "(I)Z"⟩ "AreaRouters" ∈ lw_tbl := lt_3 (i := 58) (by set_option maxRecDepth 100000 in exact rfl)
theorem lk_AR_105 : Cond.methodLinkNest R_AR 105 ⟨"AreaRouters$Base", "setDue", "(IIZ)V"⟩ "AreaRouters" ∈ lw_tbl := lt_3 (i := 11) (by set_option maxRecDepth 100000 in exact rfl)
theorem lk_AR_109 : Cond.methodLinkNest R_AR 109 ⟨"AreaRouters$Base", "compareWithSummary", "(LAreaRouters$Base;I)V"⟩ "AreaRouters" ∈ lw_tbl := lt_3 (i := 95) (by set_option maxRecDepth 100000 in exact rfl)
theorem lk_AR_113 : Cond.methodLinkNest R_AR 113 ⟨"AreaRouters$Base", "count", "()I"⟩ "AreaRouters" ∈ lw_tbl := lt_3 (i := 106) (by set_option maxRecDepth 100000 in exact rfl)
theorem lk_AR_117 : Cond.methodLinkNest R_AR 117 ⟨"AreaRouters$Base", "isAsked", "(II)Z"⟩ "AreaRouters" ∈ lw_tbl := lt_3 (i := 117) (by set_option maxRecDepth 100000 in exact rfl)
theorem lk_AR_120 : Cond.methodLinkNest R_AR 120 ⟨"AreaRouters$Base", "setAsked", "(IIZ)V"⟩ "AreaRouters" ∈ lw_tbl := lt_3 (i := 15) (by set_option maxRecDepth 100000 in exact rfl)
theorem lk_AR_123 : Cond.methodLinkNest R_AR 123 ⟨"AreaRouters$Base", "compareWithTold", "(LAreaRouters$Base;II)V"⟩ "AreaRouters" ∈ lw_tbl := lt_3 (i := 121) (by set_option maxRecDepth 100000 in exact rfl)
theorem lk_AR_134 : Cond.methodLink R_AR 134 ⟨"AreaRouters", "hasLevel", "(II)Z"⟩ ∈ lw_tbl := lt_1 (i := 237) (by set_option maxRecDepth 100000 in exact rfl)
theorem lk_AR_137 : Cond.methodLink R_AR 137 ⟨"AreaRouters", "bringUpToDate", "(III)Z"⟩ ∈ lw_tbl := lt_3 (i := 130) (by set_option maxRecDepth 100000 in exact rfl)
theorem lk_AR_141 : Cond.methodLinkNest R_AR 141 ⟨"AreaRouters$Hearing", "age", "()V"⟩ "AreaRouters" ∈ lw_tbl := lt_1 (i := 190) (by set_option maxRecDepth 100000 in exact rfl)
theorem lk_AR_144 : Cond.methodLinkNest R_AR 144 ⟨"AreaRouters$Base", "age", "(I)V"⟩ "AreaRouters" ∈ lw_tbl := lt_1 (i := 198) (by set_option maxRecDepth 100000 in exact rfl)
theorem lk_AR_147 : Cond.methodLink R_AR 147 ⟨"AreaRouters", "isLevel", "(I)Z"⟩ ∈ lw_tbl := lt_1 (i := 222) (by set_option maxRecDepth 100000 in exact rfl)
theorem lk_AR_150 : Cond.methodLink R_AR 150 ⟨"AreaRouters", "hearingAt", "(I)LAreaRouters$Hearing;"⟩ ∈ lw_tbl := lt_1 (i := 225) (by set_option maxRecDepth 100000 in exact rfl)
theorem lk_AR_154 : Cond.methodLinkNest R_AR 154 ⟨"AreaRouters$Hearing", "isMutual", "(III)Z"⟩ "AreaRouters" ∈ lw_tbl := lt_1 (i := 229) (by set_option maxRecDepth 100000 in exact rfl)
theorem lk_AR_157 : Cond.methodLink R_AR 157 ⟨"AreaRouters", "speakerSeenBy", "(III)I"⟩ ∈ lw_tbl := lt_2 (i := 1) (by set_option maxRecDepth 100000 in exact rfl)
theorem lk_AR_161 : Cond.methodLink R_AR 161 ⟨"AreaRouters", "isName", "(I)Z"⟩ ∈ lw_tbl := lt_2 (i := 13) (by set_option maxRecDepth 100000 in exact rfl)
theorem lk_AR_164 : Cond.methodLinkNest R_AR 164 ⟨"AreaRouters$Base", "tell", "(II)I"⟩ "AreaRouters" ∈ lw_tbl := lt_2 (i := 16) (by set_option maxRecDepth 100000 in exact rfl)
theorem lk_AR_168 : Cond.methodLinkNest R_AR 168 ⟨"AreaRouters$Base", "marksOf", "(I)I"⟩ "AreaRouters" ∈ lw_tbl := lt_2 (i := 28) (by set_option maxRecDepth 100000 in exact rfl)
theorem lk_AR_171 : Cond.methodLink R_AR 171 ⟨"AreaRouters", "wayFrom", "(II)I"⟩ ∈ lw_tbl := lt_2 (i := 36) (by set_option maxRecDepth 100000 in exact rfl)
theorem lk_AR_186 : Cond.methodLinkNest R_AR 186 ⟨"AreaRouters$Hearing", "isHeard", "(III)Z"⟩ "AreaRouters" ∈ lw_tbl := lt_2 (i := 199) (by set_option maxRecDepth 100000 in exact rfl)
theorem lk_AR_189 : Cond.methodLinkNest R_AR 189 ⟨"AreaRouters$Hearing", "note", "(IIIZ)V"⟩ "AreaRouters" ∈ lw_tbl := lt_2 (i := 203) (by set_option maxRecDepth 100000 in exact rfl)
theorem lk_AR_193 : Cond.methodLinkNest R_AR 193 ⟨"AreaRouters$Wiring", "priorityOf", "(II)I"⟩ "AreaRouters" ∈ lw_tbl := lt_2 (i := 5) (by set_option maxRecDepth 100000 in exact rfl)
theorem lk_AR_196 : Cond.methodLinkNest R_AR 196 ⟨"AreaRouters$Draft", "begin", "(I)V"⟩ "AreaRouters" ∈ lw_tbl := lt_3 (i := 41) (by set_option maxRecDepth 100000 in exact rfl)
theorem lk_AR_199 : Cond.methodLink R_AR 199 ⟨"AreaRouters", "draftItself", "(II)V"⟩ ∈ lw_tbl := lt_3 (i := 45) (by set_option maxRecDepth 100000 in exact rfl)
theorem lk_AR_202 : Cond.methodLink R_AR 202 ⟨"AreaRouters", "draftCircuit", "(III)Z"⟩ ∈ lw_tbl := lt_3 (i := 71) (by set_option maxRecDepth 100000 in exact rfl)
theorem lk_AR_205 : Cond.methodLink R_AR 205 ⟨"AreaRouters", "hasLevelTwoNeighbourElsewhere", "(I)Z"⟩ ∈ lw_tbl := lt_3 (i := 49) (by set_option maxRecDepth 100000 in exact rfl)
theorem lk_AR_212 : Cond.methodLinkNest R_AR 212 ⟨"AreaRouters$Hearing", "firstMutual", "(II)I"⟩ "AreaRouters" ∈ lw_tbl := lt_3 (i := 53) (by set_option maxRecDepth 100000 in exact rfl)
theorem lk_AR_215 : Cond.methodLink R_AR 215 ⟨"AreaRouters", "nameOf", "(II)I"⟩ ∈ lw_tbl := lt_2 (i := 40) (by set_option maxRecDepth 100000 in exact rfl)
theorem lk_AR_218 : Cond.methodLinkNest R_AR 218 ⟨"AreaRouters$Wiring", "metricOf", "(II)I"⟩ "AreaRouters" ∈ lw_tbl := lt_3 (i := 63) (by set_option maxRecDepth 100000 in exact rfl)
theorem lk_AR_221 : Cond.methodLinkNest R_AR 221 ⟨"AreaRouters$Draft", "addLink", "(II)V"⟩ "AreaRouters" ∈ lw_tbl := lt_3 (i := 67) (by set_option maxRecDepth 100000 in exact rfl)
theorem lk_AR_224 : Cond.methodLink R_AR 224 ⟨"AreaRouters", "draftPart", "(III)Z"⟩ ∈ lw_tbl := lt_3 (i := 37) (by set_option maxRecDepth 100000 in exact rfl)
theorem lk_AR_227 : Cond.methodLinkNest R_AR 227 ⟨"AreaRouters$Base", "isStillTrue", "(ILAreaRouters$Draft;)Z"⟩ "AreaRouters" ∈ lw_tbl := lt_3 (i := 134) (by set_option maxRecDepth 100000 in exact rfl)
theorem lk_AR_231 : Cond.methodLinkNest R_AR 231 ⟨"AreaRouters$Base", "renew", "(ILAreaRouters$Draft;I)V"⟩ "AreaRouters" ∈ lw_tbl := lt_3 (i := 75) (by set_option maxRecDepth 100000 in exact rfl)
theorem lk_AR_235 : Cond.methodLinkNest R_AR 235 ⟨"AreaRouters$Base", "isAlive", "(I)Z"⟩ "AreaRouters" ∈ lw_tbl := lt_3 (i := 31) (by set_option maxRecDepth 100000 in exact rfl)
theorem lk_AR_238 : Cond.methodLinkNest R_AR 238 ⟨"AreaRouters$Base", "end", "(II)V"⟩ "AreaRouters" ∈ lw_tbl := lt_3 (i := 79) (by set_option maxRecDepth 100000 in exact rfl)
theorem lk_AR_241 : Cond.methodLinkNest R_AR 241 ⟨"AreaRouters$Base", "orderAgainst", "(LAreaRouters$Base;I)I"⟩ "AreaRouters" ∈ lw_tbl := lt_3 (i := 7) (by set_option maxRecDepth 100000 in exact rfl)
theorem lk_AR_245 : Cond.methodLinkNest R_AR 245 ⟨"AreaRouters$Base", "copyFrom", "(LAreaRouters$Base;I)V"⟩ "AreaRouters" ∈ lw_tbl := lt_3 (i := 19) (by set_option maxRecDepth 100000 in exact rfl)
theorem lk_AR_248 : Cond.methodLink R_AR 248 ⟨"AreaRouters", "routerOf", "(I)I"⟩ ∈ lw_tbl := lt_3 (i := 30) (by set_option maxRecDepth 100000 in exact rfl)
theorem lk_AR_251 : Cond.methodLink R_AR 251 ⟨"AreaRouters", "answerForOwn", "(III)V"⟩ ∈ lw_tbl := lt_3 (i := 32) (by set_option maxRecDepth 100000 in exact rfl)
theorem lk_AR_254 : Cond.methodLinkNest R_AR 254 ⟨"AreaRouters$Base", "setDueOn", "(II)V"⟩ "AreaRouters" ∈ lw_tbl := lt_3 (i := 84) (by set_option maxRecDepth 100000 in exact rfl)
theorem lk_AR_257 : Cond.methodLink R_AR 257 ⟨"AreaRouters", "partOf", "(I)I"⟩ ∈ lw_tbl := lt_3 (i := 36) (by set_option maxRecDepth 100000 in exact rfl)
theorem lk_AR_260 : Cond.methodLinkNest R_AR 260 ⟨"AreaRouters$Base", "askNowhere", "(I)V"⟩ "AreaRouters" ∈ lw_tbl := lt_3 (i := 80) (by set_option maxRecDepth 100000 in exact rfl)
theorem lk_AR_263 : Cond.methodLinkNest R_AR 263 ⟨"AreaRouters$Ways", "find", "(LAreaRouters$Base;I)V"⟩ "AreaRouters" ∈ lw_tbl := lt_2 (i := 43) (by set_option maxRecDepth 100000 in exact rfl)
theorem lk_AR_266 : Cond.methodLinkNest R_AR 266 ⟨"AreaRouters$Ways", "wayTo", "(I)I"⟩ "AreaRouters" ∈ lw_tbl := lt_2 (i := 73) (by set_option maxRecDepth 100000 in exact rfl)
theorem lk_AR_269 : Cond.methodLink R_AR 269 ⟨"AreaRouters", "wayToArea", "(II)I"⟩ ∈ lw_tbl := lt_2 (i := 79) (by set_option maxRecDepth 100000 in exact rfl)
theorem lk_AR_272 : Cond.methodLink R_AR 272 ⟨"AreaRouters", "wayToExit", "(I)I"⟩ ∈ lw_tbl := lt_2 (i := 87) (by set_option maxRecDepth 100000 in exact rfl)
theorem lk_AR_276 : Cond.methodLinkNest R_AR 276 ⟨"AreaRouters$Ways", "nearer", "(II)I"⟩ "AreaRouters" ∈ lw_tbl := lt_2 (i := 83) (by set_option maxRecDepth 100000 in exact rfl)
theorem lk_AR_51 : Cond.methodLink R_AR 51 ⟨"AreaRouters", "isRouter", "(I)Z"⟩ ∈ lw_tbl := lt_1 (i := 159) (by set_option maxRecDepth 100000 in exact rfl)
theorem lk_AR_55 : Cond.methodLinkNest R_AR 55 ⟨"AreaRouters$Wiring", "circuitsOf", "(I)I"⟩ "AreaRouters" ∈ lw_tbl := lt_1 (i := 162) (by set_option maxRecDepth 100000 in exact rfl)
theorem lk_AR_59 : Cond.methodLink R_AR 59 ⟨"AreaRouters", "isCircuit", "(I)Z"⟩ ∈ lw_tbl := lt_1 (i := 174) (by set_option maxRecDepth 100000 in exact rfl)
theorem lk_AR_62 : Cond.methodLinkNest R_AR 62 ⟨"AreaRouters$Wiring", "isAttached", "(II)Z"⟩ "AreaRouters" ∈ lw_tbl := lt_1 (i := 177) (by set_option maxRecDepth 100000 in exact rfl)
theorem lk_AR_66 : Cond.methodLinkNest R_AR 66 ⟨"AreaRouters$Wiring", "countOn", "(I)I"⟩ "AreaRouters" ∈ lw_tbl := lt_1 (i := 178) (by set_option maxRecDepth 100000 in exact rfl)
theorem lk_AR_69 : Cond.methodLinkNest R_AR 69 ⟨"AreaRouters$Wiring", "join", "(IIII)V"⟩ "AreaRouters" ∈ lw_tbl := lt_1 (i := 182) (by set_option maxRecDepth 100000 in exact rfl)
theorem lk_AR_73 : Cond.methodLink R_AR 73 ⟨"AreaRouters", "checkSender", "(II)V"⟩ ∈ lw_tbl := lt_2 (i := 104) (by set_option maxRecDepth 100000 in exact rfl)
theorem lk_AR_77 : Cond.methodLink R_AR 77 ⟨"AreaRouters", "isMeant", "(II)Z"⟩ ∈ lw_tbl := lt_2 (i := 192) (by set_option maxRecDepth 100000 in exact rfl)
theorem lk_AR_80 : Cond.methodLink R_AR 80 ⟨"AreaRouters", "noteHello", "(III)V"⟩ ∈ lw_tbl := lt_2 (i := 195) (by set_option maxRecDepth 100000 in exact rfl)
theorem lk_AR_84 : Cond.methodLink R_AR 84 ⟨"AreaRouters", "checkLevel", "(II)V"⟩ ∈ lw_tbl := lt_2 (i := 215) (by set_option maxRecDepth 100000 in exact rfl)
theorem lk_AR_87 : Cond.methodLink R_AR 87 ⟨"AreaRouters", "baseOf", "(II)LAreaRouters$Base;"⟩ ∈ lw_tbl := lt_1 (i := 194) (by set_option maxRecDepth 100000 in exact rfl)
theorem lk_AR_91 : Cond.methodLinkNest R_AR 91 ⟨"AreaRouters$Base", "isDue", "(II)Z"⟩ "AreaRouters" ∈ lw_tbl := lt_2 (i := 235) (by set_option maxRecDepth 100000 in exact rfl)
theorem lk_AR_94 : Cond.methodLink R_AR 94 ⟨"AreaRouters", "isReached", "(IIIII)Z"⟩ ∈ lw_tbl := lt_2 (i := 239) (by set_option maxRecDepth 100000 in exact rfl)
theorem lk_AR_98 : Cond.methodLink R_AR 98 ⟨"AreaRouters", "receive", "(IIILAreaRouters$Base;I)V"⟩ ∈ lw_tbl := lt_3 (i := 3) (by set_option maxRecDepth 100000 in exact rfl)
theorem lk_Wa_22 : Cond.constant R_Wa 22 (1000000) ∈ lw_tbl := lt_2 (i := 47) (by set_option maxRecDepth 100000 in exact rfl)
