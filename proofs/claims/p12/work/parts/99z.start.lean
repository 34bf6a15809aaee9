/-! REPORT, S1: a start with that script (the witness's own start, its script changed): the Statement is refuted. This part compiles in a whole round alone, where the witness's rows stand -/
def s1_cells : Array Value := #[.int 6, .int 0, .int 0, .int 0, .int 0, .int 0, .int 0, .int 0, .int 2, .int 0, .int 10, .int 0, .int 1, .int 0, .int 0]
def s1_about : State := start1.aboutOf s1_cells
set_option maxRecDepth 16384 in
theorem s1_oth1 : tables_1_1.all (fun c => c.onTables || c.before start1.args0 s1_about) = true := by decide +kernel
set_option maxRecDepth 16384 in
theorem s1_oth2 : tables_1_2.all (fun c => c.onTables || c.before start1.args0 s1_about) = true := by decide +kernel
set_option maxRecDepth 16384 in
theorem s1_oth3 : tables_1_3.all (fun c => c.onTables || c.before start1.args0 s1_about) = true := by decide +kernel
set_option maxRecDepth 16384 in
theorem s1_oth4 : tables_1_4.all (fun c => c.onTables || c.before start1.args0 s1_about) = true := by decide +kernel
theorem s1_words : ∀ c ∈ (Cond.code x code maxLocals ret :: tables_1), c.before start1.args0 s1_about = true := by
  intro c hc
  have h0 := start1.words c hc
  by_cases hb : c.onTables = true
  · exact va_tabs hb (show start1.about.vm = s1_about.vm from rfl) h0
  · have key : ∀ l : List Cond, l.all (fun c => c.onTables || c.before start1.args0 s1_about) = true → c ∈ l → c.before start1.args0 s1_about = true := fun l hl hm => by
      have h := List.all_eq_true.mp hl c hm
      rw [Bool.or_eq_true] at h
      exact h.resolve_left hb
    rcases List.mem_cons.mp hc with h | h
    · exact absurd (by rw [h]; rfl) hb
    · have h1 : c ∈ tables_1_1 ++ (tables_1_2 ++ (tables_1_3 ++ tables_1_4)) := h
      rcases List.mem_append.mp h1 with h2 | h1
      · exact key _ s1_oth1 h2
      rcases List.mem_append.mp h1 with h2 | h1
      · exact key _ s1_oth2 h2
      rcases List.mem_append.mp h1 with h2 | h1
      · exact key _ s1_oth3 h2
      · exact key _ s1_oth4 h1
set_option maxRecDepth 16384 in
theorem s1_start : AtStart classFile x code maxLocals ret World_1 tables_1 room_1 Calls_1 rest_1 Pre_1 launch0 start1.p0 start1.e0 s1_about ⟨0, 0⟩ start1.args0 Lib.HandBits.below0 := by
  obtain ⟨h1, h2, h3, h4, h5, h6, -, h8, -, -, -, -, -⟩ := start1.atStart
  exact ⟨h1, h2, h3, h4, h5, h6, rfl, h8, by decide +kernel, (Spec.applies_iff rfl).mpr ⟨rfl, rfl, rfl, by decide +kernel, by decide +kernel, by decide +kernel, launch0.hasRoom_least _ room_1 (by decide +kernel) (by decide +kernel) (by decide +kernel) (by decide +kernel) (by decide +kernel) (by decide +kernel), atoms_intro s1_words⟩, trivial, (show rest_1_c.before start1.args0 s1_about = true by decide +kernel), (show (Cond.and given_1 narrow_1).before start1.args0 s1_about = true by decide +kernel)⟩
theorem s1_ints : s1_about.IntsAt 0 s1_xs := ⟨{ cls := 18, slots := s1_cells, vm := .none }, rfl, rfl, ⟨(fun k h => by cases h), _, rfl, 17, rfl⟩, by decide⟩
/-- WHOLE IS REFUTED, in the Statement's own word, and its second claim is false -/
theorem whole_refuted : RefutedClaimed_1_2 := s1_refuted (l := launch0) rfl s1_start s1_ints
theorem whole_false : ¬ Claimed_1_2 := s1_not (l := launch0) rfl s1_start s1_ints
