/-! the first call alone -/
theorem ok1_place : sp_place J1_ := by
  intro c mc mm hc h a1 a2 a3
  obtain ⟨r, q, h1, h2, h3, h4⟩ := ok_place c mc mm hc h.1 a1 a2 a3
  exact ⟨r, q, h1, h2, h3, up1 h4⟩
theorem ok1_attach : sp_attach J1_ := by
  intro c mc mm hc h a1 a2 a3 a4
  obtain ⟨r, q, h1, h2, h3, h4⟩ := ok_attach c mc mm hc h.1 a1 a2 a3 a4
  exact ⟨r, q, h1, h2, h3, up1 h4⟩
theorem ok1_neighbour : sp_neighbour J1_ := by
  intro c mc mm hc h a1 a2 a3 a4
  obtain ⟨r, q, h1, h2, h3, h4⟩ := ok_neighbour c mc mm hc h.1 a1 a2 a3 a4
  exact ⟨r, q, h1, h2, h3, up1 h4⟩
theorem ok1_speaker : sp_speaker J1_ := by
  intro c mc mm hc h a1 a2 a3
  obtain ⟨r, q, h1, h2, h3, h4⟩ := ok_speaker c mc mm hc h.1 a1 a2 a3
  exact ⟨r, q, h1, h2, h3, up1 h4⟩
theorem ok1_marks : sp_marks J1_ := by
  intro c mc mm hc h a1 a2 a3
  obtain ⟨r, q, h1, h2, h3, h4⟩ := ok_marks c mc mm hc h.1 a1 a2 a3
  exact ⟨r, q, h1, h2, h3, up1 h4⟩
theorem ok1_route : sp_route J1_ := by
  intro c mc mm hc h a1 a2
  obtain ⟨r, q, h1, h2, h3, h4⟩ := ok_route c mc mm hc h.1 a1 a2
  exact ⟨r, q, h1, h2, h3, up1 h4⟩
theorem ok1_trace : sp_trace J1_ := by
  intro c mc mm hc h a1 a2
  obtain ⟨r, q, h1, h2, h3, h4⟩ := ok_trace c mc mm hc h.1 a1 a2
  exact ⟨r, q, h1, h2, h3, up1 h4⟩
theorem ok1_tick : sp_tick J1_ := by
  intro c mc mm hc h
  obtain ⟨r, q, h1, h2, h4⟩ := ok_tick c mc mm hc h.1
  exact ⟨r, q, h1, h2, up1 h4⟩
theorem ok1_hello : sp_hello J1_ := by
  intro c mc mm hc h a1 a2 a3
  obtain ⟨q, e, hq⟩ := ok_hello c mc mm hc h.1 a1 a2 a3
  rcases hq with ⟨r, h1, h2, h3, h4⟩ | ⟨h1, h2, h4⟩ | ⟨h1, h2, h4⟩
  · exact ⟨q, e, Or.inl ⟨r, h1, h2, h3, up1 h4⟩⟩
  · exact ⟨q, e, Or.inr (Or.inl ⟨h1, h2, up1 h4⟩)⟩
  · exact ⟨q, e, Or.inr (Or.inr (⟨h1, h2, up1 h4⟩))⟩
theorem ok1_spread : sp_spread J1_ := by
  intro c mc mm hc h a1 a2 a3 a4
  obtain ⟨q, e, hq⟩ := ok_spread c mc mm hc h.1 a1 a2 a3 a4
  rcases hq with ⟨r, h1, h2, h3, h4⟩ | ⟨h1, h2, h4⟩ | ⟨h1, h2, h4⟩ | ⟨h0, h1, h2, h4⟩
  · exact ⟨q, e, Or.inl ⟨r, h1, h2, h3, up1 h4⟩⟩
  · exact ⟨q, e, Or.inr (Or.inl ⟨h1, h2, up1 h4⟩)⟩
  · exact ⟨q, e, Or.inr (Or.inr (Or.inl ⟨h1, h2, up1 h4⟩))⟩
  · exact ⟨q, e, Or.inr (Or.inr (Or.inr (⟨h0, h1, h2, up1 h4⟩)))⟩
theorem ok1_summary : sp_summary J1_ := by
  intro c mc mm hc h a1 a2 a3 a4
  obtain ⟨q, e, hq⟩ := ok_summary c mc mm hc h.1 a1 a2 a3 a4
  rcases hq with ⟨r, h1, h2, h3, h4⟩ | ⟨h1, h2, h4⟩ | ⟨h1, h2, h4⟩ | ⟨h0, h1, h2, h4⟩
  · exact ⟨q, e, Or.inl ⟨r, h1, h2, h3, up1 h4⟩⟩
  · exact ⟨q, e, Or.inr (Or.inl ⟨h1, h2, up1 h4⟩)⟩
  · exact ⟨q, e, Or.inr (Or.inr (Or.inl ⟨h1, h2, up1 h4⟩))⟩
  · exact ⟨q, e, Or.inr (Or.inr (Or.inr (⟨h0, h1, h2, up1 h4⟩)))⟩
theorem ok1_request : sp_request J1_ := by
  intro c mc mm hc h a1 a2 a3 a4
  obtain ⟨q, e, hq⟩ := ok_request c mc mm hc h.1 a1 a2 a3 a4
  rcases hq with ⟨r, h1, h2, h3, h4⟩ | ⟨h1, h2, h4⟩ | ⟨h1, h2, h4⟩ | ⟨h0, h1, h2, h4⟩
  · exact ⟨q, e, Or.inl ⟨r, h1, h2, h3, up1 h4⟩⟩
  · exact ⟨q, e, Or.inr (Or.inl ⟨h1, h2, up1 h4⟩)⟩
  · exact ⟨q, e, Or.inr (Or.inr (Or.inl ⟨h1, h2, up1 h4⟩))⟩
  · exact ⟨q, e, Or.inr (Or.inr (Or.inr (⟨h0, h1, h2, up1 h4⟩)))⟩
theorem ok1_describe : sp_describe J1_ := by
  intro c mc mm hc h a1
  obtain ⟨q, e, hq⟩ := ok_describe c mc mm hc h.1 a1
  rcases hq with ⟨r, h1, h2, h3, h4⟩ | ⟨h1, h2, h4⟩
  · exact ⟨q, e, Or.inl ⟨r, h1, h2, h3, up1 h4⟩⟩
  · exact ⟨q, e, Or.inr ⟨h1, h2, up1 h4⟩⟩
theorem i_vc : Claimed_1_1 ∧ Claimed_1_2 := i_of ⟨fun c mc mm _ h => up1 (I_up h.1), ok1_place, ok1_attach, ok1_hello, ok1_spread, ok1_summary, ok1_request, ok1_describe, ok1_tick, ok1_neighbour, ok1_speaker, ok_description1, ok1_marks, ok1_route, ok1_trace⟩ ⟨I_start, fun _ l r n _ _ _ => mM_z (by decide)⟩
