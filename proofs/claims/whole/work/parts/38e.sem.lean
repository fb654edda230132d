theorem j241_2 {N : Nat} (s s' : RS) (u39 : rs_mShelf_chosenGlyph) (b sk : Int32) (h : (mGo1 N s b u39.2 sk).bind (fun p => (if p.2 = true then mWork2 N p.1 else some p.1)) = some s') :
    ∃ r, jn_Ref_comes_c2_241e4 N s.g_xWhat s.g_xId s.g_desk_state s.o_shelf s.g_shelf_ids s.g_shelf_attributes s.g_shelf_permanent s.g_shelf_glyph 14 s.g_shelf_wishes 2 s.g_shelf_pins s.g_desk_steps s.g_desk_glyph s.g_desk_page s.g_desk_other s.g_desk_store s.o_sheet s.g_seed s.g_fresh s.g_shelf_store 7 s.g_shelf_draft s.g_shelf_coming s.g_shelf_bytes s.n_sheet_dots s.g_sheet_dots s.o_lines s.o_job s.g_pages s.g_lines_whiteRests s.g_lines_blackRests s.g_lines_whiteBlocks s.g_lines_blackBlocks s.g_lines_blocks s.g_lines_modes s.g_lines_line s.g_lines_above s.n_lines_out s.g_lines_out s.g_job_file s.g_job_places s.g_job_lengths b (s.o_this, s.o_desk, s.o_macros, s.g_toDo, s.g_toDoId, s.g_macros_ids, s.g_macros_permanent, s.g_macros_lengths, s.g_macros_store) s.g_shelf_left u39 sk = some r ∧ s' = (((r.1, r.2.2.2.2.2.2.2.2.2.2.2.2.2.2.2.2.2.2.2.2.2.2.2.2.2.2.2.2.2.2.2.2.2.2.2.1, r.2.2.2.2.2.2.2.2.2.2.2.2.2.2.2.2.2.2.2.2.2.2.2.2.2.2.2.1, s.g_shownPages, s.g_tape, r.2.2.2.2.2.2.2.2.2.2.2.2.2.2.2.2.2.2.2.2.2.2.2.2.2.2.1, r.2.2.2.1, r.2.2.2.2.1, r.2.2.2.2.2.1, r.2.2.2.2.2.2.1, s.g_bytes2, s.g_bytes1), (r.2.2.2.2.2.2.2.2.2.2.2.2.2.2.2.2.2.2.2.2.2.2.2.2.2.2.2.2.2.2.2.2.2.2.1, r.2.2.2.2.2.2.2.2.2.2.2.2.2.2.2.2.2.2.2.2.2.2.2.2.2.2.2.2.2.2.2.2.2.2.2.2.2.2.2.1, r.2.2.2.2.2.2.2.2.2.2.2.2.2.2.2.2.2.2.2.2.2.2.2.2.2.2.2.2.2.2.2.2.2.2.2.2.2.2.2.2.1, r.2.2.2.2.2.2.2.2.2.2.2.2.2.2.2.2.2.2.2.2.2.2.2.2.2.2.2.2.2.2.2.2.2.2.2.2.2.2.2.2.2), (r.2.2.2.2.2.2.2.2.2.2.2.2.2.2.2.2.2.2.2.2.2.2.2.2.2.2.2.2.2.2.2.2.2.1, s.n_lines_out, r.2.2.2.2.2.2.2.2.2.2.2.2.2.2.2.2.2.2.2.2.2.2.2.2.2.2.2.2.2.2.2.2.2.2.2.2.2.2.1, r.2.2.2.2.2.2.2.2.2.2.2.2.2.2.2.2.2.2.2.2.2.2.2.2.2.2.2.2.2.2.2.2.2.2.2.2.1, r.2.2.2.2.2.2.2.2.2.2.2.2.2.2.2.2.2.2.2.2.2.2.2.2.2.2.2.2.2.2.2.2.2.2.2.2.2.1, s.g_lines_whiteRests, s.g_lines_blackRests, s.g_lines_whiteBlocks, s.g_lines_blackBlocks, s.g_lines_blocks, s.g_lines_modes, s.g_lines_readAbove, s.g_lines_readLine), (r.2.2.2.2.2.2.2.2.2.2.2.2.2.2.2.2.2.2.2.2.2.2.2.2.2.1, s.n_sheet_dots, r.2.2.2.2.2.2.2.2.2.2.2.2.2.2.2.2.2.2.2.2.2.2.2.2.2.2.2.2.2.2.2.2.1), (r.2.1, r.2.2.2.2.2.2.2.2.2.2.2.1, s.g_desk_isKept, r.2.2.2.2.2.2.2.2.2.2.2.2.2.2.2.2.2.2.2.2.1, r.2.2.2.2.2.2.2.2.2.2.2.2.2.2.2.2.2.2.2.2.2.2.2.2.1, r.2.2.2.2.2.2.2.2.2.2.2.2.2.2.2.2.2.2.2.2.2.2.1, r.2.2.2.2.2.2.2.2.2.2.2.2.2.2.2.2.2.2.2.2.2.2.2.1, r.2.2.2.2.2.2.2.2.2.2.2.2.2.2.2.2.2.2.2.2.2.1, s.g_desk_kept), (r.2.2.2.2.2.2.2.2.2.2.2.2.1, r.2.2.2.2.2.2.2.2.2.2.2.2.2.1, r.2.2.2.2.2.2.2.2.2.2.2.2.2.2.1, r.2.2.2.2.2.2.2.2.2.2.2.2.2.2.2.1, r.2.2.2.2.2.2.2.2.2.2.2.2.2.2.2.2.1, r.2.2.2.2.2.2.2.2.2.2.2.2.2.2.2.2.2.2.2.2.2.2.2.2.2.2.2.2.1, r.2.2.2.2.2.2.2.2.2.2.2.2.2.2.2.2.2.2.2.2.2.2.2.2.2.2.2.2.2.1, r.2.2.2.2.2.2.2.2.2.2.2.2.2.2.2.2.2.1, r.2.2.2.2.2.2.2.2.2.2.2.2.2.2.2.2.2.2.1, r.2.2.2.2.2.2.2.2.2.2.2.2.2.2.2.2.2.2.2.2.2.2.2.2.2.2.2.2.2.2.1, r.2.2.2.2.2.2.2.2.2.2.2.2.2.2.2.2.2.2.2.2.2.2.2.2.2.2.2.2.2.2.2.1, r.2.2.2.2.2.2.2.2.2.2.2.2.2.2.2.2.2.2.2.1), (r.2.2.1, r.2.2.2.2.2.2.2.1, r.2.2.2.2.2.2.2.2.1, r.2.2.2.2.2.2.2.2.2.1, r.2.2.2.2.2.2.2.2.2.2.1, s.g_macros_buffer), s.2.2.2.2.2.2.2.1, s.2.2.2.2.2.2.2.2.1, s.2.2.2.2.2.2.2.2.2) : RS) := by
  obtain ⟨p, h, hw⟩ := Option.bind_eq_some_iff.mp h
  unfold mGo1 at h
  obtain ⟨a1, e1, h⟩ := Option.bind_eq_some_iff.mp h
  unfold mAdv at e1
  obtain ⟨r1, f1, e1⟩ := Option.map_eq_some_iff.mp e1
  subst e1
  obtain ⟨was, e2, h⟩ := Option.bind_eq_some_iff.mp h
  unfold mIsSeq at e2
  rw [Option.map_id'] at e2
  obtain ⟨s2, e3, h⟩ := Option.bind_eq_some_iff.mp h
  unfold mDesk at e3
  obtain ⟨r2, f3, e3⟩ := Option.map_eq_some_iff.mp e3
  subst e3
  unfold jn_Ref_comes_c2_241e4
  by_cases q1 : fd_mDesk_pages r2.1 ≤ fd_mDesk_pages r1.1
  · rw [if_pos q1] at h
    obtain ⟨r, g1, g2⟩ := j296_2 (N := N) s s' r2 was r1 u39 s.o_this s.o_sheet s.g_sheet_dots s.o_lines s.o_job s.g_pages s.g_lines_line s.g_lines_above s.g_lines_out s.g_job_file s.g_job_places s.g_job_lengths (Option.bind_eq_some_iff.mpr ⟨p, h, hw⟩)
    exact ⟨r, (bind_eq f1).trans ((bind_eq e2).trans ((bind_eq f3).trans ((if_pos q1).trans g1))), g2⟩
  · rw [if_neg q1] at h
    obtain ⟨s3, e4, h⟩ := Option.bind_eq_some_iff.mp h
    unfold mPrint at e4
    obtain ⟨r4, f4, e4⟩ := Option.map_eq_some_iff.mp e4
    subst e4
    by_cases q2 : fd_Ref_fault r4.1 ≤ 0
    · rw [if_pos q2] at h
      obtain ⟨r, g1, g2⟩ := j296_2 (N := N) s s' r2 was r1 u39 r4.1 r4.2.2.1 r4.2.2.2.2.2.1 r4.2.1 r4.2.2.2.2.2.2.2.1 r4.2.2.2.2.2.2.2.2.1 r4.2.2.2.1 r4.2.2.2.2.1 r4.2.2.2.2.2.2.1 r4.2.2.2.2.2.2.2.2.2.1 r4.2.2.2.2.2.2.2.2.2.2.1 r4.2.2.2.2.2.2.2.2.2.2.2 (Option.bind_eq_some_iff.mpr ⟨p, h, hw⟩)
      exact ⟨r, (bind_eq f1).trans ((bind_eq e2).trans ((bind_eq f3).trans ((if_neg q1).trans ((bind_eq f4).trans ((if_pos q2).trans g1))))), g2⟩
    · rw [if_neg q2] at h
      have hp := Option.some.inj h
      subst hp
      have h9 := Option.some.inj hw
      subst h9
      exact ⟨_, (bind_eq f1).trans ((bind_eq e2).trans ((bind_eq f3).trans ((if_neg q1).trans ((bind_eq f4).trans (if_neg q2))))), rfl⟩
theorem j217_2 {N : Nat} (s s' : RS) (u39 : rs_mShelf_chosenGlyph) (b sk : Int32) (h : (mGo N s b u39.2 sk).bind (fun p => (if p.2 = true then mWork2 N p.1 else some p.1)) = some s') :
    ∃ r, jn_Ref_comes_c2_217d3 N s.g_xWhat s.g_xId s.g_desk_state s.o_shelf s.g_shelf_ids s.g_shelf_attributes s.g_shelf_permanent s.g_shelf_glyph 14 s.g_shelf_wishes 2 s.g_shelf_pins s.g_desk_steps s.g_desk_glyph s.g_desk_page s.g_desk_other s.g_desk_store s.o_sheet s.g_seed s.g_fresh s.g_shelf_store 7 s.g_shelf_draft s.g_shelf_coming s.g_shelf_bytes s.n_sheet_dots s.g_sheet_dots s.o_lines s.o_job s.g_pages s.g_lines_whiteRests s.g_lines_blackRests s.g_lines_whiteBlocks s.g_lines_blackBlocks s.g_lines_blocks s.g_lines_modes s.g_lines_line s.g_lines_above s.n_lines_out s.g_lines_out s.g_job_file s.g_job_places s.g_job_lengths b (s.o_this, s.o_desk, s.o_macros, s.g_toDo, s.g_toDoId, s.g_macros_ids, s.g_macros_permanent, s.g_macros_lengths, s.g_macros_store) s.g_shelf_left u39 sk = some r ∧ s' = (((r.1, r.2.2.2.2.2.2.2.2.2.2.2.2.2.2.2.2.2.2.2.2.2.2.2.2.2.2.2.2.2.2.2.2.2.2.2.1, r.2.2.2.2.2.2.2.2.2.2.2.2.2.2.2.2.2.2.2.2.2.2.2.2.2.2.2.1, s.g_shownPages, s.g_tape, r.2.2.2.2.2.2.2.2.2.2.2.2.2.2.2.2.2.2.2.2.2.2.2.2.2.2.1, r.2.2.2.1, r.2.2.2.2.1, r.2.2.2.2.2.1, r.2.2.2.2.2.2.1, s.g_bytes2, s.g_bytes1), (r.2.2.2.2.2.2.2.2.2.2.2.2.2.2.2.2.2.2.2.2.2.2.2.2.2.2.2.2.2.2.2.2.2.2.1, r.2.2.2.2.2.2.2.2.2.2.2.2.2.2.2.2.2.2.2.2.2.2.2.2.2.2.2.2.2.2.2.2.2.2.2.2.2.2.2.1, r.2.2.2.2.2.2.2.2.2.2.2.2.2.2.2.2.2.2.2.2.2.2.2.2.2.2.2.2.2.2.2.2.2.2.2.2.2.2.2.2.1, r.2.2.2.2.2.2.2.2.2.2.2.2.2.2.2.2.2.2.2.2.2.2.2.2.2.2.2.2.2.2.2.2.2.2.2.2.2.2.2.2.2), (r.2.2.2.2.2.2.2.2.2.2.2.2.2.2.2.2.2.2.2.2.2.2.2.2.2.2.2.2.2.2.2.2.2.1, s.n_lines_out, r.2.2.2.2.2.2.2.2.2.2.2.2.2.2.2.2.2.2.2.2.2.2.2.2.2.2.2.2.2.2.2.2.2.2.2.2.2.2.1, r.2.2.2.2.2.2.2.2.2.2.2.2.2.2.2.2.2.2.2.2.2.2.2.2.2.2.2.2.2.2.2.2.2.2.2.2.1, r.2.2.2.2.2.2.2.2.2.2.2.2.2.2.2.2.2.2.2.2.2.2.2.2.2.2.2.2.2.2.2.2.2.2.2.2.2.1, s.g_lines_whiteRests, s.g_lines_blackRests, s.g_lines_whiteBlocks, s.g_lines_blackBlocks, s.g_lines_blocks, s.g_lines_modes, s.g_lines_readAbove, s.g_lines_readLine), (r.2.2.2.2.2.2.2.2.2.2.2.2.2.2.2.2.2.2.2.2.2.2.2.2.2.1, s.n_sheet_dots, r.2.2.2.2.2.2.2.2.2.2.2.2.2.2.2.2.2.2.2.2.2.2.2.2.2.2.2.2.2.2.2.2.1), (r.2.1, r.2.2.2.2.2.2.2.2.2.2.2.1, s.g_desk_isKept, r.2.2.2.2.2.2.2.2.2.2.2.2.2.2.2.2.2.2.2.2.1, r.2.2.2.2.2.2.2.2.2.2.2.2.2.2.2.2.2.2.2.2.2.2.2.2.1, r.2.2.2.2.2.2.2.2.2.2.2.2.2.2.2.2.2.2.2.2.2.2.1, r.2.2.2.2.2.2.2.2.2.2.2.2.2.2.2.2.2.2.2.2.2.2.2.1, r.2.2.2.2.2.2.2.2.2.2.2.2.2.2.2.2.2.2.2.2.2.1, s.g_desk_kept), (r.2.2.2.2.2.2.2.2.2.2.2.2.1, r.2.2.2.2.2.2.2.2.2.2.2.2.2.1, r.2.2.2.2.2.2.2.2.2.2.2.2.2.2.1, r.2.2.2.2.2.2.2.2.2.2.2.2.2.2.2.1, r.2.2.2.2.2.2.2.2.2.2.2.2.2.2.2.2.1, r.2.2.2.2.2.2.2.2.2.2.2.2.2.2.2.2.2.2.2.2.2.2.2.2.2.2.2.2.1, r.2.2.2.2.2.2.2.2.2.2.2.2.2.2.2.2.2.2.2.2.2.2.2.2.2.2.2.2.2.1, r.2.2.2.2.2.2.2.2.2.2.2.2.2.2.2.2.2.1, r.2.2.2.2.2.2.2.2.2.2.2.2.2.2.2.2.2.2.1, r.2.2.2.2.2.2.2.2.2.2.2.2.2.2.2.2.2.2.2.2.2.2.2.2.2.2.2.2.2.2.1, r.2.2.2.2.2.2.2.2.2.2.2.2.2.2.2.2.2.2.2.2.2.2.2.2.2.2.2.2.2.2.2.1, r.2.2.2.2.2.2.2.2.2.2.2.2.2.2.2.2.2.2.2.1), (r.2.2.1, r.2.2.2.2.2.2.2.1, r.2.2.2.2.2.2.2.2.1, r.2.2.2.2.2.2.2.2.2.1, r.2.2.2.2.2.2.2.2.2.2.1, s.g_macros_buffer), s.2.2.2.2.2.2.2.1, s.2.2.2.2.2.2.2.2.1, s.2.2.2.2.2.2.2.2.2) : RS) := by
  unfold mGo at h
  unfold jn_Ref_comes_c2_217d3
  by_cases q : sk ≤ 20000
  · rw [if_pos q] at h
    obtain ⟨r, g1, g2⟩ := j241_2 s s' u39 b sk h
    exact ⟨r, (if_pos q).trans g1, g2⟩
  · rw [if_neg q] at h
    obtain ⟨r, g1, g2⟩ := j241_2 s s' u39 b 20000 h
    exact ⟨r, (if_neg q).trans g1, g2⟩
theorem j189_2 {N : Nat} (s s' : RS) (u39 : rs_mShelf_chosenGlyph) (b : Int32) (h : (mGo N s b u39.2 (-1)).bind (fun p => (if p.2 = true then mWork2 N p.1 else some p.1)) = some s') :
    ∃ r, jn_Ref_comes_c2_189k10 N s.g_xWhat s.g_xId s.g_desk_state s.o_shelf s.g_shelf_ids s.g_shelf_attributes s.g_shelf_permanent s.g_shelf_glyph 14 s.g_shelf_wishes 2 s.g_shelf_pins s.g_desk_steps s.g_desk_glyph s.g_desk_page s.g_desk_other s.g_desk_store s.o_sheet s.g_seed s.g_fresh s.g_shelf_store 7 s.g_shelf_draft s.g_shelf_coming s.g_shelf_bytes s.n_sheet_dots s.g_sheet_dots s.o_lines s.o_job s.g_pages s.g_lines_whiteRests s.g_lines_blackRests s.g_lines_whiteBlocks s.g_lines_blackBlocks s.g_lines_blocks s.g_lines_modes s.g_lines_line s.g_lines_above s.n_lines_out s.g_lines_out s.g_job_file s.g_job_places s.g_job_lengths b (s.o_this, s.o_desk, s.o_macros, s.g_toDo, s.g_toDoId, s.g_macros_ids, s.g_macros_permanent, s.g_macros_lengths, s.g_macros_store) u39 s.g_shelf_left = some r ∧ s' = (((r.1, r.2.2.2.2.2.2.2.2.2.2.2.2.2.2.2.2.2.2.2.2.2.2.2.2.2.2.2.2.2.2.2.2.2.2.2.1, r.2.2.2.2.2.2.2.2.2.2.2.2.2.2.2.2.2.2.2.2.2.2.2.2.2.2.2.1, s.g_shownPages, s.g_tape, r.2.2.2.2.2.2.2.2.2.2.2.2.2.2.2.2.2.2.2.2.2.2.2.2.2.2.1, r.2.2.2.1, r.2.2.2.2.1, r.2.2.2.2.2.1, r.2.2.2.2.2.2.1, s.g_bytes2, s.g_bytes1), (r.2.2.2.2.2.2.2.2.2.2.2.2.2.2.2.2.2.2.2.2.2.2.2.2.2.2.2.2.2.2.2.2.2.2.1, r.2.2.2.2.2.2.2.2.2.2.2.2.2.2.2.2.2.2.2.2.2.2.2.2.2.2.2.2.2.2.2.2.2.2.2.2.2.2.2.1, r.2.2.2.2.2.2.2.2.2.2.2.2.2.2.2.2.2.2.2.2.2.2.2.2.2.2.2.2.2.2.2.2.2.2.2.2.2.2.2.2.1, r.2.2.2.2.2.2.2.2.2.2.2.2.2.2.2.2.2.2.2.2.2.2.2.2.2.2.2.2.2.2.2.2.2.2.2.2.2.2.2.2.2), (r.2.2.2.2.2.2.2.2.2.2.2.2.2.2.2.2.2.2.2.2.2.2.2.2.2.2.2.2.2.2.2.2.2.1, s.n_lines_out, r.2.2.2.2.2.2.2.2.2.2.2.2.2.2.2.2.2.2.2.2.2.2.2.2.2.2.2.2.2.2.2.2.2.2.2.2.2.2.1, r.2.2.2.2.2.2.2.2.2.2.2.2.2.2.2.2.2.2.2.2.2.2.2.2.2.2.2.2.2.2.2.2.2.2.2.2.1, r.2.2.2.2.2.2.2.2.2.2.2.2.2.2.2.2.2.2.2.2.2.2.2.2.2.2.2.2.2.2.2.2.2.2.2.2.2.1, s.g_lines_whiteRests, s.g_lines_blackRests, s.g_lines_whiteBlocks, s.g_lines_blackBlocks, s.g_lines_blocks, s.g_lines_modes, s.g_lines_readAbove, s.g_lines_readLine), (r.2.2.2.2.2.2.2.2.2.2.2.2.2.2.2.2.2.2.2.2.2.2.2.2.2.1, s.n_sheet_dots, r.2.2.2.2.2.2.2.2.2.2.2.2.2.2.2.2.2.2.2.2.2.2.2.2.2.2.2.2.2.2.2.2.1), (r.2.1, r.2.2.2.2.2.2.2.2.2.2.2.1, s.g_desk_isKept, r.2.2.2.2.2.2.2.2.2.2.2.2.2.2.2.2.2.2.2.2.1, r.2.2.2.2.2.2.2.2.2.2.2.2.2.2.2.2.2.2.2.2.2.2.2.2.1, r.2.2.2.2.2.2.2.2.2.2.2.2.2.2.2.2.2.2.2.2.2.2.1, r.2.2.2.2.2.2.2.2.2.2.2.2.2.2.2.2.2.2.2.2.2.2.2.1, r.2.2.2.2.2.2.2.2.2.2.2.2.2.2.2.2.2.2.2.2.2.1, s.g_desk_kept), (r.2.2.2.2.2.2.2.2.2.2.2.2.1, r.2.2.2.2.2.2.2.2.2.2.2.2.2.1, r.2.2.2.2.2.2.2.2.2.2.2.2.2.2.1, r.2.2.2.2.2.2.2.2.2.2.2.2.2.2.2.1, r.2.2.2.2.2.2.2.2.2.2.2.2.2.2.2.2.1, r.2.2.2.2.2.2.2.2.2.2.2.2.2.2.2.2.2.2.2.2.2.2.2.2.2.2.2.2.1, r.2.2.2.2.2.2.2.2.2.2.2.2.2.2.2.2.2.2.2.2.2.2.2.2.2.2.2.2.2.1, r.2.2.2.2.2.2.2.2.2.2.2.2.2.2.2.2.2.1, r.2.2.2.2.2.2.2.2.2.2.2.2.2.2.2.2.2.2.1, r.2.2.2.2.2.2.2.2.2.2.2.2.2.2.2.2.2.2.2.2.2.2.2.2.2.2.2.2.2.2.1, r.2.2.2.2.2.2.2.2.2.2.2.2.2.2.2.2.2.2.2.2.2.2.2.2.2.2.2.2.2.2.2.1, r.2.2.2.2.2.2.2.2.2.2.2.2.2.2.2.2.2.2.2.1), (r.2.2.1, r.2.2.2.2.2.2.2.1, r.2.2.2.2.2.2.2.2.1, r.2.2.2.2.2.2.2.2.2.1, r.2.2.2.2.2.2.2.2.2.2.1, s.g_macros_buffer), s.2.2.2.2.2.2.2.1, s.2.2.2.2.2.2.2.2.1, s.2.2.2.2.2.2.2.2.2) : RS) := by
  obtain ⟨r, g1, g2⟩ := j217_2 s s' u39 b (-1) h
  unfold jn_Ref_comes_c2_189k10 jn_Ref_comes_c2_190c2
  exact ⟨r, (if_pos (show (0 : Int32) = 0 from rfl)).trans g1, g2⟩
theorem j190_2 {N : Nat} (s s' : RS) (u39 : rs_mShelf_chosenGlyph) (b : Int32) (hi : dk_in ((7 * u39.2) + 6) 1799) (h : (mGo N s b u39.2 (s.g_shelf_glyph ((7 * u39.2) + 6).toNatClampNeg)).bind (fun p => (if p.2 = true then mWork2 N p.1 else some p.1)) = some s') :
    ∃ r, jn_Ref_comes_c2_190c2 N s.g_xWhat s.g_xId s.g_desk_state s.o_shelf s.g_shelf_ids s.g_shelf_attributes s.g_shelf_permanent s.g_shelf_glyph 14 s.g_shelf_wishes 2 s.g_shelf_pins s.g_desk_steps s.g_desk_glyph s.g_desk_page s.g_desk_other s.g_desk_store s.o_sheet s.g_seed s.g_fresh s.g_shelf_store 7 s.g_shelf_draft s.g_shelf_coming s.g_shelf_bytes s.n_sheet_dots s.g_sheet_dots s.o_lines s.o_job s.g_pages s.g_lines_whiteRests s.g_lines_blackRests s.g_lines_whiteBlocks s.g_lines_blackBlocks s.g_lines_blocks s.g_lines_modes s.g_lines_line s.g_lines_above s.n_lines_out s.g_lines_out s.g_job_file s.g_job_places s.g_job_lengths b (s.o_this, s.o_desk, s.o_macros, s.g_toDo, s.g_toDoId, s.g_macros_ids, s.g_macros_permanent, s.g_macros_lengths, s.g_macros_store) u39 1 s.g_shelf_left = some r ∧ s' = (((r.1, r.2.2.2.2.2.2.2.2.2.2.2.2.2.2.2.2.2.2.2.2.2.2.2.2.2.2.2.2.2.2.2.2.2.2.2.1, r.2.2.2.2.2.2.2.2.2.2.2.2.2.2.2.2.2.2.2.2.2.2.2.2.2.2.2.1, s.g_shownPages, s.g_tape, r.2.2.2.2.2.2.2.2.2.2.2.2.2.2.2.2.2.2.2.2.2.2.2.2.2.2.1, r.2.2.2.1, r.2.2.2.2.1, r.2.2.2.2.2.1, r.2.2.2.2.2.2.1, s.g_bytes2, s.g_bytes1), (r.2.2.2.2.2.2.2.2.2.2.2.2.2.2.2.2.2.2.2.2.2.2.2.2.2.2.2.2.2.2.2.2.2.2.1, r.2.2.2.2.2.2.2.2.2.2.2.2.2.2.2.2.2.2.2.2.2.2.2.2.2.2.2.2.2.2.2.2.2.2.2.2.2.2.2.1, r.2.2.2.2.2.2.2.2.2.2.2.2.2.2.2.2.2.2.2.2.2.2.2.2.2.2.2.2.2.2.2.2.2.2.2.2.2.2.2.2.1, r.2.2.2.2.2.2.2.2.2.2.2.2.2.2.2.2.2.2.2.2.2.2.2.2.2.2.2.2.2.2.2.2.2.2.2.2.2.2.2.2.2), (r.2.2.2.2.2.2.2.2.2.2.2.2.2.2.2.2.2.2.2.2.2.2.2.2.2.2.2.2.2.2.2.2.2.1, s.n_lines_out, r.2.2.2.2.2.2.2.2.2.2.2.2.2.2.2.2.2.2.2.2.2.2.2.2.2.2.2.2.2.2.2.2.2.2.2.2.2.2.1, r.2.2.2.2.2.2.2.2.2.2.2.2.2.2.2.2.2.2.2.2.2.2.2.2.2.2.2.2.2.2.2.2.2.2.2.2.1, r.2.2.2.2.2.2.2.2.2.2.2.2.2.2.2.2.2.2.2.2.2.2.2.2.2.2.2.2.2.2.2.2.2.2.2.2.2.1, s.g_lines_whiteRests, s.g_lines_blackRests, s.g_lines_whiteBlocks, s.g_lines_blackBlocks, s.g_lines_blocks, s.g_lines_modes, s.g_lines_readAbove, s.g_lines_readLine), (r.2.2.2.2.2.2.2.2.2.2.2.2.2.2.2.2.2.2.2.2.2.2.2.2.2.1, s.n_sheet_dots, r.2.2.2.2.2.2.2.2.2.2.2.2.2.2.2.2.2.2.2.2.2.2.2.2.2.2.2.2.2.2.2.2.1), (r.2.1, r.2.2.2.2.2.2.2.2.2.2.2.1, s.g_desk_isKept, r.2.2.2.2.2.2.2.2.2.2.2.2.2.2.2.2.2.2.2.2.1, r.2.2.2.2.2.2.2.2.2.2.2.2.2.2.2.2.2.2.2.2.2.2.2.2.1, r.2.2.2.2.2.2.2.2.2.2.2.2.2.2.2.2.2.2.2.2.2.2.1, r.2.2.2.2.2.2.2.2.2.2.2.2.2.2.2.2.2.2.2.2.2.2.2.1, r.2.2.2.2.2.2.2.2.2.2.2.2.2.2.2.2.2.2.2.2.2.1, s.g_desk_kept), (r.2.2.2.2.2.2.2.2.2.2.2.2.1, r.2.2.2.2.2.2.2.2.2.2.2.2.2.1, r.2.2.2.2.2.2.2.2.2.2.2.2.2.2.1, r.2.2.2.2.2.2.2.2.2.2.2.2.2.2.2.1, r.2.2.2.2.2.2.2.2.2.2.2.2.2.2.2.2.1, r.2.2.2.2.2.2.2.2.2.2.2.2.2.2.2.2.2.2.2.2.2.2.2.2.2.2.2.2.1, r.2.2.2.2.2.2.2.2.2.2.2.2.2.2.2.2.2.2.2.2.2.2.2.2.2.2.2.2.2.1, r.2.2.2.2.2.2.2.2.2.2.2.2.2.2.2.2.2.1, r.2.2.2.2.2.2.2.2.2.2.2.2.2.2.2.2.2.2.1, r.2.2.2.2.2.2.2.2.2.2.2.2.2.2.2.2.2.2.2.2.2.2.2.2.2.2.2.2.2.2.1, r.2.2.2.2.2.2.2.2.2.2.2.2.2.2.2.2.2.2.2.2.2.2.2.2.2.2.2.2.2.2.2.1, r.2.2.2.2.2.2.2.2.2.2.2.2.2.2.2.2.2.2.2.1), (r.2.2.1, r.2.2.2.2.2.2.2.1, r.2.2.2.2.2.2.2.2.1, r.2.2.2.2.2.2.2.2.2.1, r.2.2.2.2.2.2.2.2.2.2.1, s.g_macros_buffer), s.2.2.2.2.2.2.2.1, s.2.2.2.2.2.2.2.2.1, s.2.2.2.2.2.2.2.2.2) : RS) := by
  obtain ⟨r, g1, g2⟩ := j217_2 s s' u39 b _ h
  exact ⟨r, (if_neg (show ¬ (1 : Int32) = 0 by decide)).trans ((if_pos hi).trans g1), g2⟩

theorem com_2 {N : Nat} {b : Int32} {s s1 s2 s' : RS} {e : Bool} (h0 : fd_Ref_fault s.o_this = 0) (hs : mStop2 N N s b = some s1) (h1 : fd_Ref_fault s1.o_this = 0) (hb : mByte N s1 b = some (s2, e)) (hw : (if e = true then mWork2 N s2 else some s2) = some s') : mComes2 N s b = some s' := by
  have q0 : fd_Ref_fault s.o_this ≤ 0 := by rw [h0]; decide
  have q1 : fd_Ref_fault s1.o_this ≤ 0 := by rw [h1]; decide
  obtain ⟨r0, t1, t2⟩ := stop_2 _ _ _ hs
  subst t2
  unfold mByte at hb
  obtain ⟨g, e1, hb⟩ := Option.bind_eq_some_iff.mp hb
  unfold mGlyph at e1
  obtain ⟨r1, f1, e1⟩ := Option.map_eq_some_iff.mp e1
  subst e1
  obtain ⟨c, e2, hb⟩ := Option.bind_eq_some_iff.mp hb
  unfold mComes2
  refine Option.map_eq_some_iff.mpr ?_
  unfold ex_Ref_comes_c2
  unfold mWide at e2
  by_cases q2 : r1.2 < 0
  · rw [if_pos q2] at e2
    have hc := Option.some.inj e2
    subst hc
    obtain ⟨r, g1, g2⟩ := j189_2 _ s' r1 b (Option.bind_eq_some_iff.mpr ⟨_, hb, hw⟩)
    exact ⟨r, (if_pos q0).trans ((bind_eq t1).trans ((if_pos q1).trans ((bind_eq f1).trans ((if_pos q2).trans g1)))), g2.symm⟩
  · rw [if_neg q2] at e2
    obtain ⟨c2, e3, e2⟩ := Option.bind_eq_some_iff.mp e2
    unfold mChoose at e3
    obtain ⟨r3, f3, e3⟩ := Option.map_eq_some_iff.mp e3
    subst e3
    by_cases q3 : dk_in ((7 * r3.2) + 1) 231
    · rw [if_pos q3] at e2
      by_cases q4 : s.g_shelf_attributes ((7 * r3.2) + 1).toNatClampNeg = 1
      · rw [if_pos q4] at e2
        by_cases q5 : dk_in ((7 * r1.2) + 6) 1799
        · rw [if_pos q5] at e2
          have hc := Option.some.inj e2
          subst hc
          obtain ⟨r, g1, g2⟩ := j190_2 _ s' r1 b q5 (Option.bind_eq_some_iff.mpr ⟨_, hb, hw⟩)
          exact ⟨r, (if_pos q0).trans ((bind_eq t1).trans ((if_pos q1).trans ((bind_eq f1).trans ((if_neg q2).trans ((bind_eq f3).trans ((if_pos q3).trans ((if_pos q4).trans g1))))))), g2.symm⟩
        · rw [if_neg q5] at e2; exact absurd e2 (by intro q; cases q)
      · rw [if_neg q4] at e2
        have hc := Option.some.inj e2
        subst hc
        obtain ⟨r, g1, g2⟩ := j189_2 _ s' r1 b (Option.bind_eq_some_iff.mpr ⟨_, hb, hw⟩)
        exact ⟨r, (if_pos q0).trans ((bind_eq t1).trans ((if_pos q1).trans ((bind_eq f1).trans ((if_neg q2).trans ((bind_eq f3).trans ((if_pos q3).trans ((if_neg q4).trans g1))))))), g2.symm⟩
    · rw [if_neg q3] at e2; exact absurd e2 (by intro q; cases q)
theorem com_2_f {N : Nat} {b : Int32} {s s1 : RS} (h0 : fd_Ref_fault s.o_this = 0) (hs : mStop2 N N s b = some s1) (h1 : 0 < fd_Ref_fault s1.o_this) : mComes2 N s b = some s1 := by
  have q0 : fd_Ref_fault s.o_this ≤ 0 := by rw [h0]; decide
  have q1 : ¬ fd_Ref_fault s1.o_this ≤ 0 := Int32.not_le.mpr h1
  obtain ⟨r0, t1, t2⟩ := stop_2 _ _ _ hs
  subst t2
  unfold mComes2
  refine Option.map_eq_some_iff.mpr ⟨_, (if_pos q0).trans ((bind_eq t1).trans (if_neg q1)), rfl⟩

theorem j241_1 {N : Nat} (s s' : RS) (u39 : rs_mShelf_chosenGlyph) (b sk : Int32) (h : (mGo1 N s b u39.2 sk).bind (fun p => (if p.2 = true then mWork1 N p.1 else some p.1)) = some s') :
    ∃ r, jn_Ref_comes_c1_241e4 N 7 14 2 s.n_sheet_dots s.g_lines_whiteRests s.g_lines_blackRests s.g_lines_whiteBlocks s.g_lines_blackBlocks s.g_lines_blocks s.g_lines_modes s.n_lines_out b (s.o_this, s.o_desk, s.o_shelf, s.o_macros, s.o_sheet, s.o_lines, s.o_job, s.g_pages, s.g_seed, s.g_fresh, s.g_xWhat, s.g_xId, s.g_toDo, s.g_toDoId, s.g_bytes2, s.g_desk_state, s.g_desk_kept, s.g_desk_isKept, s.g_desk_steps, s.g_desk_glyph, s.g_desk_page, s.g_desk_other, s.g_desk_store, s.g_shelf_ids, s.g_shelf_attributes, s.g_shelf_permanent, s.g_shelf_glyph, s.g_shelf_store, s.g_shelf_draft, s.g_shelf_wishes, s.g_shelf_pins, s.g_shelf_coming, s.g_shelf_bytes, s.g_shelf_left, s.g_macros_ids, s.g_macros_permanent, s.g_macros_lengths, s.g_macros_store, s.g_sheet_dots, s.g_lines_line, s.g_lines_above, s.g_lines_out, s.g_job_file, s.g_job_places, s.g_job_lengths) s.g_shelf_left u39 sk = some r ∧ s' = (((r.1, r.2.2.2.2.2.2.2.1, r.2.2.2.2.2.2.2.2.2.1, s.g_shownPages, s.g_tape, r.2.2.2.2.2.2.2.2.1, r.2.2.2.2.2.2.2.2.2.2.1, r.2.2.2.2.2.2.2.2.2.2.2.1, r.2.2.2.2.2.2.2.2.2.2.2.2.1, r.2.2.2.2.2.2.2.2.2.2.2.2.2.1, r.2.2.2.2.2.2.2.2.2.2.2.2.2.2.1, s.g_bytes1), (r.2.2.2.2.2.2.1, r.2.2.2.2.2.2.2.2.2.2.2.2.2.2.2.2.2.2.2.2.2.2.2.2.2.2.2.2.2.2.2.2.2.2.2.2.2.2.2.2.2.2.1, r.2.2.2.2.2.2.2.2.2.2.2.2.2.2.2.2.2.2.2.2.2.2.2.2.2.2.2.2.2.2.2.2.2.2.2.2.2.2.2.2.2.2.2.1, r.2.2.2.2.2.2.2.2.2.2.2.2.2.2.2.2.2.2.2.2.2.2.2.2.2.2.2.2.2.2.2.2.2.2.2.2.2.2.2.2.2.2.2.2), (r.2.2.2.2.2.1, s.n_lines_out, r.2.2.2.2.2.2.2.2.2.2.2.2.2.2.2.2.2.2.2.2.2.2.2.2.2.2.2.2.2.2.2.2.2.2.2.2.2.2.2.2.2.1, r.2.2.2.2.2.2.2.2.2.2.2.2.2.2.2.2.2.2.2.2.2.2.2.2.2.2.2.2.2.2.2.2.2.2.2.2.2.2.2.1, r.2.2.2.2.2.2.2.2.2.2.2.2.2.2.2.2.2.2.2.2.2.2.2.2.2.2.2.2.2.2.2.2.2.2.2.2.2.2.2.2.1, s.g_lines_whiteRests, s.g_lines_blackRests, s.g_lines_whiteBlocks, s.g_lines_blackBlocks, s.g_lines_blocks, s.g_lines_modes, s.g_lines_readAbove, s.g_lines_readLine), (r.2.2.2.2.1, s.n_sheet_dots, r.2.2.2.2.2.2.2.2.2.2.2.2.2.2.2.2.2.2.2.2.2.2.2.2.2.2.2.2.2.2.2.2.2.2.2.2.2.2.1), (r.2.1, r.2.2.2.2.2.2.2.2.2.2.2.2.2.2.2.1, r.2.2.2.2.2.2.2.2.2.2.2.2.2.2.2.2.2.1, r.2.2.2.2.2.2.2.2.2.2.2.2.2.2.2.2.2.2.1, r.2.2.2.2.2.2.2.2.2.2.2.2.2.2.2.2.2.2.2.2.2.2.1, r.2.2.2.2.2.2.2.2.2.2.2.2.2.2.2.2.2.2.2.2.1, r.2.2.2.2.2.2.2.2.2.2.2.2.2.2.2.2.2.2.2.2.2.1, r.2.2.2.2.2.2.2.2.2.2.2.2.2.2.2.2.2.2.2.1, r.2.2.2.2.2.2.2.2.2.2.2.2.2.2.2.2.1), (r.2.2.1, r.2.2.2.2.2.2.2.2.2.2.2.2.2.2.2.2.2.2.2.2.2.2.2.1, r.2.2.2.2.2.2.2.2.2.2.2.2.2.2.2.2.2.2.2.2.2.2.2.2.1, r.2.2.2.2.2.2.2.2.2.2.2.2.2.2.2.2.2.2.2.2.2.2.2.2.2.1, r.2.2.2.2.2.2.2.2.2.2.2.2.2.2.2.2.2.2.2.2.2.2.2.2.2.2.1, r.2.2.2.2.2.2.2.2.2.2.2.2.2.2.2.2.2.2.2.2.2.2.2.2.2.2.2.1, r.2.2.2.2.2.2.2.2.2.2.2.2.2.2.2.2.2.2.2.2.2.2.2.2.2.2.2.2.1, r.2.2.2.2.2.2.2.2.2.2.2.2.2.2.2.2.2.2.2.2.2.2.2.2.2.2.2.2.2.1, r.2.2.2.2.2.2.2.2.2.2.2.2.2.2.2.2.2.2.2.2.2.2.2.2.2.2.2.2.2.2.1, r.2.2.2.2.2.2.2.2.2.2.2.2.2.2.2.2.2.2.2.2.2.2.2.2.2.2.2.2.2.2.2.1, r.2.2.2.2.2.2.2.2.2.2.2.2.2.2.2.2.2.2.2.2.2.2.2.2.2.2.2.2.2.2.2.2.1, r.2.2.2.2.2.2.2.2.2.2.2.2.2.2.2.2.2.2.2.2.2.2.2.2.2.2.2.2.2.2.2.2.2.1), (r.2.2.2.1, r.2.2.2.2.2.2.2.2.2.2.2.2.2.2.2.2.2.2.2.2.2.2.2.2.2.2.2.2.2.2.2.2.2.2.1, r.2.2.2.2.2.2.2.2.2.2.2.2.2.2.2.2.2.2.2.2.2.2.2.2.2.2.2.2.2.2.2.2.2.2.2.1, r.2.2.2.2.2.2.2.2.2.2.2.2.2.2.2.2.2.2.2.2.2.2.2.2.2.2.2.2.2.2.2.2.2.2.2.2.1, r.2.2.2.2.2.2.2.2.2.2.2.2.2.2.2.2.2.2.2.2.2.2.2.2.2.2.2.2.2.2.2.2.2.2.2.2.2.1, s.g_macros_buffer), s.2.2.2.2.2.2.2.1, s.2.2.2.2.2.2.2.2.1, s.2.2.2.2.2.2.2.2.2) : RS) := by
  obtain ⟨p, h, hw⟩ := Option.bind_eq_some_iff.mp h
  unfold mGo1 at h
  obtain ⟨a1, e1, h⟩ := Option.bind_eq_some_iff.mp h
  unfold mAdv at e1
  obtain ⟨r1, f1, e1⟩ := Option.map_eq_some_iff.mp e1
  subst e1
  obtain ⟨was, e2, h⟩ := Option.bind_eq_some_iff.mp h
  unfold mIsSeq at e2
  rw [Option.map_id'] at e2
  obtain ⟨s2, e3, h⟩ := Option.bind_eq_some_iff.mp h
  unfold mDesk at e3
  obtain ⟨r2, f3, e3⟩ := Option.map_eq_some_iff.mp e3
  subst e3
  unfold jn_Ref_comes_c1_241e4
  by_cases q1 : fd_mDesk_pages r2.1 ≤ fd_mDesk_pages r1.1
  · rw [if_pos q1] at h
    obtain ⟨r, g1, g2⟩ := j296_1 (N := N) s s' r2 was r1 u39 s.o_this s.o_sheet s.o_lines s.o_job s.g_pages s.g_sheet_dots s.g_lines_line s.g_lines_above s.g_lines_out s.g_job_file s.g_job_places s.g_job_lengths (Option.bind_eq_some_iff.mpr ⟨p, h, hw⟩)
    exact ⟨r, (bind_eq f1).trans ((bind_eq e2).trans ((bind_eq f3).trans ((if_pos q1).trans g1))), g2⟩
  · rw [if_neg q1] at h
    obtain ⟨s3, e4, h⟩ := Option.bind_eq_some_iff.mp h
    unfold mPrint at e4
    obtain ⟨r4, f4, e4⟩ := Option.map_eq_some_iff.mp e4
    subst e4
    by_cases q2 : fd_Ref_fault r4.1 ≤ 0
    · rw [if_pos q2] at h
      obtain ⟨r, g1, g2⟩ := j296_1 (N := N) s s' r2 was r1 u39 r4.1 r4.2.2.1 r4.2.1 r4.2.2.2.2.2.2.2.1 r4.2.2.2.2.2.2.2.2.1 r4.2.2.2.2.2.1 r4.2.2.2.1 r4.2.2.2.2.1 r4.2.2.2.2.2.2.1 r4.2.2.2.2.2.2.2.2.2.1 r4.2.2.2.2.2.2.2.2.2.2.1 r4.2.2.2.2.2.2.2.2.2.2.2 (Option.bind_eq_some_iff.mpr ⟨p, h, hw⟩)
      exact ⟨r, (bind_eq f1).trans ((bind_eq e2).trans ((bind_eq f3).trans ((if_neg q1).trans ((bind_eq f4).trans ((if_pos q2).trans g1))))), g2⟩
    · rw [if_neg q2] at h
      have hp := Option.some.inj h
      subst hp
      have h9 := Option.some.inj hw
      subst h9
      exact ⟨_, (bind_eq f1).trans ((bind_eq e2).trans ((bind_eq f3).trans ((if_neg q1).trans ((bind_eq f4).trans (if_neg q2))))), rfl⟩
theorem j217_1 {N : Nat} (s s' : RS) (u39 : rs_mShelf_chosenGlyph) (b sk : Int32) (h : (mGo N s b u39.2 sk).bind (fun p => (if p.2 = true then mWork1 N p.1 else some p.1)) = some s') :
    ∃ r, jn_Ref_comes_c1_217d3 N 7 14 2 s.n_sheet_dots s.g_lines_whiteRests s.g_lines_blackRests s.g_lines_whiteBlocks s.g_lines_blackBlocks s.g_lines_blocks s.g_lines_modes s.n_lines_out b (s.o_this, s.o_desk, s.o_shelf, s.o_macros, s.o_sheet, s.o_lines, s.o_job, s.g_pages, s.g_seed, s.g_fresh, s.g_xWhat, s.g_xId, s.g_toDo, s.g_toDoId, s.g_bytes2, s.g_desk_state, s.g_desk_kept, s.g_desk_isKept, s.g_desk_steps, s.g_desk_glyph, s.g_desk_page, s.g_desk_other, s.g_desk_store, s.g_shelf_ids, s.g_shelf_attributes, s.g_shelf_permanent, s.g_shelf_glyph, s.g_shelf_store, s.g_shelf_draft, s.g_shelf_wishes, s.g_shelf_pins, s.g_shelf_coming, s.g_shelf_bytes, s.g_shelf_left, s.g_macros_ids, s.g_macros_permanent, s.g_macros_lengths, s.g_macros_store, s.g_sheet_dots, s.g_lines_line, s.g_lines_above, s.g_lines_out, s.g_job_file, s.g_job_places, s.g_job_lengths) s.g_shelf_left u39 sk = some r ∧ s' = (((r.1, r.2.2.2.2.2.2.2.1, r.2.2.2.2.2.2.2.2.2.1, s.g_shownPages, s.g_tape, r.2.2.2.2.2.2.2.2.1, r.2.2.2.2.2.2.2.2.2.2.1, r.2.2.2.2.2.2.2.2.2.2.2.1, r.2.2.2.2.2.2.2.2.2.2.2.2.1, r.2.2.2.2.2.2.2.2.2.2.2.2.2.1, r.2.2.2.2.2.2.2.2.2.2.2.2.2.2.1, s.g_bytes1), (r.2.2.2.2.2.2.1, r.2.2.2.2.2.2.2.2.2.2.2.2.2.2.2.2.2.2.2.2.2.2.2.2.2.2.2.2.2.2.2.2.2.2.2.2.2.2.2.2.2.2.1, r.2.2.2.2.2.2.2.2.2.2.2.2.2.2.2.2.2.2.2.2.2.2.2.2.2.2.2.2.2.2.2.2.2.2.2.2.2.2.2.2.2.2.2.1, r.2.2.2.2.2.2.2.2.2.2.2.2.2.2.2.2.2.2.2.2.2.2.2.2.2.2.2.2.2.2.2.2.2.2.2.2.2.2.2.2.2.2.2.2), (r.2.2.2.2.2.1, s.n_lines_out, r.2.2.2.2.2.2.2.2.2.2.2.2.2.2.2.2.2.2.2.2.2.2.2.2.2.2.2.2.2.2.2.2.2.2.2.2.2.2.2.2.2.1, r.2.2.2.2.2.2.2.2.2.2.2.2.2.2.2.2.2.2.2.2.2.2.2.2.2.2.2.2.2.2.2.2.2.2.2.2.2.2.2.1, r.2.2.2.2.2.2.2.2.2.2.2.2.2.2.2.2.2.2.2.2.2.2.2.2.2.2.2.2.2.2.2.2.2.2.2.2.2.2.2.2.1, s.g_lines_whiteRests, s.g_lines_blackRests, s.g_lines_whiteBlocks, s.g_lines_blackBlocks, s.g_lines_blocks, s.g_lines_modes, s.g_lines_readAbove, s.g_lines_readLine), (r.2.2.2.2.1, s.n_sheet_dots, r.2.2.2.2.2.2.2.2.2.2.2.2.2.2.2.2.2.2.2.2.2.2.2.2.2.2.2.2.2.2.2.2.2.2.2.2.2.2.1), (r.2.1, r.2.2.2.2.2.2.2.2.2.2.2.2.2.2.2.1, r.2.2.2.2.2.2.2.2.2.2.2.2.2.2.2.2.2.1, r.2.2.2.2.2.2.2.2.2.2.2.2.2.2.2.2.2.2.1, r.2.2.2.2.2.2.2.2.2.2.2.2.2.2.2.2.2.2.2.2.2.2.1, r.2.2.2.2.2.2.2.2.2.2.2.2.2.2.2.2.2.2.2.2.1, r.2.2.2.2.2.2.2.2.2.2.2.2.2.2.2.2.2.2.2.2.2.1, r.2.2.2.2.2.2.2.2.2.2.2.2.2.2.2.2.2.2.2.1, r.2.2.2.2.2.2.2.2.2.2.2.2.2.2.2.2.1), (r.2.2.1, r.2.2.2.2.2.2.2.2.2.2.2.2.2.2.2.2.2.2.2.2.2.2.2.1, r.2.2.2.2.2.2.2.2.2.2.2.2.2.2.2.2.2.2.2.2.2.2.2.2.1, r.2.2.2.2.2.2.2.2.2.2.2.2.2.2.2.2.2.2.2.2.2.2.2.2.2.1, r.2.2.2.2.2.2.2.2.2.2.2.2.2.2.2.2.2.2.2.2.2.2.2.2.2.2.1, r.2.2.2.2.2.2.2.2.2.2.2.2.2.2.2.2.2.2.2.2.2.2.2.2.2.2.2.1, r.2.2.2.2.2.2.2.2.2.2.2.2.2.2.2.2.2.2.2.2.2.2.2.2.2.2.2.2.1, r.2.2.2.2.2.2.2.2.2.2.2.2.2.2.2.2.2.2.2.2.2.2.2.2.2.2.2.2.2.1, r.2.2.2.2.2.2.2.2.2.2.2.2.2.2.2.2.2.2.2.2.2.2.2.2.2.2.2.2.2.2.1, r.2.2.2.2.2.2.2.2.2.2.2.2.2.2.2.2.2.2.2.2.2.2.2.2.2.2.2.2.2.2.2.1, r.2.2.2.2.2.2.2.2.2.2.2.2.2.2.2.2.2.2.2.2.2.2.2.2.2.2.2.2.2.2.2.2.1, r.2.2.2.2.2.2.2.2.2.2.2.2.2.2.2.2.2.2.2.2.2.2.2.2.2.2.2.2.2.2.2.2.2.1), (r.2.2.2.1, r.2.2.2.2.2.2.2.2.2.2.2.2.2.2.2.2.2.2.2.2.2.2.2.2.2.2.2.2.2.2.2.2.2.2.1, r.2.2.2.2.2.2.2.2.2.2.2.2.2.2.2.2.2.2.2.2.2.2.2.2.2.2.2.2.2.2.2.2.2.2.2.1, r.2.2.2.2.2.2.2.2.2.2.2.2.2.2.2.2.2.2.2.2.2.2.2.2.2.2.2.2.2.2.2.2.2.2.2.2.1, r.2.2.2.2.2.2.2.2.2.2.2.2.2.2.2.2.2.2.2.2.2.2.2.2.2.2.2.2.2.2.2.2.2.2.2.2.2.1, s.g_macros_buffer), s.2.2.2.2.2.2.2.1, s.2.2.2.2.2.2.2.2.1, s.2.2.2.2.2.2.2.2.2) : RS) := by
  unfold mGo at h
  unfold jn_Ref_comes_c1_217d3
  by_cases q : sk ≤ 20000
  · rw [if_pos q] at h
    obtain ⟨r, g1, g2⟩ := j241_1 s s' u39 b sk h
    exact ⟨r, (if_pos q).trans g1, g2⟩
  · rw [if_neg q] at h
    obtain ⟨r, g1, g2⟩ := j241_1 s s' u39 b 20000 h
    exact ⟨r, (if_neg q).trans g1, g2⟩
theorem j189_1 {N : Nat} (s s' : RS) (u39 : rs_mShelf_chosenGlyph) (b : Int32) (h : (mGo N s b u39.2 (-1)).bind (fun p => (if p.2 = true then mWork1 N p.1 else some p.1)) = some s') :
    ∃ r, jn_Ref_comes_c1_189k10 N 7 14 2 s.n_sheet_dots s.g_lines_whiteRests s.g_lines_blackRests s.g_lines_whiteBlocks s.g_lines_blackBlocks s.g_lines_blocks s.g_lines_modes s.n_lines_out b (s.o_this, s.o_desk, s.o_shelf, s.o_macros, s.o_sheet, s.o_lines, s.o_job, s.g_pages, s.g_seed, s.g_fresh, s.g_xWhat, s.g_xId, s.g_toDo, s.g_toDoId, s.g_bytes2, s.g_desk_state, s.g_desk_kept, s.g_desk_isKept, s.g_desk_steps, s.g_desk_glyph, s.g_desk_page, s.g_desk_other, s.g_desk_store, s.g_shelf_ids, s.g_shelf_attributes, s.g_shelf_permanent, s.g_shelf_glyph, s.g_shelf_store, s.g_shelf_draft, s.g_shelf_wishes, s.g_shelf_pins, s.g_shelf_coming, s.g_shelf_bytes, s.g_shelf_left, s.g_macros_ids, s.g_macros_permanent, s.g_macros_lengths, s.g_macros_store, s.g_sheet_dots, s.g_lines_line, s.g_lines_above, s.g_lines_out, s.g_job_file, s.g_job_places, s.g_job_lengths) u39 s.g_shelf_left = some r ∧ s' = (((r.1, r.2.2.2.2.2.2.2.1, r.2.2.2.2.2.2.2.2.2.1, s.g_shownPages, s.g_tape, r.2.2.2.2.2.2.2.2.1, r.2.2.2.2.2.2.2.2.2.2.1, r.2.2.2.2.2.2.2.2.2.2.2.1, r.2.2.2.2.2.2.2.2.2.2.2.2.1, r.2.2.2.2.2.2.2.2.2.2.2.2.2.1, r.2.2.2.2.2.2.2.2.2.2.2.2.2.2.1, s.g_bytes1), (r.2.2.2.2.2.2.1, r.2.2.2.2.2.2.2.2.2.2.2.2.2.2.2.2.2.2.2.2.2.2.2.2.2.2.2.2.2.2.2.2.2.2.2.2.2.2.2.2.2.2.1, r.2.2.2.2.2.2.2.2.2.2.2.2.2.2.2.2.2.2.2.2.2.2.2.2.2.2.2.2.2.2.2.2.2.2.2.2.2.2.2.2.2.2.2.1, r.2.2.2.2.2.2.2.2.2.2.2.2.2.2.2.2.2.2.2.2.2.2.2.2.2.2.2.2.2.2.2.2.2.2.2.2.2.2.2.2.2.2.2.2), (r.2.2.2.2.2.1, s.n_lines_out, r.2.2.2.2.2.2.2.2.2.2.2.2.2.2.2.2.2.2.2.2.2.2.2.2.2.2.2.2.2.2.2.2.2.2.2.2.2.2.2.2.2.1, r.2.2.2.2.2.2.2.2.2.2.2.2.2.2.2.2.2.2.2.2.2.2.2.2.2.2.2.2.2.2.2.2.2.2.2.2.2.2.2.1, r.2.2.2.2.2.2.2.2.2.2.2.2.2.2.2.2.2.2.2.2.2.2.2.2.2.2.2.2.2.2.2.2.2.2.2.2.2.2.2.2.1, s.g_lines_whiteRests, s.g_lines_blackRests, s.g_lines_whiteBlocks, s.g_lines_blackBlocks, s.g_lines_blocks, s.g_lines_modes, s.g_lines_readAbove, s.g_lines_readLine), (r.2.2.2.2.1, s.n_sheet_dots, r.2.2.2.2.2.2.2.2.2.2.2.2.2.2.2.2.2.2.2.2.2.2.2.2.2.2.2.2.2.2.2.2.2.2.2.2.2.2.1), (r.2.1, r.2.2.2.2.2.2.2.2.2.2.2.2.2.2.2.1, r.2.2.2.2.2.2.2.2.2.2.2.2.2.2.2.2.2.1, r.2.2.2.2.2.2.2.2.2.2.2.2.2.2.2.2.2.2.1, r.2.2.2.2.2.2.2.2.2.2.2.2.2.2.2.2.2.2.2.2.2.2.1, r.2.2.2.2.2.2.2.2.2.2.2.2.2.2.2.2.2.2.2.2.1, r.2.2.2.2.2.2.2.2.2.2.2.2.2.2.2.2.2.2.2.2.2.1, r.2.2.2.2.2.2.2.2.2.2.2.2.2.2.2.2.2.2.2.1, r.2.2.2.2.2.2.2.2.2.2.2.2.2.2.2.2.1), (r.2.2.1, r.2.2.2.2.2.2.2.2.2.2.2.2.2.2.2.2.2.2.2.2.2.2.2.1, r.2.2.2.2.2.2.2.2.2.2.2.2.2.2.2.2.2.2.2.2.2.2.2.2.1, r.2.2.2.2.2.2.2.2.2.2.2.2.2.2.2.2.2.2.2.2.2.2.2.2.2.1, r.2.2.2.2.2.2.2.2.2.2.2.2.2.2.2.2.2.2.2.2.2.2.2.2.2.2.1, r.2.2.2.2.2.2.2.2.2.2.2.2.2.2.2.2.2.2.2.2.2.2.2.2.2.2.2.1, r.2.2.2.2.2.2.2.2.2.2.2.2.2.2.2.2.2.2.2.2.2.2.2.2.2.2.2.2.1, r.2.2.2.2.2.2.2.2.2.2.2.2.2.2.2.2.2.2.2.2.2.2.2.2.2.2.2.2.2.1, r.2.2.2.2.2.2.2.2.2.2.2.2.2.2.2.2.2.2.2.2.2.2.2.2.2.2.2.2.2.2.1, r.2.2.2.2.2.2.2.2.2.2.2.2.2.2.2.2.2.2.2.2.2.2.2.2.2.2.2.2.2.2.2.1, r.2.2.2.2.2.2.2.2.2.2.2.2.2.2.2.2.2.2.2.2.2.2.2.2.2.2.2.2.2.2.2.2.1, r.2.2.2.2.2.2.2.2.2.2.2.2.2.2.2.2.2.2.2.2.2.2.2.2.2.2.2.2.2.2.2.2.2.1), (r.2.2.2.1, r.2.2.2.2.2.2.2.2.2.2.2.2.2.2.2.2.2.2.2.2.2.2.2.2.2.2.2.2.2.2.2.2.2.2.1, r.2.2.2.2.2.2.2.2.2.2.2.2.2.2.2.2.2.2.2.2.2.2.2.2.2.2.2.2.2.2.2.2.2.2.2.1, r.2.2.2.2.2.2.2.2.2.2.2.2.2.2.2.2.2.2.2.2.2.2.2.2.2.2.2.2.2.2.2.2.2.2.2.2.1, r.2.2.2.2.2.2.2.2.2.2.2.2.2.2.2.2.2.2.2.2.2.2.2.2.2.2.2.2.2.2.2.2.2.2.2.2.2.1, s.g_macros_buffer), s.2.2.2.2.2.2.2.1, s.2.2.2.2.2.2.2.2.1, s.2.2.2.2.2.2.2.2.2) : RS) := by
  obtain ⟨r, g1, g2⟩ := j217_1 s s' u39 b (-1) h
  unfold jn_Ref_comes_c1_189k10 jn_Ref_comes_c1_190c2
  exact ⟨r, (if_pos (show (0 : Int32) = 0 from rfl)).trans g1, g2⟩
theorem j190_1 {N : Nat} (s s' : RS) (u39 : rs_mShelf_chosenGlyph) (b : Int32) (hi : dk_in ((7 * u39.2) + 6) 1799) (h : (mGo N s b u39.2 (s.g_shelf_glyph ((7 * u39.2) + 6).toNatClampNeg)).bind (fun p => (if p.2 = true then mWork1 N p.1 else some p.1)) = some s') :
    ∃ r, jn_Ref_comes_c1_190c2 N 7 14 2 s.n_sheet_dots s.g_lines_whiteRests s.g_lines_blackRests s.g_lines_whiteBlocks s.g_lines_blackBlocks s.g_lines_blocks s.g_lines_modes s.n_lines_out b (s.o_this, s.o_desk, s.o_shelf, s.o_macros, s.o_sheet, s.o_lines, s.o_job, s.g_pages, s.g_seed, s.g_fresh, s.g_xWhat, s.g_xId, s.g_toDo, s.g_toDoId, s.g_bytes2, s.g_desk_state, s.g_desk_kept, s.g_desk_isKept, s.g_desk_steps, s.g_desk_glyph, s.g_desk_page, s.g_desk_other, s.g_desk_store, s.g_shelf_ids, s.g_shelf_attributes, s.g_shelf_permanent, s.g_shelf_glyph, s.g_shelf_store, s.g_shelf_draft, s.g_shelf_wishes, s.g_shelf_pins, s.g_shelf_coming, s.g_shelf_bytes, s.g_shelf_left, s.g_macros_ids, s.g_macros_permanent, s.g_macros_lengths, s.g_macros_store, s.g_sheet_dots, s.g_lines_line, s.g_lines_above, s.g_lines_out, s.g_job_file, s.g_job_places, s.g_job_lengths) u39 1 s.g_shelf_left = some r ∧ s' = (((r.1, r.2.2.2.2.2.2.2.1, r.2.2.2.2.2.2.2.2.2.1, s.g_shownPages, s.g_tape, r.2.2.2.2.2.2.2.2.1, r.2.2.2.2.2.2.2.2.2.2.1, r.2.2.2.2.2.2.2.2.2.2.2.1, r.2.2.2.2.2.2.2.2.2.2.2.2.1, r.2.2.2.2.2.2.2.2.2.2.2.2.2.1, r.2.2.2.2.2.2.2.2.2.2.2.2.2.2.1, s.g_bytes1), (r.2.2.2.2.2.2.1, r.2.2.2.2.2.2.2.2.2.2.2.2.2.2.2.2.2.2.2.2.2.2.2.2.2.2.2.2.2.2.2.2.2.2.2.2.2.2.2.2.2.2.1, r.2.2.2.2.2.2.2.2.2.2.2.2.2.2.2.2.2.2.2.2.2.2.2.2.2.2.2.2.2.2.2.2.2.2.2.2.2.2.2.2.2.2.2.1, r.2.2.2.2.2.2.2.2.2.2.2.2.2.2.2.2.2.2.2.2.2.2.2.2.2.2.2.2.2.2.2.2.2.2.2.2.2.2.2.2.2.2.2.2), (r.2.2.2.2.2.1, s.n_lines_out, r.2.2.2.2.2.2.2.2.2.2.2.2.2.2.2.2.2.2.2.2.2.2.2.2.2.2.2.2.2.2.2.2.2.2.2.2.2.2.2.2.2.1, r.2.2.2.2.2.2.2.2.2.2.2.2.2.2.2.2.2.2.2.2.2.2.2.2.2.2.2.2.2.2.2.2.2.2.2.2.2.2.2.1, r.2.2.2.2.2.2.2.2.2.2.2.2.2.2.2.2.2.2.2.2.2.2.2.2.2.2.2.2.2.2.2.2.2.2.2.2.2.2.2.2.1, s.g_lines_whiteRests, s.g_lines_blackRests, s.g_lines_whiteBlocks, s.g_lines_blackBlocks, s.g_lines_blocks, s.g_lines_modes, s.g_lines_readAbove, s.g_lines_readLine), (r.2.2.2.2.1, s.n_sheet_dots, r.2.2.2.2.2.2.2.2.2.2.2.2.2.2.2.2.2.2.2.2.2.2.2.2.2.2.2.2.2.2.2.2.2.2.2.2.2.2.1), (r.2.1, r.2.2.2.2.2.2.2.2.2.2.2.2.2.2.2.1, r.2.2.2.2.2.2.2.2.2.2.2.2.2.2.2.2.2.1, r.2.2.2.2.2.2.2.2.2.2.2.2.2.2.2.2.2.2.1, r.2.2.2.2.2.2.2.2.2.2.2.2.2.2.2.2.2.2.2.2.2.2.1, r.2.2.2.2.2.2.2.2.2.2.2.2.2.2.2.2.2.2.2.2.1, r.2.2.2.2.2.2.2.2.2.2.2.2.2.2.2.2.2.2.2.2.2.1, r.2.2.2.2.2.2.2.2.2.2.2.2.2.2.2.2.2.2.2.1, r.2.2.2.2.2.2.2.2.2.2.2.2.2.2.2.2.1), (r.2.2.1, r.2.2.2.2.2.2.2.2.2.2.2.2.2.2.2.2.2.2.2.2.2.2.2.1, r.2.2.2.2.2.2.2.2.2.2.2.2.2.2.2.2.2.2.2.2.2.2.2.2.1, r.2.2.2.2.2.2.2.2.2.2.2.2.2.2.2.2.2.2.2.2.2.2.2.2.2.1, r.2.2.2.2.2.2.2.2.2.2.2.2.2.2.2.2.2.2.2.2.2.2.2.2.2.2.1, r.2.2.2.2.2.2.2.2.2.2.2.2.2.2.2.2.2.2.2.2.2.2.2.2.2.2.2.1, r.2.2.2.2.2.2.2.2.2.2.2.2.2.2.2.2.2.2.2.2.2.2.2.2.2.2.2.2.1, r.2.2.2.2.2.2.2.2.2.2.2.2.2.2.2.2.2.2.2.2.2.2.2.2.2.2.2.2.2.1, r.2.2.2.2.2.2.2.2.2.2.2.2.2.2.2.2.2.2.2.2.2.2.2.2.2.2.2.2.2.2.1, r.2.2.2.2.2.2.2.2.2.2.2.2.2.2.2.2.2.2.2.2.2.2.2.2.2.2.2.2.2.2.2.1, r.2.2.2.2.2.2.2.2.2.2.2.2.2.2.2.2.2.2.2.2.2.2.2.2.2.2.2.2.2.2.2.2.1, r.2.2.2.2.2.2.2.2.2.2.2.2.2.2.2.2.2.2.2.2.2.2.2.2.2.2.2.2.2.2.2.2.2.1), (r.2.2.2.1, r.2.2.2.2.2.2.2.2.2.2.2.2.2.2.2.2.2.2.2.2.2.2.2.2.2.2.2.2.2.2.2.2.2.2.1, r.2.2.2.2.2.2.2.2.2.2.2.2.2.2.2.2.2.2.2.2.2.2.2.2.2.2.2.2.2.2.2.2.2.2.2.1, r.2.2.2.2.2.2.2.2.2.2.2.2.2.2.2.2.2.2.2.2.2.2.2.2.2.2.2.2.2.2.2.2.2.2.2.2.1, r.2.2.2.2.2.2.2.2.2.2.2.2.2.2.2.2.2.2.2.2.2.2.2.2.2.2.2.2.2.2.2.2.2.2.2.2.2.1, s.g_macros_buffer), s.2.2.2.2.2.2.2.1, s.2.2.2.2.2.2.2.2.1, s.2.2.2.2.2.2.2.2.2) : RS) := by
  obtain ⟨r, g1, g2⟩ := j217_1 s s' u39 b _ h
  exact ⟨r, (if_neg (show ¬ (1 : Int32) = 0 by decide)).trans ((if_pos hi).trans g1), g2⟩

theorem com_1 {N : Nat} {b : Int32} {s s1 s2 s' : RS} {e : Bool} (h0 : fd_Ref_fault s.o_this = 0) (hs : mStop1 N N s b = some s1) (h1 : fd_Ref_fault s1.o_this = 0) (hb : mByte N s1 b = some (s2, e)) (hw : (if e = true then mWork1 N s2 else some s2) = some s') : mComes1 N s b = some s' := by
  have q0 : fd_Ref_fault s.o_this ≤ 0 := by rw [h0]; decide
  have q1 : fd_Ref_fault s1.o_this ≤ 0 := by rw [h1]; decide
  obtain ⟨r0, t1, t2⟩ := stop_1 _ _ _ hs
  subst t2
  unfold mByte at hb
  obtain ⟨g, e1, hb⟩ := Option.bind_eq_some_iff.mp hb
  unfold mGlyph at e1
  obtain ⟨r1, f1, e1⟩ := Option.map_eq_some_iff.mp e1
  subst e1
  obtain ⟨c, e2, hb⟩ := Option.bind_eq_some_iff.mp hb
  unfold mComes1
  refine Option.map_eq_some_iff.mpr ?_
  unfold ex_Ref_comes_c1
  unfold mWide at e2
  by_cases q2 : r1.2 < 0
  · rw [if_pos q2] at e2
    have hc := Option.some.inj e2
    subst hc
    obtain ⟨r, g1, g2⟩ := j189_1 _ s' r1 b (Option.bind_eq_some_iff.mpr ⟨_, hb, hw⟩)
    exact ⟨r, (if_pos q0).trans ((bind_eq t1).trans ((if_pos q1).trans ((bind_eq f1).trans ((if_pos q2).trans g1)))), g2.symm⟩
  · rw [if_neg q2] at e2
    obtain ⟨c2, e3, e2⟩ := Option.bind_eq_some_iff.mp e2
    unfold mChoose at e3
    obtain ⟨r3, f3, e3⟩ := Option.map_eq_some_iff.mp e3
    subst e3
    by_cases q3 : dk_in ((7 * r3.2) + 1) 231
    · rw [if_pos q3] at e2
      by_cases q4 : r0.2.2.2.2.2.2.2.2.2.2.2.2.2.2.2.2.2.2.2.2.2.2.2.2.1 ((7 * r3.2) + 1).toNatClampNeg = 1
      · rw [if_pos q4] at e2
        by_cases q5 : dk_in ((7 * r1.2) + 6) 1799
        · rw [if_pos q5] at e2
          have hc := Option.some.inj e2
          subst hc
          obtain ⟨r, g1, g2⟩ := j190_1 _ s' r1 b q5 (Option.bind_eq_some_iff.mpr ⟨_, hb, hw⟩)
          exact ⟨r, (if_pos q0).trans ((bind_eq t1).trans ((if_pos q1).trans ((bind_eq f1).trans ((if_neg q2).trans ((bind_eq f3).trans ((if_pos q3).trans ((if_pos q4).trans g1))))))), g2.symm⟩
        · rw [if_neg q5] at e2; exact absurd e2 (by intro q; cases q)
      · rw [if_neg q4] at e2
        have hc := Option.some.inj e2
        subst hc
        obtain ⟨r, g1, g2⟩ := j189_1 _ s' r1 b (Option.bind_eq_some_iff.mpr ⟨_, hb, hw⟩)
        exact ⟨r, (if_pos q0).trans ((bind_eq t1).trans ((if_pos q1).trans ((bind_eq f1).trans ((if_neg q2).trans ((bind_eq f3).trans ((if_pos q3).trans ((if_neg q4).trans g1))))))), g2.symm⟩
    · rw [if_neg q3] at e2; exact absurd e2 (by intro q; cases q)
theorem com_1_f {N : Nat} {b : Int32} {s s1 : RS} (h0 : fd_Ref_fault s.o_this = 0) (hs : mStop1 N N s b = some s1) (h1 : 0 < fd_Ref_fault s1.o_this) : mComes1 N s b = some s1 := by
  have q0 : fd_Ref_fault s.o_this ≤ 0 := by rw [h0]; decide
  have q1 : ¬ fd_Ref_fault s1.o_this ≤ 0 := Int32.not_le.mpr h1
  obtain ⟨r0, t1, t2⟩ := stop_1 _ _ _ hs
  subst t2
  unfold mComes1
  refine Option.map_eq_some_iff.mpr ⟨_, (if_pos q0).trans ((bind_eq t1).trans (if_neg q1)), rfl⟩

theorem j241_0 {N : Nat} (s s' : RS) (u39 : rs_mShelf_chosenGlyph) (b sk : Int32) (h : (mGo1 N s b u39.2 sk).bind (fun p => (if p.2 = true then mWork0 N p.1 else some p.1)) = some s') :
    ∃ r, jn_Ref_comes_c0_241e4 N 7 14 2 s.n_sheet_dots s.g_lines_whiteRests s.g_lines_blackRests s.g_lines_whiteBlocks s.g_lines_blackBlocks s.g_lines_blocks s.g_lines_modes s.n_lines_out s.g_macros_buffer b (s.o_this, s.o_macros, s.o_desk, s.o_shelf, s.o_sheet, s.o_lines, s.o_job, s.g_pages, s.g_seed, s.g_fresh, s.g_xWhat, s.g_xId, s.g_toDo, s.g_toDoId, s.g_bytes1, s.g_bytes2, s.g_desk_state, s.g_desk_kept, s.g_desk_isKept, s.g_desk_steps, s.g_desk_glyph, s.g_desk_page, s.g_desk_other, s.g_desk_store, s.g_shelf_ids, s.g_shelf_attributes, s.g_shelf_permanent, s.g_shelf_glyph, s.g_shelf_store, s.g_shelf_draft, s.g_shelf_wishes, s.g_shelf_pins, s.g_shelf_coming, s.g_shelf_bytes, s.g_shelf_left, s.g_macros_ids, s.g_macros_permanent, s.g_macros_lengths, s.g_macros_store, s.g_sheet_dots, s.g_lines_line, s.g_lines_above, s.g_lines_out, s.g_job_file, s.g_job_places, s.g_job_lengths) s.g_shelf_left u39 sk = some r ∧ s' = (((r.1, r.2.2.2.2.2.2.2.1, r.2.2.2.2.2.2.2.2.2.1, s.g_shownPages, s.g_tape, r.2.2.2.2.2.2.2.2.1, r.2.2.2.2.2.2.2.2.2.2.1, r.2.2.2.2.2.2.2.2.2.2.2.1, r.2.2.2.2.2.2.2.2.2.2.2.2.1, r.2.2.2.2.2.2.2.2.2.2.2.2.2.1, r.2.2.2.2.2.2.2.2.2.2.2.2.2.2.2.1, r.2.2.2.2.2.2.2.2.2.2.2.2.2.2.1), (r.2.2.2.2.2.2.1, r.2.2.2.2.2.2.2.2.2.2.2.2.2.2.2.2.2.2.2.2.2.2.2.2.2.2.2.2.2.2.2.2.2.2.2.2.2.2.2.2.2.2.2.1, r.2.2.2.2.2.2.2.2.2.2.2.2.2.2.2.2.2.2.2.2.2.2.2.2.2.2.2.2.2.2.2.2.2.2.2.2.2.2.2.2.2.2.2.2.1, r.2.2.2.2.2.2.2.2.2.2.2.2.2.2.2.2.2.2.2.2.2.2.2.2.2.2.2.2.2.2.2.2.2.2.2.2.2.2.2.2.2.2.2.2.2.1), (r.2.2.2.2.2.1, s.n_lines_out, r.2.2.2.2.2.2.2.2.2.2.2.2.2.2.2.2.2.2.2.2.2.2.2.2.2.2.2.2.2.2.2.2.2.2.2.2.2.2.2.2.2.2.1, r.2.2.2.2.2.2.2.2.2.2.2.2.2.2.2.2.2.2.2.2.2.2.2.2.2.2.2.2.2.2.2.2.2.2.2.2.2.2.2.2.1, r.2.2.2.2.2.2.2.2.2.2.2.2.2.2.2.2.2.2.2.2.2.2.2.2.2.2.2.2.2.2.2.2.2.2.2.2.2.2.2.2.2.1, s.g_lines_whiteRests, s.g_lines_blackRests, s.g_lines_whiteBlocks, s.g_lines_blackBlocks, s.g_lines_blocks, s.g_lines_modes, s.g_lines_readAbove, s.g_lines_readLine), (r.2.2.2.2.1, s.n_sheet_dots, r.2.2.2.2.2.2.2.2.2.2.2.2.2.2.2.2.2.2.2.2.2.2.2.2.2.2.2.2.2.2.2.2.2.2.2.2.2.2.2.1), (r.2.2.1, r.2.2.2.2.2.2.2.2.2.2.2.2.2.2.2.2.1, r.2.2.2.2.2.2.2.2.2.2.2.2.2.2.2.2.2.2.1, r.2.2.2.2.2.2.2.2.2.2.2.2.2.2.2.2.2.2.2.1, r.2.2.2.2.2.2.2.2.2.2.2.2.2.2.2.2.2.2.2.2.2.2.2.1, r.2.2.2.2.2.2.2.2.2.2.2.2.2.2.2.2.2.2.2.2.2.1, r.2.2.2.2.2.2.2.2.2.2.2.2.2.2.2.2.2.2.2.2.2.2.1, r.2.2.2.2.2.2.2.2.2.2.2.2.2.2.2.2.2.2.2.2.1, r.2.2.2.2.2.2.2.2.2.2.2.2.2.2.2.2.2.1), (r.2.2.2.1, r.2.2.2.2.2.2.2.2.2.2.2.2.2.2.2.2.2.2.2.2.2.2.2.2.1, r.2.2.2.2.2.2.2.2.2.2.2.2.2.2.2.2.2.2.2.2.2.2.2.2.2.1, r.2.2.2.2.2.2.2.2.2.2.2.2.2.2.2.2.2.2.2.2.2.2.2.2.2.2.1, r.2.2.2.2.2.2.2.2.2.2.2.2.2.2.2.2.2.2.2.2.2.2.2.2.2.2.2.1, r.2.2.2.2.2.2.2.2.2.2.2.2.2.2.2.2.2.2.2.2.2.2.2.2.2.2.2.2.1, r.2.2.2.2.2.2.2.2.2.2.2.2.2.2.2.2.2.2.2.2.2.2.2.2.2.2.2.2.2.1, r.2.2.2.2.2.2.2.2.2.2.2.2.2.2.2.2.2.2.2.2.2.2.2.2.2.2.2.2.2.2.1, r.2.2.2.2.2.2.2.2.2.2.2.2.2.2.2.2.2.2.2.2.2.2.2.2.2.2.2.2.2.2.2.1, r.2.2.2.2.2.2.2.2.2.2.2.2.2.2.2.2.2.2.2.2.2.2.2.2.2.2.2.2.2.2.2.2.1, r.2.2.2.2.2.2.2.2.2.2.2.2.2.2.2.2.2.2.2.2.2.2.2.2.2.2.2.2.2.2.2.2.2.1, r.2.2.2.2.2.2.2.2.2.2.2.2.2.2.2.2.2.2.2.2.2.2.2.2.2.2.2.2.2.2.2.2.2.2.1), (r.2.1, r.2.2.2.2.2.2.2.2.2.2.2.2.2.2.2.2.2.2.2.2.2.2.2.2.2.2.2.2.2.2.2.2.2.2.2.1, r.2.2.2.2.2.2.2.2.2.2.2.2.2.2.2.2.2.2.2.2.2.2.2.2.2.2.2.2.2.2.2.2.2.2.2.2.1, r.2.2.2.2.2.2.2.2.2.2.2.2.2.2.2.2.2.2.2.2.2.2.2.2.2.2.2.2.2.2.2.2.2.2.2.2.2.1, r.2.2.2.2.2.2.2.2.2.2.2.2.2.2.2.2.2.2.2.2.2.2.2.2.2.2.2.2.2.2.2.2.2.2.2.2.2.2.1, r.2.2.2.2.2.2.2.2.2.2.2.2.2.2.2.2.2.2.2.2.2.2.2.2.2.2.2.2.2.2.2.2.2.2.2.2.2.2.2.2.2.2.2.2.2.2), s.2.2.2.2.2.2.2.1, s.2.2.2.2.2.2.2.2.1, s.2.2.2.2.2.2.2.2.2) : RS) := by
  obtain ⟨p, h, hw⟩ := Option.bind_eq_some_iff.mp h
  unfold mGo1 at h
  obtain ⟨a1, e1, h⟩ := Option.bind_eq_some_iff.mp h
  unfold mAdv at e1
  obtain ⟨r1, f1, e1⟩ := Option.map_eq_some_iff.mp e1
  subst e1
  obtain ⟨was, e2, h⟩ := Option.bind_eq_some_iff.mp h
  unfold mIsSeq at e2
  rw [Option.map_id'] at e2
  obtain ⟨s2, e3, h⟩ := Option.bind_eq_some_iff.mp h
  unfold mDesk at e3
  obtain ⟨r2, f3, e3⟩ := Option.map_eq_some_iff.mp e3
  subst e3
  unfold jn_Ref_comes_c0_241e4
  by_cases q1 : fd_mDesk_pages r2.1 ≤ fd_mDesk_pages r1.1
  · rw [if_pos q1] at h
    obtain ⟨r, g1, g2⟩ := j296_0 (N := N) s s' r2 was r1 u39 s.o_this s.o_sheet s.o_lines s.o_job s.g_pages s.g_sheet_dots s.g_lines_line s.g_lines_above s.g_lines_out s.g_job_file s.g_job_places s.g_job_lengths (Option.bind_eq_some_iff.mpr ⟨p, h, hw⟩)
    exact ⟨r, (bind_eq f1).trans ((bind_eq e2).trans ((bind_eq f3).trans ((if_pos q1).trans g1))), g2⟩
  · rw [if_neg q1] at h
    obtain ⟨s3, e4, h⟩ := Option.bind_eq_some_iff.mp h
    unfold mPrint at e4
    obtain ⟨r4, f4, e4⟩ := Option.map_eq_some_iff.mp e4
    subst e4
    by_cases q2 : fd_Ref_fault r4.1 ≤ 0
    · rw [if_pos q2] at h
      obtain ⟨r, g1, g2⟩ := j296_0 (N := N) s s' r2 was r1 u39 r4.1 r4.2.2.1 r4.2.1 r4.2.2.2.2.2.2.2.1 r4.2.2.2.2.2.2.2.2.1 r4.2.2.2.2.2.1 r4.2.2.2.1 r4.2.2.2.2.1 r4.2.2.2.2.2.2.1 r4.2.2.2.2.2.2.2.2.2.1 r4.2.2.2.2.2.2.2.2.2.2.1 r4.2.2.2.2.2.2.2.2.2.2.2 (Option.bind_eq_some_iff.mpr ⟨p, h, hw⟩)
      exact ⟨r, (bind_eq f1).trans ((bind_eq e2).trans ((bind_eq f3).trans ((if_neg q1).trans ((bind_eq f4).trans ((if_pos q2).trans g1))))), g2⟩
    · rw [if_neg q2] at h
      have hp := Option.some.inj h
      subst hp
      have h9 := Option.some.inj hw
      subst h9
      exact ⟨_, (bind_eq f1).trans ((bind_eq e2).trans ((bind_eq f3).trans ((if_neg q1).trans ((bind_eq f4).trans (if_neg q2))))), rfl⟩
theorem j217_0 {N : Nat} (s s' : RS) (u39 : rs_mShelf_chosenGlyph) (b sk : Int32) (h : (mGo N s b u39.2 sk).bind (fun p => (if p.2 = true then mWork0 N p.1 else some p.1)) = some s') :
    ∃ r, jn_Ref_comes_c0_217d3 N 7 14 2 s.n_sheet_dots s.g_lines_whiteRests s.g_lines_blackRests s.g_lines_whiteBlocks s.g_lines_blackBlocks s.g_lines_blocks s.g_lines_modes s.n_lines_out s.g_macros_buffer b (s.o_this, s.o_macros, s.o_desk, s.o_shelf, s.o_sheet, s.o_lines, s.o_job, s.g_pages, s.g_seed, s.g_fresh, s.g_xWhat, s.g_xId, s.g_toDo, s.g_toDoId, s.g_bytes1, s.g_bytes2, s.g_desk_state, s.g_desk_kept, s.g_desk_isKept, s.g_desk_steps, s.g_desk_glyph, s.g_desk_page, s.g_desk_other, s.g_desk_store, s.g_shelf_ids, s.g_shelf_attributes, s.g_shelf_permanent, s.g_shelf_glyph, s.g_shelf_store, s.g_shelf_draft, s.g_shelf_wishes, s.g_shelf_pins, s.g_shelf_coming, s.g_shelf_bytes, s.g_shelf_left, s.g_macros_ids, s.g_macros_permanent, s.g_macros_lengths, s.g_macros_store, s.g_sheet_dots, s.g_lines_line, s.g_lines_above, s.g_lines_out, s.g_job_file, s.g_job_places, s.g_job_lengths) s.g_shelf_left u39 sk = some r ∧ s' = (((r.1, r.2.2.2.2.2.2.2.1, r.2.2.2.2.2.2.2.2.2.1, s.g_shownPages, s.g_tape, r.2.2.2.2.2.2.2.2.1, r.2.2.2.2.2.2.2.2.2.2.1, r.2.2.2.2.2.2.2.2.2.2.2.1, r.2.2.2.2.2.2.2.2.2.2.2.2.1, r.2.2.2.2.2.2.2.2.2.2.2.2.2.1, r.2.2.2.2.2.2.2.2.2.2.2.2.2.2.2.1, r.2.2.2.2.2.2.2.2.2.2.2.2.2.2.1), (r.2.2.2.2.2.2.1, r.2.2.2.2.2.2.2.2.2.2.2.2.2.2.2.2.2.2.2.2.2.2.2.2.2.2.2.2.2.2.2.2.2.2.2.2.2.2.2.2.2.2.2.1, r.2.2.2.2.2.2.2.2.2.2.2.2.2.2.2.2.2.2.2.2.2.2.2.2.2.2.2.2.2.2.2.2.2.2.2.2.2.2.2.2.2.2.2.2.1, r.2.2.2.2.2.2.2.2.2.2.2.2.2.2.2.2.2.2.2.2.2.2.2.2.2.2.2.2.2.2.2.2.2.2.2.2.2.2.2.2.2.2.2.2.2.1), (r.2.2.2.2.2.1, s.n_lines_out, r.2.2.2.2.2.2.2.2.2.2.2.2.2.2.2.2.2.2.2.2.2.2.2.2.2.2.2.2.2.2.2.2.2.2.2.2.2.2.2.2.2.2.1, r.2.2.2.2.2.2.2.2.2.2.2.2.2.2.2.2.2.2.2.2.2.2.2.2.2.2.2.2.2.2.2.2.2.2.2.2.2.2.2.2.1, r.2.2.2.2.2.2.2.2.2.2.2.2.2.2.2.2.2.2.2.2.2.2.2.2.2.2.2.2.2.2.2.2.2.2.2.2.2.2.2.2.2.1, s.g_lines_whiteRests, s.g_lines_blackRests, s.g_lines_whiteBlocks, s.g_lines_blackBlocks, s.g_lines_blocks, s.g_lines_modes, s.g_lines_readAbove, s.g_lines_readLine), (r.2.2.2.2.1, s.n_sheet_dots, r.2.2.2.2.2.2.2.2.2.2.2.2.2.2.2.2.2.2.2.2.2.2.2.2.2.2.2.2.2.2.2.2.2.2.2.2.2.2.2.1), (r.2.2.1, r.2.2.2.2.2.2.2.2.2.2.2.2.2.2.2.2.1, r.2.2.2.2.2.2.2.2.2.2.2.2.2.2.2.2.2.2.1, r.2.2.2.2.2.2.2.2.2.2.2.2.2.2.2.2.2.2.2.1, r.2.2.2.2.2.2.2.2.2.2.2.2.2.2.2.2.2.2.2.2.2.2.2.1, r.2.2.2.2.2.2.2.2.2.2.2.2.2.2.2.2.2.2.2.2.2.1, r.2.2.2.2.2.2.2.2.2.2.2.2.2.2.2.2.2.2.2.2.2.2.1, r.2.2.2.2.2.2.2.2.2.2.2.2.2.2.2.2.2.2.2.2.1, r.2.2.2.2.2.2.2.2.2.2.2.2.2.2.2.2.2.1), (r.2.2.2.1, r.2.2.2.2.2.2.2.2.2.2.2.2.2.2.2.2.2.2.2.2.2.2.2.2.1, r.2.2.2.2.2.2.2.2.2.2.2.2.2.2.2.2.2.2.2.2.2.2.2.2.2.1, r.2.2.2.2.2.2.2.2.2.2.2.2.2.2.2.2.2.2.2.2.2.2.2.2.2.2.1, r.2.2.2.2.2.2.2.2.2.2.2.2.2.2.2.2.2.2.2.2.2.2.2.2.2.2.2.1, r.2.2.2.2.2.2.2.2.2.2.2.2.2.2.2.2.2.2.2.2.2.2.2.2.2.2.2.2.1, r.2.2.2.2.2.2.2.2.2.2.2.2.2.2.2.2.2.2.2.2.2.2.2.2.2.2.2.2.2.1, r.2.2.2.2.2.2.2.2.2.2.2.2.2.2.2.2.2.2.2.2.2.2.2.2.2.2.2.2.2.2.1, r.2.2.2.2.2.2.2.2.2.2.2.2.2.2.2.2.2.2.2.2.2.2.2.2.2.2.2.2.2.2.2.1, r.2.2.2.2.2.2.2.2.2.2.2.2.2.2.2.2.2.2.2.2.2.2.2.2.2.2.2.2.2.2.2.2.1, r.2.2.2.2.2.2.2.2.2.2.2.2.2.2.2.2.2.2.2.2.2.2.2.2.2.2.2.2.2.2.2.2.2.1, r.2.2.2.2.2.2.2.2.2.2.2.2.2.2.2.2.2.2.2.2.2.2.2.2.2.2.2.2.2.2.2.2.2.2.1), (r.2.1, r.2.2.2.2.2.2.2.2.2.2.2.2.2.2.2.2.2.2.2.2.2.2.2.2.2.2.2.2.2.2.2.2.2.2.2.1, r.2.2.2.2.2.2.2.2.2.2.2.2.2.2.2.2.2.2.2.2.2.2.2.2.2.2.2.2.2.2.2.2.2.2.2.2.1, r.2.2.2.2.2.2.2.2.2.2.2.2.2.2.2.2.2.2.2.2.2.2.2.2.2.2.2.2.2.2.2.2.2.2.2.2.2.1, r.2.2.2.2.2.2.2.2.2.2.2.2.2.2.2.2.2.2.2.2.2.2.2.2.2.2.2.2.2.2.2.2.2.2.2.2.2.2.1, r.2.2.2.2.2.2.2.2.2.2.2.2.2.2.2.2.2.2.2.2.2.2.2.2.2.2.2.2.2.2.2.2.2.2.2.2.2.2.2.2.2.2.2.2.2.2), s.2.2.2.2.2.2.2.1, s.2.2.2.2.2.2.2.2.1, s.2.2.2.2.2.2.2.2.2) : RS) := by
  unfold mGo at h
  unfold jn_Ref_comes_c0_217d3
  by_cases q : sk ≤ 20000
  · rw [if_pos q] at h
    obtain ⟨r, g1, g2⟩ := j241_0 s s' u39 b sk h
    exact ⟨r, (if_pos q).trans g1, g2⟩
  · rw [if_neg q] at h
    obtain ⟨r, g1, g2⟩ := j241_0 s s' u39 b 20000 h
    exact ⟨r, (if_neg q).trans g1, g2⟩
theorem j189_0 {N : Nat} (s s' : RS) (u39 : rs_mShelf_chosenGlyph) (b : Int32) (h : (mGo N s b u39.2 (-1)).bind (fun p => (if p.2 = true then mWork0 N p.1 else some p.1)) = some s') :
    ∃ r, jn_Ref_comes_c0_189k10 N 7 14 2 s.n_sheet_dots s.g_lines_whiteRests s.g_lines_blackRests s.g_lines_whiteBlocks s.g_lines_blackBlocks s.g_lines_blocks s.g_lines_modes s.n_lines_out s.g_macros_buffer b (s.o_this, s.o_macros, s.o_desk, s.o_shelf, s.o_sheet, s.o_lines, s.o_job, s.g_pages, s.g_seed, s.g_fresh, s.g_xWhat, s.g_xId, s.g_toDo, s.g_toDoId, s.g_bytes1, s.g_bytes2, s.g_desk_state, s.g_desk_kept, s.g_desk_isKept, s.g_desk_steps, s.g_desk_glyph, s.g_desk_page, s.g_desk_other, s.g_desk_store, s.g_shelf_ids, s.g_shelf_attributes, s.g_shelf_permanent, s.g_shelf_glyph, s.g_shelf_store, s.g_shelf_draft, s.g_shelf_wishes, s.g_shelf_pins, s.g_shelf_coming, s.g_shelf_bytes, s.g_shelf_left, s.g_macros_ids, s.g_macros_permanent, s.g_macros_lengths, s.g_macros_store, s.g_sheet_dots, s.g_lines_line, s.g_lines_above, s.g_lines_out, s.g_job_file, s.g_job_places, s.g_job_lengths) u39 s.g_shelf_left = some r ∧ s' = (((r.1, r.2.2.2.2.2.2.2.1, r.2.2.2.2.2.2.2.2.2.1, s.g_shownPages, s.g_tape, r.2.2.2.2.2.2.2.2.1, r.2.2.2.2.2.2.2.2.2.2.1, r.2.2.2.2.2.2.2.2.2.2.2.1, r.2.2.2.2.2.2.2.2.2.2.2.2.1, r.2.2.2.2.2.2.2.2.2.2.2.2.2.1, r.2.2.2.2.2.2.2.2.2.2.2.2.2.2.2.1, r.2.2.2.2.2.2.2.2.2.2.2.2.2.2.1), (r.2.2.2.2.2.2.1, r.2.2.2.2.2.2.2.2.2.2.2.2.2.2.2.2.2.2.2.2.2.2.2.2.2.2.2.2.2.2.2.2.2.2.2.2.2.2.2.2.2.2.2.1, r.2.2.2.2.2.2.2.2.2.2.2.2.2.2.2.2.2.2.2.2.2.2.2.2.2.2.2.2.2.2.2.2.2.2.2.2.2.2.2.2.2.2.2.2.1, r.2.2.2.2.2.2.2.2.2.2.2.2.2.2.2.2.2.2.2.2.2.2.2.2.2.2.2.2.2.2.2.2.2.2.2.2.2.2.2.2.2.2.2.2.2.1), (r.2.2.2.2.2.1, s.n_lines_out, r.2.2.2.2.2.2.2.2.2.2.2.2.2.2.2.2.2.2.2.2.2.2.2.2.2.2.2.2.2.2.2.2.2.2.2.2.2.2.2.2.2.2.1, r.2.2.2.2.2.2.2.2.2.2.2.2.2.2.2.2.2.2.2.2.2.2.2.2.2.2.2.2.2.2.2.2.2.2.2.2.2.2.2.2.1, r.2.2.2.2.2.2.2.2.2.2.2.2.2.2.2.2.2.2.2.2.2.2.2.2.2.2.2.2.2.2.2.2.2.2.2.2.2.2.2.2.2.1, s.g_lines_whiteRests, s.g_lines_blackRests, s.g_lines_whiteBlocks, s.g_lines_blackBlocks, s.g_lines_blocks, s.g_lines_modes, s.g_lines_readAbove, s.g_lines_readLine), (r.2.2.2.2.1, s.n_sheet_dots, r.2.2.2.2.2.2.2.2.2.2.2.2.2.2.2.2.2.2.2.2.2.2.2.2.2.2.2.2.2.2.2.2.2.2.2.2.2.2.2.1), (r.2.2.1, r.2.2.2.2.2.2.2.2.2.2.2.2.2.2.2.2.1, r.2.2.2.2.2.2.2.2.2.2.2.2.2.2.2.2.2.2.1, r.2.2.2.2.2.2.2.2.2.2.2.2.2.2.2.2.2.2.2.1, r.2.2.2.2.2.2.2.2.2.2.2.2.2.2.2.2.2.2.2.2.2.2.2.1, r.2.2.2.2.2.2.2.2.2.2.2.2.2.2.2.2.2.2.2.2.2.1, r.2.2.2.2.2.2.2.2.2.2.2.2.2.2.2.2.2.2.2.2.2.2.1, r.2.2.2.2.2.2.2.2.2.2.2.2.2.2.2.2.2.2.2.2.1, r.2.2.2.2.2.2.2.2.2.2.2.2.2.2.2.2.2.1), (r.2.2.2.1, r.2.2.2.2.2.2.2.2.2.2.2.2.2.2.2.2.2.2.2.2.2.2.2.2.1, r.2.2.2.2.2.2.2.2.2.2.2.2.2.2.2.2.2.2.2.2.2.2.2.2.2.1, r.2.2.2.2.2.2.2.2.2.2.2.2.2.2.2.2.2.2.2.2.2.2.2.2.2.2.1, r.2.2.2.2.2.2.2.2.2.2.2.2.2.2.2.2.2.2.2.2.2.2.2.2.2.2.2.1, r.2.2.2.2.2.2.2.2.2.2.2.2.2.2.2.2.2.2.2.2.2.2.2.2.2.2.2.2.1, r.2.2.2.2.2.2.2.2.2.2.2.2.2.2.2.2.2.2.2.2.2.2.2.2.2.2.2.2.2.1, r.2.2.2.2.2.2.2.2.2.2.2.2.2.2.2.2.2.2.2.2.2.2.2.2.2.2.2.2.2.2.1, r.2.2.2.2.2.2.2.2.2.2.2.2.2.2.2.2.2.2.2.2.2.2.2.2.2.2.2.2.2.2.2.1, r.2.2.2.2.2.2.2.2.2.2.2.2.2.2.2.2.2.2.2.2.2.2.2.2.2.2.2.2.2.2.2.2.1, r.2.2.2.2.2.2.2.2.2.2.2.2.2.2.2.2.2.2.2.2.2.2.2.2.2.2.2.2.2.2.2.2.2.1, r.2.2.2.2.2.2.2.2.2.2.2.2.2.2.2.2.2.2.2.2.2.2.2.2.2.2.2.2.2.2.2.2.2.2.1), (r.2.1, r.2.2.2.2.2.2.2.2.2.2.2.2.2.2.2.2.2.2.2.2.2.2.2.2.2.2.2.2.2.2.2.2.2.2.2.1, r.2.2.2.2.2.2.2.2.2.2.2.2.2.2.2.2.2.2.2.2.2.2.2.2.2.2.2.2.2.2.2.2.2.2.2.2.1, r.2.2.2.2.2.2.2.2.2.2.2.2.2.2.2.2.2.2.2.2.2.2.2.2.2.2.2.2.2.2.2.2.2.2.2.2.2.1, r.2.2.2.2.2.2.2.2.2.2.2.2.2.2.2.2.2.2.2.2.2.2.2.2.2.2.2.2.2.2.2.2.2.2.2.2.2.2.1, r.2.2.2.2.2.2.2.2.2.2.2.2.2.2.2.2.2.2.2.2.2.2.2.2.2.2.2.2.2.2.2.2.2.2.2.2.2.2.2.2.2.2.2.2.2.2), s.2.2.2.2.2.2.2.1, s.2.2.2.2.2.2.2.2.1, s.2.2.2.2.2.2.2.2.2) : RS) := by
  obtain ⟨r, g1, g2⟩ := j217_0 s s' u39 b (-1) h
  unfold jn_Ref_comes_c0_189k10 jn_Ref_comes_c0_190c2
  exact ⟨r, (if_pos (show (0 : Int32) = 0 from rfl)).trans g1, g2⟩
theorem j190_0 {N : Nat} (s s' : RS) (u39 : rs_mShelf_chosenGlyph) (b : Int32) (hi : dk_in ((7 * u39.2) + 6) 1799) (h : (mGo N s b u39.2 (s.g_shelf_glyph ((7 * u39.2) + 6).toNatClampNeg)).bind (fun p => (if p.2 = true then mWork0 N p.1 else some p.1)) = some s') :
    ∃ r, jn_Ref_comes_c0_190c2 N 7 14 2 s.n_sheet_dots s.g_lines_whiteRests s.g_lines_blackRests s.g_lines_whiteBlocks s.g_lines_blackBlocks s.g_lines_blocks s.g_lines_modes s.n_lines_out s.g_macros_buffer b (s.o_this, s.o_macros, s.o_desk, s.o_shelf, s.o_sheet, s.o_lines, s.o_job, s.g_pages, s.g_seed, s.g_fresh, s.g_xWhat, s.g_xId, s.g_toDo, s.g_toDoId, s.g_bytes1, s.g_bytes2, s.g_desk_state, s.g_desk_kept, s.g_desk_isKept, s.g_desk_steps, s.g_desk_glyph, s.g_desk_page, s.g_desk_other, s.g_desk_store, s.g_shelf_ids, s.g_shelf_attributes, s.g_shelf_permanent, s.g_shelf_glyph, s.g_shelf_store, s.g_shelf_draft, s.g_shelf_wishes, s.g_shelf_pins, s.g_shelf_coming, s.g_shelf_bytes, s.g_shelf_left, s.g_macros_ids, s.g_macros_permanent, s.g_macros_lengths, s.g_macros_store, s.g_sheet_dots, s.g_lines_line, s.g_lines_above, s.g_lines_out, s.g_job_file, s.g_job_places, s.g_job_lengths) u39 1 s.g_shelf_left = some r ∧ s' = (((r.1, r.2.2.2.2.2.2.2.1, r.2.2.2.2.2.2.2.2.2.1, s.g_shownPages, s.g_tape, r.2.2.2.2.2.2.2.2.1, r.2.2.2.2.2.2.2.2.2.2.1, r.2.2.2.2.2.2.2.2.2.2.2.1, r.2.2.2.2.2.2.2.2.2.2.2.2.1, r.2.2.2.2.2.2.2.2.2.2.2.2.2.1, r.2.2.2.2.2.2.2.2.2.2.2.2.2.2.2.1, r.2.2.2.2.2.2.2.2.2.2.2.2.2.2.1), (r.2.2.2.2.2.2.1, r.2.2.2.2.2.2.2.2.2.2.2.2.2.2.2.2.2.2.2.2.2.2.2.2.2.2.2.2.2.2.2.2.2.2.2.2.2.2.2.2.2.2.2.1, r.2.2.2.2.2.2.2.2.2.2.2.2.2.2.2.2.2.2.2.2.2.2.2.2.2.2.2.2.2.2.2.2.2.2.2.2.2.2.2.2.2.2.2.2.1, r.2.2.2.2.2.2.2.2.2.2.2.2.2.2.2.2.2.2.2.2.2.2.2.2.2.2.2.2.2.2.2.2.2.2.2.2.2.2.2.2.2.2.2.2.2.1), (r.2.2.2.2.2.1, s.n_lines_out, r.2.2.2.2.2.2.2.2.2.2.2.2.2.2.2.2.2.2.2.2.2.2.2.2.2.2.2.2.2.2.2.2.2.2.2.2.2.2.2.2.2.2.1, r.2.2.2.2.2.2.2.2.2.2.2.2.2.2.2.2.2.2.2.2.2.2.2.2.2.2.2.2.2.2.2.2.2.2.2.2.2.2.2.2.1, r.2.2.2.2.2.2.2.2.2.2.2.2.2.2.2.2.2.2.2.2.2.2.2.2.2.2.2.2.2.2.2.2.2.2.2.2.2.2.2.2.2.1, s.g_lines_whiteRests, s.g_lines_blackRests, s.g_lines_whiteBlocks, s.g_lines_blackBlocks, s.g_lines_blocks, s.g_lines_modes, s.g_lines_readAbove, s.g_lines_readLine), (r.2.2.2.2.1, s.n_sheet_dots, r.2.2.2.2.2.2.2.2.2.2.2.2.2.2.2.2.2.2.2.2.2.2.2.2.2.2.2.2.2.2.2.2.2.2.2.2.2.2.2.1), (r.2.2.1, r.2.2.2.2.2.2.2.2.2.2.2.2.2.2.2.2.1, r.2.2.2.2.2.2.2.2.2.2.2.2.2.2.2.2.2.2.1, r.2.2.2.2.2.2.2.2.2.2.2.2.2.2.2.2.2.2.2.1, r.2.2.2.2.2.2.2.2.2.2.2.2.2.2.2.2.2.2.2.2.2.2.2.1, r.2.2.2.2.2.2.2.2.2.2.2.2.2.2.2.2.2.2.2.2.2.1, r.2.2.2.2.2.2.2.2.2.2.2.2.2.2.2.2.2.2.2.2.2.2.1, r.2.2.2.2.2.2.2.2.2.2.2.2.2.2.2.2.2.2.2.2.1, r.2.2.2.2.2.2.2.2.2.2.2.2.2.2.2.2.2.1), (r.2.2.2.1, r.2.2.2.2.2.2.2.2.2.2.2.2.2.2.2.2.2.2.2.2.2.2.2.2.1, r.2.2.2.2.2.2.2.2.2.2.2.2.2.2.2.2.2.2.2.2.2.2.2.2.2.1, r.2.2.2.2.2.2.2.2.2.2.2.2.2.2.2.2.2.2.2.2.2.2.2.2.2.2.1, r.2.2.2.2.2.2.2.2.2.2.2.2.2.2.2.2.2.2.2.2.2.2.2.2.2.2.2.1, r.2.2.2.2.2.2.2.2.2.2.2.2.2.2.2.2.2.2.2.2.2.2.2.2.2.2.2.2.1, r.2.2.2.2.2.2.2.2.2.2.2.2.2.2.2.2.2.2.2.2.2.2.2.2.2.2.2.2.2.1, r.2.2.2.2.2.2.2.2.2.2.2.2.2.2.2.2.2.2.2.2.2.2.2.2.2.2.2.2.2.2.1, r.2.2.2.2.2.2.2.2.2.2.2.2.2.2.2.2.2.2.2.2.2.2.2.2.2.2.2.2.2.2.2.1, r.2.2.2.2.2.2.2.2.2.2.2.2.2.2.2.2.2.2.2.2.2.2.2.2.2.2.2.2.2.2.2.2.1, r.2.2.2.2.2.2.2.2.2.2.2.2.2.2.2.2.2.2.2.2.2.2.2.2.2.2.2.2.2.2.2.2.2.1, r.2.2.2.2.2.2.2.2.2.2.2.2.2.2.2.2.2.2.2.2.2.2.2.2.2.2.2.2.2.2.2.2.2.2.1), (r.2.1, r.2.2.2.2.2.2.2.2.2.2.2.2.2.2.2.2.2.2.2.2.2.2.2.2.2.2.2.2.2.2.2.2.2.2.2.1, r.2.2.2.2.2.2.2.2.2.2.2.2.2.2.2.2.2.2.2.2.2.2.2.2.2.2.2.2.2.2.2.2.2.2.2.2.1, r.2.2.2.2.2.2.2.2.2.2.2.2.2.2.2.2.2.2.2.2.2.2.2.2.2.2.2.2.2.2.2.2.2.2.2.2.2.1, r.2.2.2.2.2.2.2.2.2.2.2.2.2.2.2.2.2.2.2.2.2.2.2.2.2.2.2.2.2.2.2.2.2.2.2.2.2.2.1, r.2.2.2.2.2.2.2.2.2.2.2.2.2.2.2.2.2.2.2.2.2.2.2.2.2.2.2.2.2.2.2.2.2.2.2.2.2.2.2.2.2.2.2.2.2.2), s.2.2.2.2.2.2.2.1, s.2.2.2.2.2.2.2.2.1, s.2.2.2.2.2.2.2.2.2) : RS) := by
  obtain ⟨r, g1, g2⟩ := j217_0 s s' u39 b _ h
  exact ⟨r, (if_neg (show ¬ (1 : Int32) = 0 by decide)).trans ((if_pos hi).trans g1), g2⟩

theorem com_0 {N : Nat} {b : Int32} {s s1 s2 s' : RS} {e : Bool} (h0 : fd_Ref_fault s.o_this = 0) (hr : fd_mMacros_reading s.o_macros = 0) (hs : mStop0 N N s b = some s1) (h1 : fd_Ref_fault s1.o_this = 0) (hr1 : fd_mMacros_reading s1.o_macros = 0) (hb : mByte N s1 b = some (s2, e)) (hw : (if e = true then mWork0 N s2 else some s2) = some s') : mComes0 N s b = some s' := by
  have q0 : fd_Ref_fault s.o_this ≤ 0 := by rw [h0]; decide
  have q1 : fd_Ref_fault s1.o_this ≤ 0 := by rw [h1]; decide
  obtain ⟨r0, t1, t2⟩ := stop_0 _ _ _ hs
  subst t2
  unfold mByte at hb
  obtain ⟨g, e1, hb⟩ := Option.bind_eq_some_iff.mp hb
  unfold mGlyph at e1
  obtain ⟨r1, f1, e1⟩ := Option.map_eq_some_iff.mp e1
  subst e1
  obtain ⟨c, e2, hb⟩ := Option.bind_eq_some_iff.mp hb
  unfold mComes0
  refine Option.map_eq_some_iff.mpr ?_
  unfold ex_Ref_comes_c0
  unfold mWide at e2
  by_cases q2 : r1.2 < 0
  · rw [if_pos q2] at e2
    have hc := Option.some.inj e2
    subst hc
    obtain ⟨r, g1, g2⟩ := j189_0 _ s' r1 b (Option.bind_eq_some_iff.mpr ⟨_, hb, hw⟩)
    exact ⟨r, (if_pos q0).trans ((if_pos hr).trans ((bind_eq t1).trans ((if_pos q1).trans ((if_pos hr1).trans ((bind_eq f1).trans ((if_pos q2).trans g1)))))), g2.symm⟩
  · rw [if_neg q2] at e2
    obtain ⟨c2, e3, e2⟩ := Option.bind_eq_some_iff.mp e2
    unfold mChoose at e3
    obtain ⟨r3, f3, e3⟩ := Option.map_eq_some_iff.mp e3
    subst e3
    by_cases q3 : dk_in ((7 * r3.2) + 1) 231
    · rw [if_pos q3] at e2
      by_cases q4 : r0.2.2.2.2.2.2.2.2.2.2.2.2.2.2.2.2.2.2.2.2.2.2.2.2.2.1 ((7 * r3.2) + 1).toNatClampNeg = 1
      · rw [if_pos q4] at e2
        by_cases q5 : dk_in ((7 * r1.2) + 6) 1799
        · rw [if_pos q5] at e2
          have hc := Option.some.inj e2
          subst hc
          obtain ⟨r, g1, g2⟩ := j190_0 _ s' r1 b q5 (Option.bind_eq_some_iff.mpr ⟨_, hb, hw⟩)
          exact ⟨r, (if_pos q0).trans ((if_pos hr).trans ((bind_eq t1).trans ((if_pos q1).trans ((if_pos hr1).trans ((bind_eq f1).trans ((if_neg q2).trans ((bind_eq f3).trans ((if_pos q3).trans ((if_pos q4).trans g1))))))))), g2.symm⟩
        · rw [if_neg q5] at e2; exact absurd e2 (by intro q; cases q)
      · rw [if_neg q4] at e2
        have hc := Option.some.inj e2
        subst hc
        obtain ⟨r, g1, g2⟩ := j189_0 _ s' r1 b (Option.bind_eq_some_iff.mpr ⟨_, hb, hw⟩)
        exact ⟨r, (if_pos q0).trans ((if_pos hr).trans ((bind_eq t1).trans ((if_pos q1).trans ((if_pos hr1).trans ((bind_eq f1).trans ((if_neg q2).trans ((bind_eq f3).trans ((if_pos q3).trans ((if_neg q4).trans g1))))))))), g2.symm⟩
    · rw [if_neg q3] at e2; exact absurd e2 (by intro q; cases q)
theorem com_0_f {N : Nat} {b : Int32} {s s1 : RS} (h0 : fd_Ref_fault s.o_this = 0) (hr : fd_mMacros_reading s.o_macros = 0) (hs : mStop0 N N s b = some s1) (h1 : 0 < fd_Ref_fault s1.o_this) : mComes0 N s b = some s1 := by
  have q0 : fd_Ref_fault s.o_this ≤ 0 := by rw [h0]; decide
  have q1 : ¬ fd_Ref_fault s1.o_this ≤ 0 := Int32.not_le.mpr h1
  obtain ⟨r0, t1, t2⟩ := stop_0 _ _ _ hs
  subst t2
  unfold mComes0
  refine Option.map_eq_some_iff.mpr ⟨_, (if_pos q0).trans ((if_pos hr).trans ((bind_eq t1).trans (if_neg q1))), rfl⟩
def kChar (N : Nat) (s : CS) (v0 : Int32) : Option (CS) := (ex_Interpreter_doCharacter N s.o_interpreter s.o_fonts s.o_page s.g_fonts_ids s.g_fonts_attributes s.g_fonts_glyphs s.g_fonts_chosen v0).map (fun u => ((s.1, s.2.1, s.2.2.1, s.2.2.2.1, s.2.2.2.2.1, s.2.2.2.2.2.1, (u.2, s.g_page_stack, s.g_page_kept), s.2.2.2.2.2.2.2.1, (u.1, s.o_interpreter_parser, s.g_interpreter_at, s.g_interpreter_ends, s.g_interpreter_actCount, s.g_interpreter_actNext, s.g_interpreter_copies, s.g_interpreter_called, s.g_interpreter_acts, s.g_interpreter_actIds, s.g_interpreter_parser_data), s.2.2.2.2.2.2.2.2.2.1, s.2.2.2.2.2.2.2.2.2.2.1, s.2.2.2.2.2.2.2.2.2.2.2) : CS))

def kCtl (N : Nat) (s : CS) (v0 : Int32) : Option (CS) := (ex_Interpreter_doControl N s.o_interpreter s.o_page v0).map (fun u => ((s.1, s.2.1, s.2.2.1, s.2.2.2.1, s.2.2.2.2.1, s.2.2.2.2.2.1, (u.2, s.g_page_stack, s.g_page_kept), s.2.2.2.2.2.2.2.1, (u.1, s.o_interpreter_parser, s.g_interpreter_at, s.g_interpreter_ends, s.g_interpreter_actCount, s.g_interpreter_actNext, s.g_interpreter_copies, s.g_interpreter_called, s.g_interpreter_acts, s.g_interpreter_actIds, s.g_interpreter_parser_data), s.2.2.2.2.2.2.2.2.2.1, s.2.2.2.2.2.2.2.2.2.2.1, s.2.2.2.2.2.2.2.2.2.2.2) : CS))

def kShort (N : Nat) (s : CS) (v0 : Int32) : Option (CS) := (ex_Interpreter_doShort N s.o_interpreter s.o_page s.o_sheet v0).map (fun u => ((s.1, s.2.1, s.2.2.1, s.2.2.2.1, s.2.2.2.2.1, s.2.2.2.2.2.1, (u.2, s.g_page_stack, s.g_page_kept), s.2.2.2.2.2.2.2.1, (u.1, s.o_interpreter_parser, s.g_interpreter_at, s.g_interpreter_ends, s.g_interpreter_actCount, s.g_interpreter_actNext, s.g_interpreter_copies, s.g_interpreter_called, s.g_interpreter_acts, s.g_interpreter_actIds, s.g_interpreter_parser_data), s.2.2.2.2.2.2.2.2.2.1, s.2.2.2.2.2.2.2.2.2.2.1, s.2.2.2.2.2.2.2.2.2.2.2) : CS))

def kPlace (N : Nat) (s : CS) (v0 : Int32) (v1 : Int32) : Option (CS) := (ex_Interpreter_doPlace N s.o_interpreter s.o_interpreter_parser s.o_page v0 v1).map (fun u => ((s.1, s.2.1, s.2.2.1, s.2.2.2.1, s.2.2.2.2.1, s.2.2.2.2.2.1, (u, s.g_page_stack, s.g_page_kept), s.2.2.2.2.2.2.2.1, s.2.2.2.2.2.2.2.2.1, s.2.2.2.2.2.2.2.2.2.1, s.2.2.2.2.2.2.2.2.2.2.1, s.2.2.2.2.2.2.2.2.2.2.2) : CS))

def kStack (N : Nat) (s : CS) (v0 : Int32) (v1 : Int32) : Option (CS) := (ex_Interpreter_doStackAndMacros N s.o_interpreter s.o_macros s.g_macros_saidActs s.g_macros_saidIds s.o_page s.g_page_stack v0 v1).map (fun u => ((s.1, s.2.1, s.2.2.1, s.2.2.2.1, s.2.2.2.2.1, s.2.2.2.2.2.1, (u.2.2.2.1, u.2.2.2.2, s.g_page_kept), s.2.2.2.2.2.2.2.1, s.2.2.2.2.2.2.2.2.1, (u.1, s.g_macros_ids, s.g_macros_places, s.g_macros_lengths, s.g_macros_permanent, s.g_macros_bytes, s.n_macros_collected, s.g_macros_collected, u.2.1, u.2.2.1), s.2.2.2.2.2.2.2.2.2.2.1, s.2.2.2.2.2.2.2.2.2.2.2) : CS))

def kText (N : Nat) (s : CS) (v0 : Int32) (v1 : Int32) (v2 : Int64) : Option (CS) := (ex_Interpreter_doText N s.o_interpreter s.o_page v0 v1 v2).map (fun u => ((s.1, s.2.1, s.2.2.1, s.2.2.2.1, s.2.2.2.2.1, s.2.2.2.2.2.1, (u, s.g_page_stack, s.g_page_kept), s.2.2.2.2.2.2.2.1, s.2.2.2.2.2.2.2.2.1, s.2.2.2.2.2.2.2.2.2.1, s.2.2.2.2.2.2.2.2.2.2.1, s.2.2.2.2.2.2.2.2.2.2.2) : CS))

def kLayout (N : Nat) (s : CS) (v0 : Int32) (v1 : Int32) (v2 : Int64) : Option (CS) := (ex_Interpreter_doLayout N s.o_interpreter s.o_sheet s.o_page v0 v1 v2).map (fun u => ((s.1, s.2.1, s.2.2.1, s.2.2.2.1, s.2.2.2.2.1, s.2.2.2.2.2.1, (u.2, s.g_page_stack, s.g_page_kept), s.2.2.2.2.2.2.2.1, (u.1, s.o_interpreter_parser, s.g_interpreter_at, s.g_interpreter_ends, s.g_interpreter_actCount, s.g_interpreter_actNext, s.g_interpreter_copies, s.g_interpreter_called, s.g_interpreter_acts, s.g_interpreter_actIds, s.g_interpreter_parser_data), s.2.2.2.2.2.2.2.2.2.1, s.2.2.2.2.2.2.2.2.2.2.1, s.2.2.2.2.2.2.2.2.2.2.2) : CS))

def kWrap (N : Nat) (s : CS) (v0 : Int32) (v1 : Int32) : Option (CS) := (ex_Interpreter_doWrap N s.o_interpreter s.o_page v0 v1).map (fun u => ((s.1, s.2.1, s.2.2.1, s.2.2.2.1, s.2.2.2.2.1, s.2.2.2.2.2.1, (u, s.g_page_stack, s.g_page_kept), s.2.2.2.2.2.2.2.1, s.2.2.2.2.2.2.2.2.1, s.2.2.2.2.2.2.2.2.2.1, s.2.2.2.2.2.2.2.2.2.2.1, s.2.2.2.2.2.2.2.2.2.2.2) : CS))

def kSet (N : Nat) (s : CS) (v0 : Int32) (v1 : Int32) (v2 : Int32) : Option (CS) := (ex_Interpreter_doSet N s.o_interpreter s.o_fonts s.g_fonts_wishes s.g_fonts_pins s.g_fonts_ids s.g_fonts_attributes v0 v1 v2).map (fun u => ((s.1, s.2.1, s.2.2.1, s.2.2.2.1, s.2.2.2.2.1, s.2.2.2.2.2.1, s.2.2.2.2.2.2.1, s.2.2.2.2.2.2.2.1, s.2.2.2.2.2.2.2.2.1, s.2.2.2.2.2.2.2.2.2.1, (u.1, s.g_fonts_ids, s.g_fonts_attributes, s.g_fonts_permanent, s.g_fonts_glyphs, s.g_fonts_dots, u.2.1, u.2.2, s.g_fonts_chosen, s.g_fonts_left, s.g_fonts_coming), s.2.2.2.2.2.2.2.2.2.2.2) : CS))

def kWish (N : Nat) (s : CS) (v0 : Int32) (v1 : Int32) (v2 : Int32) (v3 : Int64) : Option (CS) := (ex_Interpreter_doWish N s.o_interpreter s.o_fonts s.o_interpreter_parser s.g_fonts_wishes s.g_fonts_pins s.g_interpreter_parser_data s.g_fonts_ids s.g_fonts_attributes s.g_fonts_permanent s.g_fonts_glyphs s.g_fonts_dots s.g_fonts_coming v0 v1 v2 v3).map (fun u => ((s.1, s.2.1, s.2.2.1, s.2.2.2.1, s.2.2.2.2.1, s.2.2.2.2.2.1, s.2.2.2.2.2.2.1, s.2.2.2.2.2.2.2.1, s.2.2.2.2.2.2.2.2.1, s.2.2.2.2.2.2.2.2.2.1, (u.1, u.2.2.2.1, u.2.2.2.2.1, u.2.2.2.2.2.1, u.2.2.2.2.2.2.1, u.2.2.2.2.2.2.2.1, u.2.1, u.2.2.1, s.g_fonts_chosen, s.g_fonts_left, u.2.2.2.2.2.2.2.2), s.2.2.2.2.2.2.2.2.2.2.2) : CS))

def kRow (N : Nat) (s : CS) (v0 : Int32) (v1 : Int32) : Option (CS) := (ex_Interpreter_doRow N s.o_interpreter s.o_raster s.o_page s.g_raster_seed s.o_interpreter_parser s.g_interpreter_parser_data s.o_sheet s.g_sheet_marks s.g_sheet_dots v0 v1).map (fun u => ((s.1, s.2.1, s.2.2.1, s.2.2.2.1, s.2.2.2.2.1, (u.2.2.1, u.2.2.2.1, u.2.2.2.2, s.n_sheet_band, s.g_sheet_band), s.2.2.2.2.2.2.1, s.2.2.2.2.2.2.2.1, s.2.2.2.2.2.2.2.2.1, s.2.2.2.2.2.2.2.2.2.1, s.2.2.2.2.2.2.2.2.2.2.1, (u.1, u.2.1)) : CS))

def kRules (N : Nat) (s : CS) (v0 : Int32) (v1 : Int32) (v2 : Int64) : Option (CS) := (ex_Interpreter_doFontsAndRules N s.o_interpreter s.o_sheet s.o_fonts s.g_fonts_ids s.g_fonts_attributes s.g_fonts_permanent s.g_fonts_glyphs s.g_fonts_dots s.o_page s.g_sheet_marks v0 v1 v2).map (fun u => ((s.1, s.2.1, s.2.2.1, s.2.2.2.1, s.2.2.2.2.1, (u.1, u.2.2.2.2.2.2.2, s.g_sheet_dots, s.n_sheet_band, s.g_sheet_band), s.2.2.2.2.2.2.1, s.2.2.2.2.2.2.2.1, s.2.2.2.2.2.2.2.2.1, s.2.2.2.2.2.2.2.2.2.1, (u.2.1, u.2.2.1, u.2.2.2.1, u.2.2.2.2.1, u.2.2.2.2.2.1, u.2.2.2.2.2.2.1, s.g_fonts_wishes, s.g_fonts_pins, s.g_fonts_chosen, s.g_fonts_left, s.g_fonts_coming), s.2.2.2.2.2.2.2.2.2.2.2) : CS))

def kDotP (N : Nat) (s : CS) (v0 : Int32) : Option (CS) := (ex_Interpreter_doDotPlace N s.o_interpreter s.o_interpreter_parser s.o_page v0).map (fun u => ((s.1, s.2.1, s.2.2.1, s.2.2.2.1, s.2.2.2.2.1, s.2.2.2.2.2.1, (u, s.g_page_stack, s.g_page_kept), s.2.2.2.2.2.2.2.1, s.2.2.2.2.2.2.2.2.1, s.2.2.2.2.2.2.2.2.2.1, s.2.2.2.2.2.2.2.2.2.2.1, s.2.2.2.2.2.2.2.2.2.2.2) : CS))

def kRaster (N : Nat) (s : CS) (v0 : Int32) (v1 : Int32) : Option (CS) := (ex_Interpreter_doRaster N s.o_interpreter s.o_raster s.o_page s.g_raster_seed v0 v1).map (fun u => ((s.1, s.2.1, s.2.2.1, s.2.2.2.1, s.2.2.2.2.1, s.2.2.2.2.2.1, (u.2.1, s.g_page_stack, s.g_page_kept), s.2.2.2.2.2.2.2.1, s.2.2.2.2.2.2.2.2.1, s.2.2.2.2.2.2.2.2.2.1, s.2.2.2.2.2.2.2.2.2.2.1, (u.1, u.2.2)) : CS))

def kReso (N : Nat) (s : CS) (v0 : Int32) (v1 : Int32) : Option (CS) := (ex_Interpreter_doResolution N s.o_interpreter s.o_raster v0 v1).map (fun u => ((s.1, s.2.1, s.2.2.1, s.2.2.2.1, s.2.2.2.2.1, s.2.2.2.2.2.1, s.2.2.2.2.2.2.1, s.2.2.2.2.2.2.2.1, s.2.2.2.2.2.2.2.2.1, s.2.2.2.2.2.2.2.2.2.1, s.2.2.2.2.2.2.2.2.2.2.1, (u, s.g_raster_seed)) : CS))

def kInk (N : Nat) (s : CS) (v0 : Int32) (v1 : Int32) : Option (CS) := (ex_Interpreter_doInk N s.o_interpreter s.o_sheet v0 v1).map (fun u => ((s.1, s.2.1, s.2.2.1, s.2.2.2.1, s.2.2.2.2.1, (u, s.g_sheet_marks, s.g_sheet_dots, s.n_sheet_band, s.g_sheet_band), s.2.2.2.2.2.2.1, s.2.2.2.2.2.2.2.1, s.2.2.2.2.2.2.2.2.1, s.2.2.2.2.2.2.2.2.2.1, s.2.2.2.2.2.2.2.2.2.2.1, s.2.2.2.2.2.2.2.2.2.2.2) : CS))

def kSaid (N : Nat) (s : CS) : Option (CS) := (ex_Interpreter_takeSaid N s.o_interpreter s.o_macros s.g_macros_saidActs s.g_interpreter_acts s.g_macros_saidIds s.g_interpreter_actIds s.g_interpreter_actCount s.g_interpreter_actNext).map (fun u => ((s.1, s.2.1, s.2.2.1, s.2.2.2.1, s.2.2.2.2.1, s.2.2.2.2.2.1, s.2.2.2.2.2.2.1, s.2.2.2.2.2.2.2.1, (s.o_interpreter, s.o_interpreter_parser, s.g_interpreter_at, s.g_interpreter_ends, u.2.2.2.1, u.2.2.2.2, s.g_interpreter_copies, s.g_interpreter_called, u.2.1, u.2.2.1, s.g_interpreter_parser_data), (u.1, s.g_macros_ids, s.g_macros_places, s.g_macros_lengths, s.g_macros_permanent, s.g_macros_bytes, s.n_macros_collected, s.g_macros_collected, s.g_macros_saidActs, s.g_macros_saidIds), s.2.2.2.2.2.2.2.2.2.2.1, s.2.2.2.2.2.2.2.2.2.2.2) : CS))

def kTakeB (N : Nat) (s : CS) : Option (CS × Int32) := (ex_Interpreter_takeByte N s.o_interpreter s.g_interpreter_copies s.g_interpreter_at s.o_interpreter_parser s.g_interpreter_parser_data s.o_macros s.g_macros_ids s.g_macros_places s.g_macros_lengths s.g_macros_permanent s.g_macros_bytes s.n_macros_collected s.g_macros_collected 65536 s.g_tape).map (fun u => (((s.1, s.2.1, s.2.2.1, s.2.2.2.1, s.2.2.2.2.1, s.2.2.2.2.2.1, s.2.2.2.2.2.2.1, s.2.2.2.2.2.2.2.1, (s.o_interpreter, u.2.1, u.1, s.g_interpreter_ends, s.g_interpreter_actCount, s.g_interpreter_actNext, s.g_interpreter_copies, s.g_interpreter_called, s.g_interpreter_acts, s.g_interpreter_actIds, u.2.2.1), (u.2.2.2.1, u.2.2.2.2.1, u.2.2.2.2.2.1, u.2.2.2.2.2.2.1, u.2.2.2.2.2.2.2.1, u.2.2.2.2.2.2.2.2.1, s.n_macros_collected, u.2.2.2.2.2.2.2.2.2.1, s.g_macros_saidActs, s.g_macros_saidIds), s.2.2.2.2.2.2.2.2.2.2.1, s.2.2.2.2.2.2.2.2.2.2.2) : CS), u.2.2.2.2.2.2.2.2.2.2))

def kLeave (N : Nat) (s : CS) : Option (CS) := (ex_Interpreter_leaveMacro N s.o_interpreter s.g_interpreter_called s.o_page s.g_page_stack s.g_page_kept).map (fun u => ((s.1, s.2.1, s.2.2.1, s.2.2.2.1, s.2.2.2.2.1, s.2.2.2.2.2.1, (u.2.1, u.2.2, s.g_page_kept), s.2.2.2.2.2.2.2.1, (u.1, s.o_interpreter_parser, s.g_interpreter_at, s.g_interpreter_ends, s.g_interpreter_actCount, s.g_interpreter_actNext, s.g_interpreter_copies, s.g_interpreter_called, s.g_interpreter_acts, s.g_interpreter_actIds, s.g_interpreter_parser_data), s.2.2.2.2.2.2.2.2.2.1, s.2.2.2.2.2.2.2.2.2.2.1, s.2.2.2.2.2.2.2.2.2.2.2) : CS))

def kDoAct (N : Nat) (s : CS) : Option (CS) := (ex_Interpreter_doAct N s.o_interpreter s.g_interpreter_actNext s.g_interpreter_acts s.o_macros s.g_interpreter_actIds s.g_macros_ids s.g_macros_places s.g_macros_lengths s.g_macros_permanent s.g_macros_bytes s.o_page s.g_interpreter_copies s.g_interpreter_at s.g_interpreter_ends s.g_interpreter_called s.g_interpreter_actCount s.g_page_stack s.g_page_kept).map (fun u => ((s.1, s.2.1, s.2.2.1, s.2.2.2.1, s.2.2.2.2.1, s.2.2.2.2.2.1, (s.o_page, s.g_page_stack, u.2.2.2.2.2.2.2.2.2.2.2.2.2), s.2.2.2.2.2.2.2.1, (u.1, s.o_interpreter_parser, u.2.2.2.2.2.2.2.2.2.1, u.2.2.2.2.2.2.2.2.2.2.1, u.2.2.2.2.2.2.2.2.2.2.2.2.1, u.2.1, u.2.2.2.2.2.2.2.2.1, u.2.2.2.2.2.2.2.2.2.2.2.1, s.g_interpreter_acts, s.g_interpreter_actIds, s.g_interpreter_parser_data), (u.2.2.1, u.2.2.2.1, u.2.2.2.2.1, u.2.2.2.2.2.1, u.2.2.2.2.2.2.1, u.2.2.2.2.2.2.2.1, s.n_macros_collected, s.g_macros_collected, s.g_macros_saidActs, s.g_macros_saidIds), s.2.2.2.2.2.2.2.2.2.2.1, s.2.2.2.2.2.2.2.2.2.2.2) : CS))

def kDo (N : Nat) (s : CS) (key : Int32) : Option CS := if key = 1 then kChar N s (fd_Parser_taken s.o_interpreter_parser) else (if key = 2 then kCtl N s (fd_Parser_taken s.o_interpreter_parser) else (if key = 3 then kShort N s (fd_Parser_taken s.o_interpreter_parser) else (if key = 9825 then (ex_Parser_number N s.o_interpreter_parser).bind (fun n => kPlace N s (fd_Parser_end s.o_interpreter_parser) n) else (if key = 9830 then (ex_Parser_number N s.o_interpreter_parser).bind (fun n => kStack N s (fd_Parser_end s.o_interpreter_parser) n) else (if key = 9835 then (ex_Parser_number N s.o_interpreter_parser).bind (fun n => (ex_Parser_amount N s.o_interpreter_parser).bind (fun a => kText N s (fd_Parser_end s.o_interpreter_parser) n a)) else (if key = 9836 then (ex_Parser_number N s.o_interpreter_parser).bind (fun n => (ex_Parser_amount N s.o_interpreter_parser).bind (fun a => kLayout N s (fd_Parser_end s.o_interpreter_parser) n a)) else (if key = 9843 then (ex_Parser_number N s.o_interpreter_parser).bind (fun n => kWrap N s (fd_Parser_end s.o_interpreter_parser) n) else (if key = 10240 then (ex_Parser_number N s.o_interpreter_parser).bind (fun n => kSet N s 0 (fd_Parser_end s.o_interpreter_parser) n) else (if key = 10355 then (ex_Parser_number N s.o_interpreter_parser).bind (fun n => (ex_Parser_amount N s.o_interpreter_parser).bind (fun a => kWish N s 0 (fd_Parser_end s.o_interpreter_parser) n a)) else (if key = 10496 then (ex_Parser_number N s.o_interpreter_parser).bind (fun n => kSet N s 1 (fd_Parser_end s.o_interpreter_parser) n) else (if key = 10611 then (ex_Parser_number N s.o_interpreter_parser).bind (fun n => (ex_Parser_amount N s.o_interpreter_parser).bind (fun a => kWish N s 1 (fd_Parser_end s.o_interpreter_parser) n a)) else (if key = 10850 then (ex_Parser_number N s.o_interpreter_parser).bind (fun n => kRow N s (fd_Parser_end s.o_interpreter_parser) n) else (if key = 10851 then (ex_Parser_number N s.o_interpreter_parser).bind (fun n => (ex_Parser_amount N s.o_interpreter_parser).bind (fun a => kRules N s (fd_Parser_end s.o_interpreter_parser) n a)) else (if key = 10864 then kDotP N s (fd_Parser_end s.o_interpreter_parser) else (if key = 10866 then (ex_Parser_number N s.o_interpreter_parser).bind (fun n => kRaster N s (fd_Parser_end s.o_interpreter_parser) n) else (if key = 10868 then (ex_Parser_number N s.o_interpreter_parser).bind (fun n => kReso N s (fd_Parser_end s.o_interpreter_parser) n) else (if key = 10870 then (ex_Parser_number N s.o_interpreter_parser).bind (fun n => kInk N s (fd_Parser_end s.o_interpreter_parser) n) else (some s))))))))))))))))))

theorem act32 {N : Nat} (s s1 s2 : CS) (v key : Int32) (h : kDo N s key = some s1) (h2 : (if v &&& 8 = 0 then some s1 else kSaid N s1) = some s2) : ∃ r, jn_Interpreter_act_32 N s.o_interpreter s.o_interpreter_parser s.o_page s.o_fonts s.g_fonts_ids s.g_fonts_attributes s.g_fonts_glyphs s.g_fonts_chosen s.o_macros s.g_interpreter_acts s.g_interpreter_actIds s.g_interpreter_actCount s.g_interpreter_actNext s.g_macros_saidActs s.g_macros_saidIds s.o_sheet s.g_page_stack s.g_fonts_wishes s.g_fonts_pins s.g_fonts_permanent s.g_fonts_dots s.g_fonts_coming s.g_interpreter_parser_data s.o_raster s.g_raster_seed s.g_sheet_marks s.g_sheet_dots v key = some r ∧ s2 = ((s.1, s.2.1, s.2.2.1, s.2.2.2.1, s.2.2.2.2.1, (r.2.2.2.2.2.2.2.2.2.2.2.2.2.1, r.2.2.2.2.2.2.2.2.2.2.2.2.2.2.2.2.2.2.2.2.2.2.1, r.2.2.2.2.2.2.2.2.2.2.2.2.2.2.2.2.2.2.2.2.2.2.2, s.n_sheet_band, s.g_sheet_band), (r.2.1, r.2.2.2.2.2.2.2.2.2.2.2.2.2.2.1, s.g_page_kept), s.2.2.2.2.2.2.2.1, (r.1, s.o_interpreter_parser, s.g_interpreter_at, s.g_interpreter_ends, r.2.2.2.2.2.2.2.2.2.1, r.2.2.2.2.2.2.2.2.2.2.1, s.g_interpreter_copies, s.g_interpreter_called, r.2.2.2.2.2.2.2.1, r.2.2.2.2.2.2.2.2.1, s.g_interpreter_parser_data), (r.2.2.2.2.2.2.1, s.g_macros_ids, s.g_macros_places, s.g_macros_lengths, s.g_macros_permanent, s.g_macros_bytes, s.n_macros_collected, s.g_macros_collected, r.2.2.2.2.2.2.2.2.2.2.2.1, r.2.2.2.2.2.2.2.2.2.2.2.2.1), (r.2.2.1, r.2.2.2.1, r.2.2.2.2.1, r.2.2.2.2.2.2.2.2.2.2.2.2.2.2.2.2.2.1, r.2.2.2.2.2.1, r.2.2.2.2.2.2.2.2.2.2.2.2.2.2.2.2.2.2.1, r.2.2.2.2.2.2.2.2.2.2.2.2.2.2.2.1, r.2.2.2.2.2.2.2.2.2.2.2.2.2.2.2.2.1, s.g_fonts_chosen, s.g_fonts_left, r.2.2.2.2.2.2.2.2.2.2.2.2.2.2.2.2.2.2.2.1), (r.2.2.2.2.2.2.2.2.2.2.2.2.2.2.2.2.2.2.2.2.1, r.2.2.2.2.2.2.2.2.2.2.2.2.2.2.2.2.2.2.2.2.2.1)) : CS) := by
  unfold kDo at h
  unfold jn_Interpreter_act_32
  by_cases q1 : key = 1
  · rw [if_pos q1] at h
    unfold kChar at h
    obtain ⟨r, f, e⟩ := Option.map_eq_some_iff.mp h
    subst e
    by_cases z : v &&& 8 = 0
    · rw [if_pos z] at h2
      have h9 := Option.some.inj h2
      subst h9
      exact ⟨_, (if_pos q1).trans ((bind_eq f).trans ((if_pos z))), rfl⟩
    · rw [if_neg z] at h2
      unfold kSaid at h2
      obtain ⟨r9, f9, e9⟩ := Option.map_eq_some_iff.mp h2
      subst e9
      exact ⟨_, (if_pos q1).trans ((bind_eq f).trans ((if_neg z).trans (bind_eq f9))), rfl⟩
  · rw [if_neg q1] at h
    by_cases q2 : key = 2
    · rw [if_pos q2] at h
      unfold kCtl at h
      obtain ⟨r, f, e⟩ := Option.map_eq_some_iff.mp h
      subst e
      by_cases z : v &&& 8 = 0
      · rw [if_pos z] at h2
        have h9 := Option.some.inj h2
        subst h9
        exact ⟨_, (if_neg q1).trans ((if_pos q2).trans ((bind_eq f).trans ((if_pos z)))), rfl⟩
      · rw [if_neg z] at h2
        unfold kSaid at h2
        obtain ⟨r9, f9, e9⟩ := Option.map_eq_some_iff.mp h2
        subst e9
        exact ⟨_, (if_neg q1).trans ((if_pos q2).trans ((bind_eq f).trans ((if_neg z).trans (bind_eq f9)))), rfl⟩
    · rw [if_neg q2] at h
      by_cases q3 : key = 3
      · rw [if_pos q3] at h
        unfold kShort at h
        obtain ⟨r, f, e⟩ := Option.map_eq_some_iff.mp h
        subst e
        by_cases z : v &&& 8 = 0
        · rw [if_pos z] at h2
          have h9 := Option.some.inj h2
          subst h9
          exact ⟨_, (if_neg q1).trans ((if_neg q2).trans ((if_pos q3).trans ((bind_eq f).trans ((if_pos z))))), rfl⟩
        · rw [if_neg z] at h2
          unfold kSaid at h2
          obtain ⟨r9, f9, e9⟩ := Option.map_eq_some_iff.mp h2
          subst e9
          exact ⟨_, (if_neg q1).trans ((if_neg q2).trans ((if_pos q3).trans ((bind_eq f).trans ((if_neg z).trans (bind_eq f9))))), rfl⟩
      · rw [if_neg q3] at h
        by_cases q9825 : key = 9825
        · rw [if_pos q9825] at h
          obtain ⟨n, e1, h⟩ := Option.bind_eq_some_iff.mp h
          unfold kPlace at h
          obtain ⟨r, f, e⟩ := Option.map_eq_some_iff.mp h
          subst e
          by_cases z : v &&& 8 = 0
          · rw [if_pos z] at h2
            have h9 := Option.some.inj h2
            subst h9
            exact ⟨_, (if_neg q1).trans ((if_neg q2).trans ((if_neg q3).trans ((if_pos q9825).trans ((bind_eq e1).trans ((bind_eq f).trans ((if_pos z))))))), rfl⟩
          · rw [if_neg z] at h2
            unfold kSaid at h2
            obtain ⟨r9, f9, e9⟩ := Option.map_eq_some_iff.mp h2
            subst e9
            exact ⟨_, (if_neg q1).trans ((if_neg q2).trans ((if_neg q3).trans ((if_pos q9825).trans ((bind_eq e1).trans ((bind_eq f).trans ((if_neg z).trans (bind_eq f9))))))), rfl⟩
        · rw [if_neg q9825] at h
          by_cases q9830 : key = 9830
          · rw [if_pos q9830] at h
            obtain ⟨n, e1, h⟩ := Option.bind_eq_some_iff.mp h
            unfold kStack at h
            obtain ⟨r, f, e⟩ := Option.map_eq_some_iff.mp h
            subst e
            by_cases z : v &&& 8 = 0
            · rw [if_pos z] at h2
              have h9 := Option.some.inj h2
              subst h9
              exact ⟨_, (if_neg q1).trans ((if_neg q2).trans ((if_neg q3).trans ((if_neg q9825).trans ((if_pos q9830).trans ((bind_eq e1).trans ((bind_eq f).trans ((if_pos z)))))))), rfl⟩
            · rw [if_neg z] at h2
              unfold kSaid at h2
              obtain ⟨r9, f9, e9⟩ := Option.map_eq_some_iff.mp h2
              subst e9
              exact ⟨_, (if_neg q1).trans ((if_neg q2).trans ((if_neg q3).trans ((if_neg q9825).trans ((if_pos q9830).trans ((bind_eq e1).trans ((bind_eq f).trans ((if_neg z).trans (bind_eq f9)))))))), rfl⟩
          · rw [if_neg q9830] at h
            by_cases q9835 : key = 9835
            · rw [if_pos q9835] at h
              obtain ⟨n, e1, h⟩ := Option.bind_eq_some_iff.mp h
              obtain ⟨a, e2, h⟩ := Option.bind_eq_some_iff.mp h
              unfold kText at h
              obtain ⟨r, f, e⟩ := Option.map_eq_some_iff.mp h
              subst e
              by_cases z : v &&& 8 = 0
              · rw [if_pos z] at h2
                have h9 := Option.some.inj h2
                subst h9
                exact ⟨_, (if_neg q1).trans ((if_neg q2).trans ((if_neg q3).trans ((if_neg q9825).trans ((if_neg q9830).trans ((if_pos q9835).trans ((bind_eq e1).trans ((bind_eq e2).trans ((bind_eq f).trans ((if_pos z)))))))))), rfl⟩
              · rw [if_neg z] at h2
                unfold kSaid at h2
                obtain ⟨r9, f9, e9⟩ := Option.map_eq_some_iff.mp h2
                subst e9
                exact ⟨_, (if_neg q1).trans ((if_neg q2).trans ((if_neg q3).trans ((if_neg q9825).trans ((if_neg q9830).trans ((if_pos q9835).trans ((bind_eq e1).trans ((bind_eq e2).trans ((bind_eq f).trans ((if_neg z).trans (bind_eq f9)))))))))), rfl⟩
            · rw [if_neg q9835] at h
              by_cases q9836 : key = 9836
              · rw [if_pos q9836] at h
                obtain ⟨n, e1, h⟩ := Option.bind_eq_some_iff.mp h
                obtain ⟨a, e2, h⟩ := Option.bind_eq_some_iff.mp h
                unfold kLayout at h
                obtain ⟨r, f, e⟩ := Option.map_eq_some_iff.mp h
                subst e
                by_cases z : v &&& 8 = 0
                · rw [if_pos z] at h2
                  have h9 := Option.some.inj h2
                  subst h9
                  exact ⟨_, (if_neg q1).trans ((if_neg q2).trans ((if_neg q3).trans ((if_neg q9825).trans ((if_neg q9830).trans ((if_neg q9835).trans ((if_pos q9836).trans ((bind_eq e1).trans ((bind_eq e2).trans ((bind_eq f).trans ((if_pos z))))))))))), rfl⟩
                · rw [if_neg z] at h2
                  unfold kSaid at h2
                  obtain ⟨r9, f9, e9⟩ := Option.map_eq_some_iff.mp h2
                  subst e9
                  exact ⟨_, (if_neg q1).trans ((if_neg q2).trans ((if_neg q3).trans ((if_neg q9825).trans ((if_neg q9830).trans ((if_neg q9835).trans ((if_pos q9836).trans ((bind_eq e1).trans ((bind_eq e2).trans ((bind_eq f).trans ((if_neg z).trans (bind_eq f9))))))))))), rfl⟩
              · rw [if_neg q9836] at h
                by_cases q9843 : key = 9843
                · rw [if_pos q9843] at h
                  obtain ⟨n, e1, h⟩ := Option.bind_eq_some_iff.mp h
                  unfold kWrap at h
                  obtain ⟨r, f, e⟩ := Option.map_eq_some_iff.mp h
                  subst e
                  by_cases z : v &&& 8 = 0
                  · rw [if_pos z] at h2
                    have h9 := Option.some.inj h2
                    subst h9
                    exact ⟨_, (if_neg q1).trans ((if_neg q2).trans ((if_neg q3).trans ((if_neg q9825).trans ((if_neg q9830).trans ((if_neg q9835).trans ((if_neg q9836).trans ((if_pos q9843).trans ((bind_eq e1).trans ((bind_eq f).trans ((if_pos z))))))))))), rfl⟩
                  · rw [if_neg z] at h2
                    unfold kSaid at h2
                    obtain ⟨r9, f9, e9⟩ := Option.map_eq_some_iff.mp h2
                    subst e9
                    exact ⟨_, (if_neg q1).trans ((if_neg q2).trans ((if_neg q3).trans ((if_neg q9825).trans ((if_neg q9830).trans ((if_neg q9835).trans ((if_neg q9836).trans ((if_pos q9843).trans ((bind_eq e1).trans ((bind_eq f).trans ((if_neg z).trans (bind_eq f9))))))))))), rfl⟩
                · rw [if_neg q9843] at h
                  by_cases q10240 : key = 10240
                  · rw [if_pos q10240] at h
                    obtain ⟨n, e1, h⟩ := Option.bind_eq_some_iff.mp h
                    unfold kSet at h
                    obtain ⟨r, f, e⟩ := Option.map_eq_some_iff.mp h
                    subst e
                    by_cases z : v &&& 8 = 0
                    · rw [if_pos z] at h2
                      have h9 := Option.some.inj h2
                      subst h9
                      exact ⟨_, (if_neg q1).trans ((if_neg q2).trans ((if_neg q3).trans ((if_neg q9825).trans ((if_neg q9830).trans ((if_neg q9835).trans ((if_neg q9836).trans ((if_neg q9843).trans ((if_pos q10240).trans ((bind_eq e1).trans ((bind_eq f).trans ((if_pos z)))))))))))), rfl⟩
                    · rw [if_neg z] at h2
                      unfold kSaid at h2
                      obtain ⟨r9, f9, e9⟩ := Option.map_eq_some_iff.mp h2
                      subst e9
                      exact ⟨_, (if_neg q1).trans ((if_neg q2).trans ((if_neg q3).trans ((if_neg q9825).trans ((if_neg q9830).trans ((if_neg q9835).trans ((if_neg q9836).trans ((if_neg q9843).trans ((if_pos q10240).trans ((bind_eq e1).trans ((bind_eq f).trans ((if_neg z).trans (bind_eq f9)))))))))))), rfl⟩
                  · rw [if_neg q10240] at h
                    by_cases q10355 : key = 10355
                    · rw [if_pos q10355] at h
                      obtain ⟨n, e1, h⟩ := Option.bind_eq_some_iff.mp h
                      obtain ⟨a, e2, h⟩ := Option.bind_eq_some_iff.mp h
                      unfold kWish at h
                      obtain ⟨r, f, e⟩ := Option.map_eq_some_iff.mp h
                      subst e
                      by_cases z : v &&& 8 = 0
                      · rw [if_pos z] at h2
                        have h9 := Option.some.inj h2
                        subst h9
                        exact ⟨_, (if_neg q1).trans ((if_neg q2).trans ((if_neg q3).trans ((if_neg q9825).trans ((if_neg q9830).trans ((if_neg q9835).trans ((if_neg q9836).trans ((if_neg q9843).trans ((if_neg q10240).trans ((if_pos q10355).trans ((bind_eq e1).trans ((bind_eq e2).trans ((bind_eq f).trans ((if_pos z)))))))))))))), rfl⟩
                      · rw [if_neg z] at h2
                        unfold kSaid at h2
                        obtain ⟨r9, f9, e9⟩ := Option.map_eq_some_iff.mp h2
                        subst e9
                        exact ⟨_, (if_neg q1).trans ((if_neg q2).trans ((if_neg q3).trans ((if_neg q9825).trans ((if_neg q9830).trans ((if_neg q9835).trans ((if_neg q9836).trans ((if_neg q9843).trans ((if_neg q10240).trans ((if_pos q10355).trans ((bind_eq e1).trans ((bind_eq e2).trans ((bind_eq f).trans ((if_neg z).trans (bind_eq f9)))))))))))))), rfl⟩
                    · rw [if_neg q10355] at h
                      by_cases q10496 : key = 10496
                      · rw [if_pos q10496] at h
                        obtain ⟨n, e1, h⟩ := Option.bind_eq_some_iff.mp h
                        unfold kSet at h
                        obtain ⟨r, f, e⟩ := Option.map_eq_some_iff.mp h
                        subst e
                        by_cases z : v &&& 8 = 0
                        · rw [if_pos z] at h2
                          have h9 := Option.some.inj h2
                          subst h9
                          exact ⟨_, (if_neg q1).trans ((if_neg q2).trans ((if_neg q3).trans ((if_neg q9825).trans ((if_neg q9830).trans ((if_neg q9835).trans ((if_neg q9836).trans ((if_neg q9843).trans ((if_neg q10240).trans ((if_neg q10355).trans ((if_pos q10496).trans ((bind_eq e1).trans ((bind_eq f).trans ((if_pos z)))))))))))))), rfl⟩
                        · rw [if_neg z] at h2
                          unfold kSaid at h2
                          obtain ⟨r9, f9, e9⟩ := Option.map_eq_some_iff.mp h2
                          subst e9
                          exact ⟨_, (if_neg q1).trans ((if_neg q2).trans ((if_neg q3).trans ((if_neg q9825).trans ((if_neg q9830).trans ((if_neg q9835).trans ((if_neg q9836).trans ((if_neg q9843).trans ((if_neg q10240).trans ((if_neg q10355).trans ((if_pos q10496).trans ((bind_eq e1).trans ((bind_eq f).trans ((if_neg z).trans (bind_eq f9)))))))))))))), rfl⟩
                      · rw [if_neg q10496] at h
                        by_cases q10611 : key = 10611
                        · rw [if_pos q10611] at h
                          obtain ⟨n, e1, h⟩ := Option.bind_eq_some_iff.mp h
                          obtain ⟨a, e2, h⟩ := Option.bind_eq_some_iff.mp h
                          unfold kWish at h
                          obtain ⟨r, f, e⟩ := Option.map_eq_some_iff.mp h
                          subst e
                          by_cases z : v &&& 8 = 0
                          · rw [if_pos z] at h2
                            have h9 := Option.some.inj h2
                            subst h9
                            exact ⟨_, (if_neg q1).trans ((if_neg q2).trans ((if_neg q3).trans ((if_neg q9825).trans ((if_neg q9830).trans ((if_neg q9835).trans ((if_neg q9836).trans ((if_neg q9843).trans ((if_neg q10240).trans ((if_neg q10355).trans ((if_neg q10496).trans ((if_pos q10611).trans ((bind_eq e1).trans ((bind_eq e2).trans ((bind_eq f).trans ((if_pos z)))))))))))))))), rfl⟩
                          · rw [if_neg z] at h2
                            unfold kSaid at h2
                            obtain ⟨r9, f9, e9⟩ := Option.map_eq_some_iff.mp h2
                            subst e9
                            exact ⟨_, (if_neg q1).trans ((if_neg q2).trans ((if_neg q3).trans ((if_neg q9825).trans ((if_neg q9830).trans ((if_neg q9835).trans ((if_neg q9836).trans ((if_neg q9843).trans ((if_neg q10240).trans ((if_neg q10355).trans ((if_neg q10496).trans ((if_pos q10611).trans ((bind_eq e1).trans ((bind_eq e2).trans ((bind_eq f).trans ((if_neg z).trans (bind_eq f9)))))))))))))))), rfl⟩
                        · rw [if_neg q10611] at h
                          by_cases q10850 : key = 10850
                          · rw [if_pos q10850] at h
                            obtain ⟨n, e1, h⟩ := Option.bind_eq_some_iff.mp h
                            unfold kRow at h
                            obtain ⟨r, f, e⟩ := Option.map_eq_some_iff.mp h
                            subst e
                            by_cases z : v &&& 8 = 0
                            · rw [if_pos z] at h2
                              have h9 := Option.some.inj h2
                              subst h9
                              exact ⟨_, (if_neg q1).trans ((if_neg q2).trans ((if_neg q3).trans ((if_neg q9825).trans ((if_neg q9830).trans ((if_neg q9835).trans ((if_neg q9836).trans ((if_neg q9843).trans ((if_neg q10240).trans ((if_neg q10355).trans ((if_neg q10496).trans ((if_neg q10611).trans ((if_pos q10850).trans ((bind_eq e1).trans ((bind_eq f).trans ((if_pos z)))))))))))))))), rfl⟩
                            · rw [if_neg z] at h2
                              unfold kSaid at h2
                              obtain ⟨r9, f9, e9⟩ := Option.map_eq_some_iff.mp h2
                              subst e9
                              exact ⟨_, (if_neg q1).trans ((if_neg q2).trans ((if_neg q3).trans ((if_neg q9825).trans ((if_neg q9830).trans ((if_neg q9835).trans ((if_neg q9836).trans ((if_neg q9843).trans ((if_neg q10240).trans ((if_neg q10355).trans ((if_neg q10496).trans ((if_neg q10611).trans ((if_pos q10850).trans ((bind_eq e1).trans ((bind_eq f).trans ((if_neg z).trans (bind_eq f9)))))))))))))))), rfl⟩
                          · rw [if_neg q10850] at h
                            by_cases q10851 : key = 10851
                            · rw [if_pos q10851] at h
                              obtain ⟨n, e1, h⟩ := Option.bind_eq_some_iff.mp h
                              obtain ⟨a, e2, h⟩ := Option.bind_eq_some_iff.mp h
                              unfold kRules at h
                              obtain ⟨r, f, e⟩ := Option.map_eq_some_iff.mp h
                              subst e
                              by_cases z : v &&& 8 = 0
                              · rw [if_pos z] at h2
                                have h9 := Option.some.inj h2
                                subst h9
                                exact ⟨_, (if_neg q1).trans ((if_neg q2).trans ((if_neg q3).trans ((if_neg q9825).trans ((if_neg q9830).trans ((if_neg q9835).trans ((if_neg q9836).trans ((if_neg q9843).trans ((if_neg q10240).trans ((if_neg q10355).trans ((if_neg q10496).trans ((if_neg q10611).trans ((if_neg q10850).trans ((if_pos q10851).trans ((bind_eq e1).trans ((bind_eq e2).trans ((bind_eq f).trans ((if_pos z)))))))))))))))))), rfl⟩
                              · rw [if_neg z] at h2
                                unfold kSaid at h2
                                obtain ⟨r9, f9, e9⟩ := Option.map_eq_some_iff.mp h2
                                subst e9
                                exact ⟨_, (if_neg q1).trans ((if_neg q2).trans ((if_neg q3).trans ((if_neg q9825).trans ((if_neg q9830).trans ((if_neg q9835).trans ((if_neg q9836).trans ((if_neg q9843).trans ((if_neg q10240).trans ((if_neg q10355).trans ((if_neg q10496).trans ((if_neg q10611).trans ((if_neg q10850).trans ((if_pos q10851).trans ((bind_eq e1).trans ((bind_eq e2).trans ((bind_eq f).trans ((if_neg z).trans (bind_eq f9)))))))))))))))))), rfl⟩
                            · rw [if_neg q10851] at h
                              by_cases q10864 : key = 10864
                              · rw [if_pos q10864] at h
                                unfold kDotP at h
                                obtain ⟨r, f, e⟩ := Option.map_eq_some_iff.mp h
                                subst e
                                by_cases z : v &&& 8 = 0
                                · rw [if_pos z] at h2
                                  have h9 := Option.some.inj h2
                                  subst h9
                                  exact ⟨_, (if_neg q1).trans ((if_neg q2).trans ((if_neg q3).trans ((if_neg q9825).trans ((if_neg q9830).trans ((if_neg q9835).trans ((if_neg q9836).trans ((if_neg q9843).trans ((if_neg q10240).trans ((if_neg q10355).trans ((if_neg q10496).trans ((if_neg q10611).trans ((if_neg q10850).trans ((if_neg q10851).trans ((if_pos q10864).trans ((bind_eq f).trans ((if_pos z))))))))))))))))), rfl⟩
                                · rw [if_neg z] at h2
                                  unfold kSaid at h2
                                  obtain ⟨r9, f9, e9⟩ := Option.map_eq_some_iff.mp h2
                                  subst e9
                                  exact ⟨_, (if_neg q1).trans ((if_neg q2).trans ((if_neg q3).trans ((if_neg q9825).trans ((if_neg q9830).trans ((if_neg q9835).trans ((if_neg q9836).trans ((if_neg q9843).trans ((if_neg q10240).trans ((if_neg q10355).trans ((if_neg q10496).trans ((if_neg q10611).trans ((if_neg q10850).trans ((if_neg q10851).trans ((if_pos q10864).trans ((bind_eq f).trans ((if_neg z).trans (bind_eq f9))))))))))))))))), rfl⟩
                              · rw [if_neg q10864] at h
                                by_cases q10866 : key = 10866
                                · rw [if_pos q10866] at h
                                  obtain ⟨n, e1, h⟩ := Option.bind_eq_some_iff.mp h
                                  unfold kRaster at h
                                  obtain ⟨r, f, e⟩ := Option.map_eq_some_iff.mp h
                                  subst e
                                  by_cases z : v &&& 8 = 0
                                  · rw [if_pos z] at h2
                                    have h9 := Option.some.inj h2
                                    subst h9
                                    exact ⟨_, (if_neg q1).trans ((if_neg q2).trans ((if_neg q3).trans ((if_neg q9825).trans ((if_neg q9830).trans ((if_neg q9835).trans ((if_neg q9836).trans ((if_neg q9843).trans ((if_neg q10240).trans ((if_neg q10355).trans ((if_neg q10496).trans ((if_neg q10611).trans ((if_neg q10850).trans ((if_neg q10851).trans ((if_neg q10864).trans ((if_pos q10866).trans ((bind_eq e1).trans ((bind_eq f).trans ((if_pos z))))))))))))))))))), rfl⟩
                                  · rw [if_neg z] at h2
                                    unfold kSaid at h2
                                    obtain ⟨r9, f9, e9⟩ := Option.map_eq_some_iff.mp h2
                                    subst e9
                                    exact ⟨_, (if_neg q1).trans ((if_neg q2).trans ((if_neg q3).trans ((if_neg q9825).trans ((if_neg q9830).trans ((if_neg q9835).trans ((if_neg q9836).trans ((if_neg q9843).trans ((if_neg q10240).trans ((if_neg q10355).trans ((if_neg q10496).trans ((if_neg q10611).trans ((if_neg q10850).trans ((if_neg q10851).trans ((if_neg q10864).trans ((if_pos q10866).trans ((bind_eq e1).trans ((bind_eq f).trans ((if_neg z).trans (bind_eq f9))))))))))))))))))), rfl⟩
                                · rw [if_neg q10866] at h
                                  by_cases q10868 : key = 10868
                                  · rw [if_pos q10868] at h
                                    obtain ⟨n, e1, h⟩ := Option.bind_eq_some_iff.mp h
                                    unfold kReso at h
                                    obtain ⟨r, f, e⟩ := Option.map_eq_some_iff.mp h
                                    subst e
                                    by_cases z : v &&& 8 = 0
                                    · rw [if_pos z] at h2
                                      have h9 := Option.some.inj h2
                                      subst h9
                                      exact ⟨_, (if_neg q1).trans ((if_neg q2).trans ((if_neg q3).trans ((if_neg q9825).trans ((if_neg q9830).trans ((if_neg q9835).trans ((if_neg q9836).trans ((if_neg q9843).trans ((if_neg q10240).trans ((if_neg q10355).trans ((if_neg q10496).trans ((if_neg q10611).trans ((if_neg q10850).trans ((if_neg q10851).trans ((if_neg q10864).trans ((if_neg q10866).trans ((if_pos q10868).trans ((bind_eq e1).trans ((bind_eq f).trans ((if_pos z)))))))))))))))))))), rfl⟩
                                    · rw [if_neg z] at h2
                                      unfold kSaid at h2
                                      obtain ⟨r9, f9, e9⟩ := Option.map_eq_some_iff.mp h2
                                      subst e9
                                      exact ⟨_, (if_neg q1).trans ((if_neg q2).trans ((if_neg q3).trans ((if_neg q9825).trans ((if_neg q9830).trans ((if_neg q9835).trans ((if_neg q9836).trans ((if_neg q9843).trans ((if_neg q10240).trans ((if_neg q10355).trans ((if_neg q10496).trans ((if_neg q10611).trans ((if_neg q10850).trans ((if_neg q10851).trans ((if_neg q10864).trans ((if_neg q10866).trans ((if_pos q10868).trans ((bind_eq e1).trans ((bind_eq f).trans ((if_neg z).trans (bind_eq f9)))))))))))))))))))), rfl⟩
                                  · rw [if_neg q10868] at h
                                    by_cases q10870 : key = 10870
                                    · rw [if_pos q10870] at h
                                      obtain ⟨n, e1, h⟩ := Option.bind_eq_some_iff.mp h
                                      unfold kInk at h
                                      obtain ⟨r, f, e⟩ := Option.map_eq_some_iff.mp h
                                      subst e
                                      by_cases z : v &&& 8 = 0
                                      · rw [if_pos z] at h2
                                        have h9 := Option.some.inj h2
                                        subst h9
                                        exact ⟨_, (if_neg q1).trans ((if_neg q2).trans ((if_neg q3).trans ((if_neg q9825).trans ((if_neg q9830).trans ((if_neg q9835).trans ((if_neg q9836).trans ((if_neg q9843).trans ((if_neg q10240).trans ((if_neg q10355).trans ((if_neg q10496).trans ((if_neg q10611).trans ((if_neg q10850).trans ((if_neg q10851).trans ((if_neg q10864).trans ((if_neg q10866).trans ((if_neg q10868).trans ((if_pos q10870).trans ((bind_eq e1).trans ((bind_eq f).trans ((if_pos z))))))))))))))))))))), rfl⟩
                                      · rw [if_neg z] at h2
                                        unfold kSaid at h2
                                        obtain ⟨r9, f9, e9⟩ := Option.map_eq_some_iff.mp h2
                                        subst e9
                                        exact ⟨_, (if_neg q1).trans ((if_neg q2).trans ((if_neg q3).trans ((if_neg q9825).trans ((if_neg q9830).trans ((if_neg q9835).trans ((if_neg q9836).trans ((if_neg q9843).trans ((if_neg q10240).trans ((if_neg q10355).trans ((if_neg q10496).trans ((if_neg q10611).trans ((if_neg q10850).trans ((if_neg q10851).trans ((if_neg q10864).trans ((if_neg q10866).trans ((if_neg q10868).trans ((if_pos q10870).trans ((bind_eq e1).trans ((bind_eq f).trans ((if_neg z).trans (bind_eq f9))))))))))))))))))))), rfl⟩
                                    · rw [if_neg q10870] at h
                                      have h8 := Option.some.inj h
                                      subst h8
                                      by_cases z : v &&& 8 = 0
                                      · rw [if_pos z] at h2
                                        have h9 := Option.some.inj h2
                                        subst h9
                                        exact ⟨_, (if_neg q1).trans ((if_neg q2).trans ((if_neg q3).trans ((if_neg q9825).trans ((if_neg q9830).trans ((if_neg q9835).trans ((if_neg q9836).trans ((if_neg q9843).trans ((if_neg q10240).trans ((if_neg q10355).trans ((if_neg q10496).trans ((if_neg q10611).trans ((if_neg q10850).trans ((if_neg q10851).trans ((if_neg q10864).trans ((if_neg q10866).trans ((if_neg q10868).trans ((if_neg q10870).trans ((if_pos z))))))))))))))))))), rfl⟩
                                      · rw [if_neg z] at h2
                                        unfold kSaid at h2
                                        obtain ⟨r9, f9, e9⟩ := Option.map_eq_some_iff.mp h2
                                        subst e9
                                        exact ⟨_, (if_neg q1).trans ((if_neg q2).trans ((if_neg q3).trans ((if_neg q9825).trans ((if_neg q9830).trans ((if_neg q9835).trans ((if_neg q9836).trans ((if_neg q9843).trans ((if_neg q10240).trans ((if_neg q10355).trans ((if_neg q10496).trans ((if_neg q10611).trans ((if_neg q10850).trans ((if_neg q10851).trans ((if_neg q10864).trans ((if_neg q10866).trans ((if_neg q10868).trans ((if_neg q10870).trans ((if_neg z).trans (bind_eq f9))))))))))))))))))), rfl⟩

theorem kAct_eq {N : Nat} (s s1 s2 : CS) (v : Int32) (h : kDo N s (if v &&& 7 = 4 then (fd_Parser_family s.o_interpreter_parser <<< ((8 : Int32) &&& 31)) ||| fd_Parser_group s.o_interpreter_parser else v &&& 7) = some s1) (h2 : (if v &&& 8 = 0 then some s1 else kSaid N s1) = some s2) : kAct N s v = some s2 := by
  obtain ⟨r, g1, g2⟩ := act32 s s1 s2 v _ h h2
  unfold kAct
  refine Option.map_eq_some_iff.mpr ⟨r, ?_, g2.symm⟩
  unfold ex_Interpreter_act
  by_cases q : v &&& 7 = 4
  · rw [if_pos q] at g1 ⊢; exact g1
  · rw [if_neg q] at g1 ⊢; exact g1
def kPut (s : CS) (at_ : Nat → Int32) (o : ob_Parser) (gd : Nat → Int32) : CS := ((s.1, s.2.1, s.2.2.1, s.2.2.2.1, s.2.2.2.2.1, s.2.2.2.2.2.1, s.2.2.2.2.2.2.1, s.2.2.2.2.2.2.2.1, (s.o_interpreter, o, at_, s.g_interpreter_ends, s.g_interpreter_actCount, s.g_interpreter_actNext, s.g_interpreter_copies, s.g_interpreter_called, s.g_interpreter_acts, s.g_interpreter_actIds, gd), s.2.2.2.2.2.2.2.2.2.1, s.2.2.2.2.2.2.2.2.2.2.1, s.2.2.2.2.2.2.2.2.2.2.2) : CS)
def kCol (s : CS) (at_ : Nat → Int32) (u : rs_Macros_collect) : CS := ((s.1, s.2.1, s.2.2.1, s.2.2.2.1, s.2.2.2.2.1, s.2.2.2.2.2.1, s.2.2.2.2.2.2.1, s.2.2.2.2.2.2.2.1, (s.o_interpreter, s.o_interpreter_parser, at_, s.g_interpreter_ends, s.g_interpreter_actCount, s.g_interpreter_actNext, s.g_interpreter_copies, s.g_interpreter_called, s.g_interpreter_acts, s.g_interpreter_actIds, s.g_interpreter_parser_data), (u.1, u.2.2.1, u.2.2.2.1, u.2.2.2.2.1, u.2.2.2.2.2.1, u.2.2.2.2.2.2, s.n_macros_collected, u.2.1, s.g_macros_saidActs, s.g_macros_saidIds), s.2.2.2.2.2.2.2.2.2.2.1, s.2.2.2.2.2.2.2.2.2.2.2) : CS)
theorem kn_head {N lv : Nat} {s : CS} (hl : fd_Interpreter_level s.o_interpreter = nI lv) (hlv : lv ≤ 2) : ¬ fd_Interpreter_level s.o_interpreter < 0 ∧ fd_Interpreter_level s.o_interpreter ≤ 2 ∧ dk_in (fd_Interpreter_level s.o_interpreter) 3 ∧ (fd_Interpreter_level s.o_interpreter).toNatClampNeg = lv := by
  rw [hl]
  exact ⟨nI_pos (by omega), nI_le (b := 2) hlv (by omega), dk_in_nI (by omega) (by omega), nI_clamp (by omega)⟩
theorem kn_byte {N lv a z b : Nat} {s : CS} {o' : ob_Parser} {gd' : Nat → Int32} {ev : Int32} (hl : fd_Interpreter_level s.o_interpreter = nI lv) (hlv : lv ≤ 2) (hac : s.g_interpreter_actCount lv ≤ s.g_interpreter_actNext lv) (ha : s.g_interpreter_at lv = nI a) (hz : s.g_interpreter_ends lv = nI z) (haz : a < z) (hzz : z ≤ 65536) (h0 : lv = 0 → s.g_tape a &&& 255 = nI b ∧ fd_Macros_reading s.o_macros = 0) (h1 : lv ≠ 0 → z ≤ 32768 ∧ s.g_interpreter_copies a &&& 255 = nI b) (ht : ex_Parser_take N s.o_interpreter_parser s.g_interpreter_parser_data (nI b) = some (o', gd', ev)) :
    kNext N s = some (kPut s (if ev &&& 16 = 0 then upd s.g_interpreter_at lv (nI (a + 1)) else s.g_interpreter_at) o' gd', ev) := by
  obtain ⟨q1, q2, q3, q4⟩ := kn_head (N := N) hl hlv
  have hA : s.g_interpreter_at (fd_Interpreter_level s.o_interpreter).toNatClampNeg = nI a := by rw [q4]; exact ha
  have hac' : s.g_interpreter_actCount (fd_Interpreter_level s.o_interpreter).toNatClampNeg ≤ s.g_interpreter_actNext (fd_Interpreter_level s.o_interpreter).toNatClampNeg := by rw [q4]; exact hac
  have q5 : ¬ s.g_interpreter_ends (fd_Interpreter_level s.o_interpreter).toNatClampNeg ≤ s.g_interpreter_at (fd_Interpreter_level s.o_interpreter).toNatClampNeg := by rw [hA, q4, hz]; exact nI_ge haz (by omega)
  have q6 : ¬ s.g_interpreter_at (fd_Interpreter_level s.o_interpreter).toNatClampNeg < 0 := by rw [hA]; exact nI_pos (by omega)
  have q7 : (s.g_interpreter_at (fd_Interpreter_level s.o_interpreter).toNatClampNeg).toNatClampNeg = a := by rw [hA]; exact nI_clamp (by omega)
  have tb : ∃ r, ex_Interpreter_takeByte N s.o_interpreter s.g_interpreter_copies s.g_interpreter_at s.o_interpreter_parser s.g_interpreter_parser_data s.o_macros s.g_macros_ids s.g_macros_places s.g_macros_lengths s.g_macros_permanent s.g_macros_bytes s.n_macros_collected s.g_macros_collected 65536 s.g_tape = some r ∧ r = (if ev &&& 16 = 0 then upd s.g_interpreter_at lv (nI (a + 1)) else s.g_interpreter_at, o', gd', s.o_macros, s.g_macros_ids, s.g_macros_places, s.g_macros_lengths, s.g_macros_permanent, s.g_macros_bytes, s.g_macros_collected, ev) := by
    refine ⟨_, ?_, rfl⟩
    unfold ex_Interpreter_takeByte
    by_cases w : lv = 0
    · have w0 : fd_Interpreter_level s.o_interpreter = 0 := by rw [hl, w]; rfl
      obtain ⟨h01, h02⟩ := h0 w
      rw [if_pos w0, if_pos q3, if_neg q6, if_neg (by rw [hA]; exact nI_ge (b := 65536) (by omega) (by omega)), if_pos (by rw [hA]; exact dk_in_nI (by omega) (by omega)), q7]
      simp only [dk_let]
      rw [if_pos w0, if_pos h02, h01, ht]
      simp only [Option.bind_some]
      rw [if_pos q3, if_pos q3, hA, nI_1, q4]
      by_cases z : ev &&& 16 = 0
      · rw [if_pos z, if_pos z]
      · rw [if_neg z, if_neg z]
    · have w0 : ¬ fd_Interpreter_level s.o_interpreter = 0 := by rw [hl]; exact mt (nI_eq (b := 0) (by omega) (by omega)).mp w
      obtain ⟨h01, h02⟩ := h1 w
      rw [if_neg w0, if_pos q3, if_neg q6, if_neg (by rw [hA]; exact nI_ge (b := 32768) (by omega) (by omega)), if_pos (by rw [hA]; exact dk_in_nI (by omega) (by omega)), q7]
      simp only [dk_let]
      rw [if_neg w0, h02, ht]
      simp only [Option.bind_some]
      rw [if_pos q3, if_pos q3, hA, nI_1, q4]
      by_cases z : ev &&& 16 = 0
      · rw [if_pos z, if_pos z]
      · rw [if_neg z, if_neg z]
  obtain ⟨r, t1, t2⟩ := tb
  unfold kNext
  refine Option.map_eq_some_iff.mpr ⟨(s.o_interpreter, s.g_interpreter_actNext, s.g_interpreter_actCount, r.1, s.g_interpreter_ends, s.o_page, s.g_interpreter_called, s.g_page_stack, s.g_page_kept, r.2.2.2.1, r.2.1, s.g_interpreter_copies, r.2.2.1, r.2.2.2.2.1, r.2.2.2.2.2.1, r.2.2.2.2.2.2.1, r.2.2.2.2.2.2.2.1, r.2.2.2.2.2.2.2.2.1, r.2.2.2.2.2.2.2.2.2.1, r.2.2.2.2.2.2.2.2.2.2), ?_, ?_⟩
  · unfold ex_Interpreter_next
    rw [if_neg q1, if_pos q2, if_pos q3, if_pos q3, if_pos hac', if_pos q3, if_pos q3, if_neg q5]
    exact bind_eq t1
  · rw [t2]; rfl
theorem kn_coll {N a z b : Nat} {s : CS} {u : rs_Macros_collect} (hl : fd_Interpreter_level s.o_interpreter = 0) (hac : s.g_interpreter_actCount 0 ≤ s.g_interpreter_actNext 0) (ha : s.g_interpreter_at 0 = nI a) (hz : s.g_interpreter_ends 0 = nI z) (haz : a < z) (hzz : z ≤ 65536) (hb : s.g_tape a &&& 255 = nI b) (hr : ¬ fd_Macros_reading s.o_macros = 0) (ht : ex_Macros_collect N s.o_macros s.n_macros_collected s.g_macros_collected s.g_macros_ids s.g_macros_places s.g_macros_lengths s.g_macros_permanent s.g_macros_bytes (nI b) = some u) :
    kNext N s = some (kCol s (upd s.g_interpreter_at 0 (nI (a + 1))) u, 0) := by
  obtain ⟨q1, q2, q3, q4⟩ := kn_head (N := N) (lv := 0) hl (by omega)
  have hA : s.g_interpreter_at (fd_Interpreter_level s.o_interpreter).toNatClampNeg = nI a := by rw [q4]; exact ha
  have hac' : s.g_interpreter_actCount (fd_Interpreter_level s.o_interpreter).toNatClampNeg ≤ s.g_interpreter_actNext (fd_Interpreter_level s.o_interpreter).toNatClampNeg := by rw [q4]; exact hac
  have q5 : ¬ s.g_interpreter_ends (fd_Interpreter_level s.o_interpreter).toNatClampNeg ≤ s.g_interpreter_at (fd_Interpreter_level s.o_interpreter).toNatClampNeg := by rw [hA, q4, hz]; exact nI_ge haz (by omega)
  have q6 : ¬ s.g_interpreter_at (fd_Interpreter_level s.o_interpreter).toNatClampNeg < 0 := by rw [hA]; exact nI_pos (by omega)
  have q7 : (s.g_interpreter_at (fd_Interpreter_level s.o_interpreter).toNatClampNeg).toNatClampNeg = a := by rw [hA]; exact nI_clamp (by omega)
  have tb : ∃ r, ex_Interpreter_takeByte N s.o_interpreter s.g_interpreter_copies s.g_interpreter_at s.o_interpreter_parser s.g_interpreter_parser_data s.o_macros s.g_macros_ids s.g_macros_places s.g_macros_lengths s.g_macros_permanent s.g_macros_bytes s.n_macros_collected s.g_macros_collected 65536 s.g_tape = some r ∧ r = (upd s.g_interpreter_at 0 (nI (a + 1)), s.o_interpreter_parser, s.g_interpreter_parser_data, u.1, u.2.2.1, u.2.2.2.1, u.2.2.2.2.1, u.2.2.2.2.2.1, u.2.2.2.2.2.2, u.2.1, 0) := by
    refine ⟨_, ?_, rfl⟩
    unfold ex_Interpreter_takeByte
    rw [if_pos hl, if_pos q3, if_neg q6, if_neg (by rw [hA]; exact nI_ge (b := 65536) (by omega) (by omega)), if_pos (by rw [hA]; exact dk_in_nI (by omega) (by omega)), q7]
    simp only [dk_let]
    rw [if_pos hl, if_neg hr, if_pos q3, if_pos q3, hb, ht, hA, nI_1, q4]
    rfl
  obtain ⟨r, t1, t2⟩ := tb
  unfold kNext
  refine Option.map_eq_some_iff.mpr ⟨(s.o_interpreter, s.g_interpreter_actNext, s.g_interpreter_actCount, r.1, s.g_interpreter_ends, s.o_page, s.g_interpreter_called, s.g_page_stack, s.g_page_kept, r.2.2.2.1, r.2.1, s.g_interpreter_copies, r.2.2.1, r.2.2.2.2.1, r.2.2.2.2.2.1, r.2.2.2.2.2.2.1, r.2.2.2.2.2.2.2.1, r.2.2.2.2.2.2.2.2.1, r.2.2.2.2.2.2.2.2.2.1, r.2.2.2.2.2.2.2.2.2.2), ?_, ?_⟩
  · unfold ex_Interpreter_next
    rw [if_neg q1, if_pos q2, if_pos q3, if_pos q3, if_pos hac', if_pos q3, if_pos q3, if_neg q5]
    exact bind_eq t1
  · rw [t2]; rfl
def cm0 (om : ob_mDesk) : ob_mDesk := fs_mDesk_came (fs_mDesk_bytesCame om (fd_mDesk_bytesCame om + 1)) 0
theorem cm_4 {N : Nat} {om : ob_mDesk} {g gp st gg go gs : Nat → Int32} {v : Int32} (h : fd_mDesk_phase om = 4) : ex_mDesk_comes N om g gp st gg go gs v = (ex_mDesk_datum N (cm0 om) go gs g st gg gp v).bind (fun u => some (u.1, u.2.2.2.1, u.2.2.2.2.2, u.2.2.2.2.1, u.2.1, u.2.2.1)) := by
  unfold ex_mDesk_comes; rw [if_pos h]; rfl
theorem cm_1 {N : Nat} {om : ob_mDesk} {g gp st gg go gs : Nat → Int32} {v : Int32} (h : fd_mDesk_phase om = 1) : ex_mDesk_comes N om g gp st gg go gs v = (ex_mDesk_behindEsc N (cm0 om) g gp v).bind (fun u => some (u.1, u.2.1, u.2.2, gg, go, gs)) := by
  unfold ex_mDesk_comes; rw [if_neg (by rw [h]; decide), if_pos h]; rfl
theorem cm_0 {N b : Nat} {om : ob_mDesk} {g gp st gg go gs : Nat → Int32} (h : fd_mDesk_phase om = 0) (hb : b < 256) : ex_mDesk_comes N om g gp st gg go gs (nI b) = if b = 27 then some (cm0 (fs_mDesk_phase om 1), g, gp, gg, go, gs) else if b < 32 then (ex_mDesk_control N (cm0 om) g gp (nI b)).bind (fun u => some (u.1, u.2.1, u.2.2, gg, go, gs)) else (ex_mDesk_character N (cm0 om) st g gp gg (nI b)).bind (fun u => some (u.1, u.2.1, u.2.2.1, u.2.2.2, go, gs)) := by
  unfold ex_mDesk_comes
  rw [if_neg (by rw [h]; decide), if_neg (by rw [h]; decide), if_neg (by rw [h]; decide), if_pos (by rw [h]; decide)]
  by_cases q : b = 27
  · rw [if_pos q, if_pos (show nI b = 27 from (nI_eq (b := 27) (by omega) (by omega)).mpr q)]; rfl
  · rw [if_neg q, if_neg (show ¬ nI b = 27 from mt (nI_eq (b := 27) (by omega) (by omega)).mp q)]
    by_cases q2 : b < 32
    · rw [if_pos q2, if_pos (show nI b < 32 from nI_lt (b := 32) q2 (by omega))]; rfl
    · rw [if_neg q2, if_neg (show ¬ nI b < 32 from nI_nlt (b := 32) (by omega) (by omega))]; rfl
theorem cm_2g {N b : Nat} {om : ob_mDesk} {g gp st gg go gs : Nat → Int32} (h : fd_mDesk_phase om = 2) (hb : 96 ≤ b ∧ b ≤ 126) : ex_mDesk_comes N om g gp st gg go gs (nI b) = some (mBeg (cm0 (fs_mDesk_group (fs_mDesk_phase om 3) (nI b))), g, gp, gg, go, gs) := by
  unfold ex_mDesk_comes
  rw [if_neg (by rw [h]; decide), if_neg (by rw [h]; decide), if_pos h, if_neg (show ¬ nI b < 96 from nI_nlt (b := 96) (by omega) (by omega)), if_neg (show ¬ (126 : Int32) < nI b from nI_nlt (a := 126) (by omega) (by omega))]; rfl
theorem cm_2 {N b : Nat} {om : ob_mDesk} {g gp st gg go gs : Nat → Int32} (h : fd_mDesk_phase om = 2) (hb : b < 256) (hn : ¬ (96 ≤ b ∧ b ≤ 126)) : ex_mDesk_comes N om g gp st gg go gs (nI b) = (ex_mDesk_field N (mBeg (cm0 (fs_mDesk_phase om 3))) g gp go (nI b)).bind (fun u => some (u.1, u.2.1, u.2.2.1, gg, u.2.2.2, gs)) := by
  unfold ex_mDesk_comes
  rw [if_neg (by rw [h]; decide), if_neg (by rw [h]; decide), if_pos h]
  by_cases q : b < 96
  · rw [if_pos (show nI b < 96 from nI_lt (b := 96) q (by omega)), if_neg (by rw [h]; decide), if_pos h]; rfl
  · rw [if_neg (show ¬ nI b < 96 from nI_nlt (b := 96) (by omega) (by omega)), if_pos (show (126 : Int32) < nI b from nI_lt (a := 126) (by omega) (by omega)), if_neg (by rw [h]; decide), if_pos h]; rfl
theorem cm_3 {N : Nat} {om : ob_mDesk} {g gp st gg go gs : Nat → Int32} {v : Int32} (h : fd_mDesk_phase om = 3) : ex_mDesk_comes N om g gp st gg go gs v = (ex_mDesk_field N (cm0 om) g gp go v).bind (fun u => some (u.1, u.2.1, u.2.2.1, gg, u.2.2.2, gs)) := by
  unfold ex_mDesk_comes
  rw [if_neg (by rw [h]; decide), if_neg (by rw [h]; decide), if_neg (by rw [h]; decide), if_neg (by rw [h]; decide), if_neg (by rw [h]; decide)]; rfl
theorem be_go {N b : Nat} {om : ob_mDesk} {g gp : Nat → Int32} (hb : b < 256) : ex_mDesk_behindEsc N om g gp (nI b) = if b = 27 then some (fs_mDesk_phase om 1, g, gp) else if 33 ≤ b ∧ b ≤ 47 then some (fs_mDesk_group (fs_mDesk_family (fs_mDesk_phase om 2) (nI b)) 0, g, gp) else if 48 ≤ b ∧ b ≤ 126 then ex_mDesk_shortSequence N (fs_mDesk_phase om 0) g gp (nI b) else some (fs_mDesk_phase om 0, g, gp) := by
  unfold ex_mDesk_behindEsc
  by_cases q : b = 27
  · subst q; rfl
  · have q' : ¬ nI b = 27 := mt (nI_eq (b := 27) (by omega) (by omega)).mp q
    rw [if_neg q', if_neg q]
    by_cases q1 : 33 ≤ b ∧ b ≤ 47
    · rw [if_pos q1, if_pos (show nI b < 48 from nI_lt (b := 48) (by omega) (by omega)), if_neg (show ¬ nI b < 33 from nI_nlt (b := 33) (by omega) (by omega)), if_neg (show ¬ (47 : Int32) < nI b from nI_nlt (a := 47) (by omega) (by omega))]
    · rw [if_neg q1]
      by_cases q2 : 48 ≤ b ∧ b ≤ 126
      · rw [if_pos q2, if_neg (show ¬ nI b < 48 from nI_nlt (b := 48) (by omega) (by omega)), if_neg (show ¬ (126 : Int32) < nI b from nI_nlt (a := 126) (by omega) (by omega))]
        cases ex_mDesk_shortSequence N (fs_mDesk_phase om 0) g gp (nI b) with
        | none => rfl
        | some u => rfl
      · rw [if_neg q2]
        by_cases q3 : b < 33
        · rw [if_pos (show nI b < 48 from nI_lt (b := 48) (by omega) (by omega)), if_pos (show nI b < 33 from nI_lt (b := 33) (by omega) (by omega))]
        · rw [if_neg (show ¬ nI b < 48 from nI_nlt (b := 48) (by omega) (by omega)), if_pos (show (126 : Int32) < nI b from nI_lt (a := 126) (by omega) (by omega)), if_neg (show ¬ nI b < 33 from nI_nlt (b := 33) (by omega) (by omega)), if_pos (show (47 : Int32) < nI b from nI_lt (a := 47) (by omega) (by omega))]
def pBeg (o : ob_Parser) : ob_Parser := fs_Parser_digitWorth (fs_Parser_fraction (fs_Parser_whole (fs_Parser_sign (fs_Parser_phase o 0) 0) 0) 0) 1000
theorem pBeg_C (o : ob_Parser) : fldC 0 0 0 0 0 (pBeg o) := ⟨rfl, rfl, rfl, rfl, rfl⟩
theorem tk_0 {N b : Nat} {o : ob_Parser} {gd : Nat → Int32} (h : fd_Parser_mode o = 0) (hb : b < 256) : ex_Parser_take N o gd (nI b) = some (if b = 27 then (fs_Parser_mode (fs_Parser_taken o (nI b)) 1, gd, 0) else (fs_Parser_taken o (nI b), gd, if b < 32 then 2 else 1)) := by
  unfold ex_Parser_take ex_Parser_takePlain
  rw [if_neg (by rw [h]; decide), if_pos h]
  by_cases q : b = 27
  · rw [if_pos q, if_pos (show nI b = 27 from (nI_eq (b := 27) (by omega) (by omega)).mpr q)]; rfl
  · rw [if_neg q, if_neg (show ¬ nI b = 27 from mt (nI_eq (b := 27) (by omega) (by omega)).mp q)]
    by_cases q2 : b < 32
    · rw [if_pos q2, if_pos (show nI b < 32 from nI_lt (b := 32) q2 (by omega))]; rfl
    · rw [if_neg q2, if_neg (show ¬ nI b < 32 from nI_nlt (b := 32) (by omega) (by omega))]; rfl
theorem tk_1 {N b : Nat} {o : ob_Parser} {gd : Nat → Int32} (h : fd_Parser_mode o = 1) (hb : b < 256) : ex_Parser_take N o gd (nI b) = some (if b = 27 then (fs_Parser_taken o (nI b), gd, 0) else if 33 ≤ b ∧ b ≤ 47 then (fs_Parser_family (fs_Parser_mode (fs_Parser_taken o (nI b)) 2) (nI b), gd, 0) else (fs_Parser_mode (fs_Parser_taken o (nI b)) 0, gd, if 48 ≤ b ∧ b ≤ 126 then 3 else 0)) := by
  unfold ex_Parser_take ex_Parser_takeEscaped
  rw [if_neg (by rw [h]; decide), if_neg (by rw [h]; decide), if_pos h]
  by_cases q : b = 27
  · rw [if_pos q, if_pos (show nI b = 27 from (nI_eq (b := 27) (by omega) (by omega)).mpr q)]; rfl
  · rw [if_neg q, if_neg (show ¬ nI b = 27 from mt (nI_eq (b := 27) (by omega) (by omega)).mp q)]
    by_cases q1 : 33 ≤ b ∧ b ≤ 47
    · rw [if_pos q1, if_neg (show ¬ nI b < 33 from nI_nlt (b := 33) (by omega) (by omega)), if_neg (show ¬ (47 : Int32) < nI b from nI_nlt (a := 47) (by omega) (by omega)), if_pos (show nI b < 48 from nI_lt (b := 48) (by omega) (by omega))]; rfl
    · rw [if_neg q1]
      by_cases q2 : b < 33
      · rw [if_neg (show ¬ (48 ≤ b ∧ b ≤ 126) by omega), if_pos (show nI b < 33 from nI_lt (b := 33) (by omega) (by omega)), if_pos (show nI b < 48 from nI_lt (b := 48) (by omega) (by omega))]; rfl
      · rw [if_neg (show ¬ nI b < 33 from nI_nlt (b := 33) (by omega) (by omega)), if_pos (show (47 : Int32) < nI b from nI_lt (a := 47) (by omega) (by omega)), if_neg (show ¬ nI b < 48 from nI_nlt (b := 48) (by omega) (by omega))]
        by_cases q3 : b ≤ 126
        · rw [if_pos (show 48 ≤ b ∧ b ≤ 126 by omega), if_neg (show ¬ (126 : Int32) < nI b from nI_nlt (a := 126) (by omega) (by omega))]; rfl
        · rw [if_neg (show ¬ (48 ≤ b ∧ b ≤ 126) by omega), if_pos (show (126 : Int32) < nI b from nI_lt (a := 126) (by omega) (by omega))]; rfl
theorem tk_2g {N b : Nat} {o : ob_Parser} {gd : Nat → Int32} (h : fd_Parser_mode o = 2) (hb : 96 ≤ b ∧ b ≤ 126) : ex_Parser_take N o gd (nI b) = some (fs_Parser_group (pBeg (fs_Parser_taken (fs_Parser_mode o 3) (nI b))) (nI b), gd, 0) := by
  unfold ex_Parser_take
  rw [if_pos h]
  show (if nI b < 96 then _ else _) = _
  rw [if_neg (show ¬ nI b < 96 from nI_nlt (b := 96) (by omega) (by omega)), if_neg (show ¬ (126 : Int32) < nI b from nI_nlt (a := 126) (by omega) (by omega)), if_neg (show ¬ nI b = 0 from mt (nI_eq (b := 0) (by omega) (by omega)).mp (by omega))]; rfl
theorem tk_2 {N b : Nat} {o : ob_Parser} {gd : Nat → Int32} (h : fd_Parser_mode o = 2) (hb : b < 256) (hn : ¬ (96 ≤ b ∧ b ≤ 126)) : ex_Parser_take N o gd (nI b) = (ex_Parser_takeField N (fs_Parser_group (pBeg (fs_Parser_taken (fs_Parser_mode o 3) (nI b))) 0) (nI b)).bind (fun u => some (u.1, gd, u.2)) := by
  unfold ex_Parser_take
  rw [if_pos h]
  show (if nI b < 96 then _ else _) = _
  by_cases q : b < 96
  · rw [if_pos (show nI b < 96 from nI_lt (b := 96) q (by omega))]; rfl
  · rw [if_neg (show ¬ nI b < 96 from nI_nlt (b := 96) (by omega) (by omega)), if_pos (show (126 : Int32) < nI b from nI_lt (a := 126) (by omega) (by omega))]; rfl
theorem tk_3 {N : Nat} {o : ob_Parser} {gd : Nat → Int32} {v : Int32} (h : fd_Parser_mode o = 3) : ex_Parser_take N o gd v = (ex_Parser_takeField N (fs_Parser_taken o v) v).bind (fun u => some (u.1, gd, u.2)) := by
  unfold ex_Parser_take
  rw [if_neg (by rw [h]; decide), if_neg (by rw [h]; decide), if_neg (by rw [h]; decide), if_neg (by rw [h]; decide), if_pos h]
theorem tk_4 {N : Nat} {o : ob_Parser} {gd : Nat → Int32} {v : Int32} (h : fd_Parser_mode o = 4) : ex_Parser_take N o gd v = (ex_Parser_takeData N (fs_Parser_taken o v) gd v).bind (fun u => some (u.1, u.2.1, u.2.2)) := by
  unfold ex_Parser_take
  rw [if_neg (by rw [h]; decide), if_neg (by rw [h]; decide), if_neg (by rw [h]; decide), if_neg (by rw [h]; decide), if_neg (by rw [h]; decide), if_pos h]
theorem tk_5 {N : Nat} {o : ob_Parser} {gd : Nat → Int32} {v : Int32} (h : fd_Parser_mode o = 5) : ex_Parser_take N o gd v = (ex_Parser_takeText N (fs_Parser_taken o v)).bind (fun u => some (u.1, gd, u.2)) := by
  unfold ex_Parser_take
  rw [if_neg (by rw [h]; decide), if_neg (by rw [h]; decide), if_neg (by rw [h]; decide), if_neg (by rw [h]; decide), if_neg (by rw [h]; decide), if_neg (by rw [h]; decide)]
theorem ps_num {N : Nat} {v : Int} {o : ob_Parser} (h : fd_Parser_value o = iI v) (hv : -327679999 ≤ v ∧ v ≤ 327679999) : ex_Parser_number N o = some (nI (v.toNat / 10000)) ∧ ex_Parser_amount N o = some (lI (v.toNat : Int)) := by
  unfold ex_Parser_number ex_Parser_amount
  rw [h]
  simp only [dk_let]
  have e : (if (0 : Int32) < iI v then iI v else 0) = nI v.toNat := by
    by_cases q : 0 < v
    · rw [if_pos (show (0 : Int32) < iI v from (iI_lt (a := 0) (by omega) (by omega)).mpr q), nI_iI]; congr 1; omega
    · rw [if_neg (show ¬ (0 : Int32) < iI v from mt (iI_lt (a := 0) (by omega) (by omega)).mp q), show v.toNat = 0 by omega]; rfl
  rw [e]
  exact ⟨congrArg some (nI_div (b := 10000) (by omega) (by omega)), by rw [nI_lI (by omega)]⟩
theorem ic_val {v : Int} {o : ob_Parser} (h : fd_Parser_value o = iI v) (hv : -327679999 ≤ v ∧ v ≤ 327679999) : (fd_Parser_value o).toInt64 = lI v := by rw [h, iI_l (by omega)]
theorem ic_mul {v : Int} {u : Nat} (hv : -327679999 ≤ v ∧ v ≤ 327679999) (hu : u ≤ 1966080) : lI v * (nI u).toInt64 / 10000 = lI ((v * u).tdiv 10000) ∧ -1000000000000000 ≤ (v * (u : Int)).tdiv 10000 ∧ (v * (u : Int)).tdiv 10000 < 1000000000000000 := by
  rw [nI_lI (by omega), lI_vu hv (by omega)]
  have := tdiv_bound (vu_bound hv (u := (u : Int)) (by omega))
  exact ⟨rfl, by omega, by omega⟩
theorem ic_mulL {v : Int} (u : Nat) (hv : -327679999 ≤ v ∧ v ≤ 327679999) (hu : u ≤ 24) : lI (u : Int) * lI v / 10000 = lI ((v * u).tdiv 10000) ∧ -1000000000000000 ≤ (v * (u : Int)).tdiv 10000 ∧ (v * (u : Int)).tdiv 10000 < 1000000000000000 := by
  have e : lI (u : Int) * lI v = lI v * lI (u : Int) := by rw [lI_mul, lI_mul, Int.mul_comm]
  rw [e, lI_vu hv (by omega)]
  have := tdiv_bound (vu_bound hv (u := (u : Int)) (by omega))
  exact ⟨rfl, by omega, by omega⟩
theorem mov_if (sg : Bool) (a b z : Int) : (if nI sg.toNat = 0 then b + z else a + z) = movN sg a b z := by cases sg <;> rfl
theorem mov_if0 (sg : Bool) (a z : Int) : (if nI sg.toNat = 0 then z else a + z) = movN sg a 0 z := by
  cases sg
  · show z = 0 + z; omega
  · rfl
theorem ic_place {N d k r cp e n : Nat} {v : Int} {sg : Bool} {p : Nat → Nat} {oi : ob_Interpreter} {oP : ob_Parser} (hk : k < 5) (hr : r < 4) (hp : pOK k r p) (he : e < 256) (hn : n ≤ 32767) (hv : -327679999 ≤ v ∧ v ≤ 327679999) (h1 : fd_Parser_value oP = iI v) (h2 : fd_Parser_signed oP = nI sg.toNat) :
    ex_Interpreter_doPlace N oi oP (pgC d k r cp p) (nI e) (nI n) = some (pgC d k r cp (cmdN 38 97 e k r p n v sg)) := by
  obtain ⟨b0, b1, b2, b3, b4, b5, b6, b7, b8⟩ := hp
  have hp : pOK k r p := ⟨b0, b1, b2, b3, b4, b5, b6, b7, b8⟩
  have w0 : p 0 ≤ 122400 := Nat.le_trans b0 (pgW_le hk)
  have w1 : p 1 ≤ 122400 := Nat.le_trans b1 (pgH_le hk)
  have ev := ic_val h1 hv
  unfold ex_Interpreter_doPlace
  simp only [dk_let, ev, h2]
  by_cases q : e = 67
  · subst q
    obtain ⟨e1, e2, e3⟩ := ic_mul hv b6
    show (ex_Page_moveAcross N (pgC d k r cp p) (lI v * (nI (p 6)).toInt64 / 10000) (nI sg.toNat)).bind some = some (pgC d k r cp (nset p 0 (clampN (movN sg (p 0) 0 ((v * p 6).tdiv 10000)) (pgW k r))))
    rw [e1, pg_across _ hk hr w0 ⟨e2, e3⟩, mov_if0]; rfl
  by_cases q72 : e = 72
  · subst q72
    obtain ⟨e1, e2, e3⟩ := ic_mulL 10 hv (by omega)
    show (ex_Page_moveAcross N (pgC d k r cp p) (lI ((10 : Nat) : Int) * lI v / 10000) (nI sg.toNat)).bind some = some (pgC d k r cp (nset p 0 (clampN (movN sg (p 0) 0 ((v * (10 : Nat)).tdiv 10000)) (pgW k r))))
    rw [e1, pg_across _ hk hr w0 ⟨e2, e3⟩, mov_if0]; rfl
  by_cases q76 : e = 76
  · subst q76
    show (ex_Page_setLeft N (pgC d k r cp p) (nI n)).bind some = some (pgC d k r cp (leftN p n))
    rw [pg_left hk hr hp hn]; rfl
  by_cases q77 : e = 77
  · subst q77
    show (ex_Page_setRight N (pgC d k r cp p) (nI n)).bind some = some (pgC d k r cp (rightN k r p n))
    rw [pg_right hk hr hp hn]; rfl
  by_cases q82 : e = 82
  · subst q82
    obtain ⟨e1, e2, e3⟩ := ic_mul (u := p 7) hv (by omega)
    show (ex_Page_moveLines N (pgC d k r cp p) (lI v * (nI (p 7)).toInt64 / 10000) (nI sg.toNat)).bind some = some (pgC d k r cp (nset p 1 (clampN (movN sg (p 1) (homeN p) ((v * p 7).tdiv 10000)) (pgH k r))))
    rw [e1, pg_lines _ hk hr w1 b4 b7 ⟨e2, e3⟩, mov_if]; rfl
  by_cases q86 : e = 86
  · subst q86
    obtain ⟨e1, e2, e3⟩ := ic_mulL 10 hv (by omega)
    show (ex_Page_moveDown N (pgC d k r cp p) (lI ((10 : Nat) : Int) * lI v / 10000) (nI sg.toNat)).bind some = some (pgC d k r cp (nset p 1 (clampN (movN sg (p 1) (p 4) ((v * (10 : Nat)).tdiv 10000)) (pgH k r))))
    rw [e1, pg_down _ hk hr w1 b4 ⟨e2, e3⟩, mov_if]; rfl
  have hc : cmdN 38 97 e k r p n v sg = p := by
    show (if e = 76 then _ else _) = p
    rw [if_neg q76, if_neg q77, if_neg q, if_neg q72, if_neg q82, if_neg q86]
  rw [hc]
  have ne : ∀ m : Nat, m < 256 → e ≠ m → ¬ nI e = nI m := fun m hm hne => mt (nI_eq (by omega) (by omega)).mp hne
  rw [if_neg (show ¬ nI e = 67 from ne 67 (by omega) q)]
  simp only [if_neg (show ¬ nI e = 72 from ne 72 (by omega) q72), if_neg (show ¬ nI e = 76 from ne 76 (by omega) q76), if_neg (show ¬ nI e = 77 from ne 77 (by omega) q77), if_neg (show ¬ nI e = 82 from ne 82 (by omega) q82), if_neg (show ¬ nI e = 86 from ne 86 (by omega) q86), ite_self]
theorem ic_dot {N d k r cp e n : Nat} {v : Int} {sg : Bool} {p : Nat → Nat} {oi : ob_Interpreter} {oP : ob_Parser} (hk : k < 5) (hr : r < 4) (hp : pOK k r p) (he : e < 256) (hv : -327679999 ≤ v ∧ v ≤ 327679999) (h1 : fd_Parser_value oP = iI v) (h2 : fd_Parser_signed oP = nI sg.toNat) :
    ex_Interpreter_doDotPlace N oi oP (pgC d k r cp p) (nI e) = some (pgC d k r cp (cmdN 42 112 e k r p n v sg)) := by
  obtain ⟨b0, b1, b2, b3, b4, b5, b6, b7, b8⟩ := hp
  have w0 : p 0 ≤ 122400 := Nat.le_trans b0 (pgW_le hk)
  have w1 : p 1 ≤ 122400 := Nat.le_trans b1 (pgH_le hk)
  have ev := ic_val h1 hv
  obtain ⟨e1, e2, e3⟩ := ic_mulL 24 hv (by omega)
  unfold ex_Interpreter_doDotPlace
  rw [ev, h2]
  by_cases q : e = 88
  · subst q
    show (ex_Page_moveAcross N (pgC d k r cp p) (lI ((24 : Nat) : Int) * lI v / 10000) (nI sg.toNat)).bind some = some (pgC d k r cp (nset p 0 (clampN (movN sg (p 0) 0 ((v * (24 : Nat)).tdiv 10000)) (pgW k r))))
    rw [e1, pg_across _ hk hr w0 ⟨e2, e3⟩, mov_if0]; rfl
  by_cases q2 : e = 89
  · subst q2
    show (ex_Page_moveDown N (pgC d k r cp p) (lI ((24 : Nat) : Int) * lI v / 10000) (nI sg.toNat)).bind some = some (pgC d k r cp (nset p 1 (clampN (movN sg (p 1) (p 4) ((v * (24 : Nat)).tdiv 10000)) (pgH k r))))
    rw [e1, pg_down _ hk hr w1 b4 ⟨e2, e3⟩, mov_if]; rfl
  have hc : cmdN 42 112 e k r p n v sg = p := by
    show (if e = 88 then _ else _) = p
    rw [if_neg q, if_neg q2]
  rw [hc, if_neg (show ¬ nI e = 88 from mt (nI_eq (b := 88) (by omega) (by omega)).mp q), if_neg (show ¬ nI e = 89 from mt (nI_eq (b := 89) (by omega) (by omega)).mp q2)]
theorem pgC_set8 {d k r cp : Nat} {p : Nat → Nat} (v : Nat) : fs_Page_wrap (pgC d k r cp p) (nI v) = pgC d k r cp (nset p 8 v) := rfl
theorem ic_wrap {N d k r cp e n : Nat} {v : Int} {sg : Bool} {p : Nat → Nat} {oi : ob_Interpreter} (hp : p 8 ≤ 1) (he : e < 256) (hn : n ≤ 32767) :
    ex_Interpreter_doWrap N oi (pgC d k r cp p) (nI e) (nI n) = some (pgC d k r cp (cmdN 38 115 e k r p n v sg)) := by
  unfold ex_Interpreter_doWrap
  by_cases q : e = 67
  · subst q
    show (if nI n = 0 then some (fs_Page_wrap (pgC d k r cp p) (nI 1)) else if nI n = 1 then some (fs_Page_wrap (pgC d k r cp p) (nI 0)) else if nI (p 8) = 0 then some (fs_Page_wrap (pgC d k r cp p) (nI 0)) else some (fs_Page_wrap (pgC d k r cp p) (nI 1))) = some (pgC d k r cp (if n = 0 then nset p 8 1 else if n = 1 then nset p 8 0 else p))
    rw [pgC_set8, pgC_set8]
    by_cases q0 : n = 0
    · rw [if_pos (show nI n = 0 by rw [q0]; rfl), if_pos q0]
    · rw [if_neg (show ¬ nI n = 0 from mt (nI_eq (b := 0) (by omega) (by omega)).mp q0), if_neg q0]
      by_cases q1 : n = 1
      · rw [if_pos (show nI n = 1 by rw [q1]; rfl), if_pos q1]
      · rw [if_neg (show ¬ nI n = 1 from mt (nI_eq (b := 1) (by omega) (by omega)).mp q1), if_neg q1]
        have : p 8 = 0 ∨ p 8 = 1 := by omega
        rcases this with h | h
        · have e8 : nset p 8 0 = p := by have := nset_same p 8; rw [h] at this; exact this
          rw [if_pos (by rw [h]; rfl), e8]
        · have e8 : nset p 8 1 = p := by have := nset_same p 8; rw [h] at this; exact this
          rw [if_neg (by rw [h]; decide), e8]
  · have hc : cmdN 38 115 e k r p n v sg = p := if_neg q
    rw [hc, if_neg (show ¬ nI e = 67 from mt (nI_eq (b := 67) (by omega) (by omega)).mp q)]
theorem pgC_set6 {d k r cp : Nat} {p : Nat → Nat} (v : Nat) : fs_Page_stepAcross (pgC d k r cp p) (nI v) = pgC d k r cp (nset p 6 v) := rfl
theorem cmd_k72 {k r n : Nat} {v : Int} {sg : Bool} {p : Nat → Nat} : cmdN 38 107 72 k r p n v sg = nset p 6 (60 * v.toNat / 10000) := by
  unfold cmdN; rw [if_neg (by decide), if_pos (by decide), if_pos rfl]
theorem ic_text {N d k r cp e n : Nat} {v : Int} {sg : Bool} {p : Nat → Nat} {oi : ob_Interpreter} (he : e < 256) (hn : n ≤ 32767) (hv : v ≤ 327679999) :
    ex_Interpreter_doText N oi (pgC d k r cp p) (nI e) (nI n) (lI (v.toNat : Int)) = some (pgC d k r cp (cmdN 38 107 e k r p n v sg)) := by
  unfold ex_Interpreter_doText
  by_cases q : e = 72
  · subst q
    have e1 : ((60 * lI (v.toNat : Int)) / 10000).toInt32 = nI (60 * v.toNat / 10000) := by
      have a1 : (60 : Int64) * lI (v.toNat : Int) = lI (60 * (v.toNat : Int)) := lI_mul 60 _
      have a2 : lI (60 * (v.toNat : Int)) / 10000 = lI (60 * (v.toNat : Int) / 10000) := lI_divp (b := 10000) (by omega) (by omega)
      have a3 : 60 * (v.toNat : Int) / 10000 = ((60 * v.toNat / 10000 : Nat) : Int) := by omega
      rw [a1, a2, lI_i, nI_iI, a3]
    rw [if_pos (show nI 72 = 72 from rfl), e1, cmd_k72, pgC_set6]
  · rw [if_neg (show ¬ nI e = 72 from mt (nI_eq (b := 72) (by omega) (by omega)).mp q)]
    by_cases q2 : e = 71
    · subst q2
      have hc : cmdN 38 107 71 k r p n v sg = if n < 4 then nset p 10 n else p := rfl
      rw [hc, if_pos (show nI 71 = 71 from rfl)]
      by_cases q3 : n < 4
      · rw [if_neg (show ¬ (3 : Int32) < nI n from nI_nlt (a := 3) (by omega) (by omega)), if_pos q3]; rfl
      · rw [if_pos (show (3 : Int32) < nI n from nI_lt (a := 3) (by omega) (by omega)), if_neg q3]
    · have hc : cmdN 38 107 e k r p n v sg = p := by
        show (if e = 72 then _ else _) = p
        rw [if_neg q, if_neg q2]
      rw [hc, if_neg (show ¬ nI e = 71 from mt (nI_eq (b := 71) (by omega) (by omega)).mp q2)]
theorem cmd_l (e k r n : Nat) (v : Int) (sg : Bool) (p : Nat → Nat) : cmdN 38 108 e k r p n v sg = (if e = 67 then stepN k r p (150 * v.toNat / 10000) else if e = 68 then inchN p n else if e = 69 then topN k r p n else if e = 70 then lenN k r p n else if e = 76 then (if n < 2 then nset p 9 n else p) else p) := by
  unfold cmdN; rw [if_pos (by decide)]
theorem pgC_set9 {d k r cp : Nat} {p : Nat → Nat} (v : Nat) : fs_Page_skip (pgC d k r cp p) (nI v) = pgC d k r cp (nset p 9 v) := rfl
theorem ic_layout {N d k r cp e n : Nat} {v : Int} {sg : Bool} {p : Nat → Nat} {oi : ob_Interpreter} {oS : ob_Sheet} (hk : k < 5) (hr : r < 4) (hp : pOK k r p) (he : e < 256) (hn : n ≤ 32767) (hv : v ≤ 327679999) (h65 : e ≠ 65) (h79 : e ≠ 79) :
    ex_Interpreter_doLayout N oi oS (pgC d k r cp p) (nI e) (nI n) (lI (v.toNat : Int)) = some (oi, pgC d k r (if e = 88 then max 1 (min 99 n) else cp) (cmdN 38 108 e k r p n v sg)) := by
  obtain ⟨b0, b1, b2, b3, b4, b5, b6, b7, b8, b9, b10⟩ := hp
  have ne : ∀ m : Nat, m < 256 → e ≠ m → ¬ nI e = nI m := fun m hm hne => mt (nI_eq (by omega) (by omega)).mp hne
  rw [cmd_l]
  unfold ex_Interpreter_doLayout
  rw [if_neg (show ¬ nI e = 65 from ne 65 (by omega) h65)]
  by_cases q67 : e = 67
  · have e1 : (150 * lI (v.toNat : Int)) / 10000 = lN (150 * v.toNat / 10000) := by
      have a1 : (150 : Int64) * lI (v.toNat : Int) = lI (150 * (v.toNat : Int)) := lI_mul 150 _
      have a2 : lI (150 * (v.toNat : Int)) / 10000 = lI (150 * (v.toNat : Int) / 10000) := lI_divp (b := 10000) (by omega) (by omega)
      have a3 : 150 * (v.toNat : Int) / 10000 = ((150 * v.toNat / 10000 : Nat) : Int) := by omega
      rw [a1, a2, lN_lI, a3]
    rw [if_pos q67, if_neg (show ¬ e = 88 by omega), e1, if_neg (show ¬ nI e = 66 from ne 66 (by omega) (by omega)), if_pos (show nI e = 67 by rw [q67]; rfl), pg_step hk hr (by omega)]; rfl
  by_cases q68 : e = 68
  · rw [if_neg q67, if_pos q68, if_neg (show ¬ e = 88 by omega), if_neg (show ¬ nI e = 66 from ne 66 (by omega) (by omega)), if_neg (show ¬ nI e = 67 from ne 67 (by omega) (by omega)), if_pos (show nI e = 68 by rw [q68]; rfl), pg_inch hn]; rfl
  by_cases q69 : e = 69
  · rw [if_neg q67, if_neg q68, if_pos q69, if_neg (show ¬ e = 88 by omega), if_neg (show ¬ nI e = 66 from ne 66 (by omega) (by omega)), if_neg (show ¬ nI e = 67 from ne 67 (by omega) (by omega)), if_neg (show ¬ nI e = 68 from ne 68 (by omega) (by omega)), if_pos (show nI e = 69 by rw [q69]; rfl), pg_top hk hr b7 hn]; rfl
  by_cases q70 : e = 70
  · rw [if_neg q67, if_neg q68, if_neg q69, if_pos q70, if_neg (show ¬ e = 88 by omega), if_neg (show ¬ nI e = 66 from ne 66 (by omega) (by omega)), if_neg (show ¬ nI e = 67 from ne 67 (by omega) (by omega)), if_neg (show ¬ nI e = 68 from ne 68 (by omega) (by omega)), if_neg (show ¬ nI e = 69 from ne 69 (by omega) (by omega)), if_pos (show nI e = 70 by rw [q70]; rfl), pg_len hk hr b4 b7 hn]; rfl
  rw [if_neg q67, if_neg q68, if_neg q69, if_neg q70]
  simp only [if_neg (show ¬ nI e = 67 from ne 67 (by omega) q67), if_neg (show ¬ nI e = 68 from ne 68 (by omega) q68), if_neg (show ¬ nI e = 69 from ne 69 (by omega) q69), if_neg (show ¬ nI e = 70 from ne 70 (by omega) q70), if_neg (show ¬ nI e = 79 from ne 79 (by omega) h79)]
  by_cases q76 : e = 76
  · have ee : nI e = 76 := by rw [q76]; rfl
    have n66 : ¬ nI e = 66 := ne 66 (by omega) (by omega)
    have n71 : ¬ nI e = 71 := ne 71 (by omega) (by omega)
    have n72 : ¬ nI e = 72 := ne 72 (by omega) (by omega)
    have n73 : ¬ nI e = 73 := ne 73 (by omega) (by omega)
    have n74 : ¬ nI e = 74 := ne 74 (by omega) (by omega)
    have n75 : ¬ nI e = 75 := ne 75 (by omega) (by omega)
    rw [if_pos q76, if_neg (show ¬ e = 88 by omega), if_neg n66, if_neg n71, if_neg n72, if_neg n73, if_neg n74, if_neg n75, if_pos ee]
    by_cases q1 : n = 1
    · rw [if_pos (show nI n = 1 by rw [q1]; rfl), if_pos (by omega), q1]; rfl
    · rw [if_neg (show ¬ nI n = 1 from mt (nI_eq (b := 1) (by omega) (by omega)).mp q1)]
      by_cases q0 : n = 0
      · rw [if_pos (show nI n = 0 by rw [q0]; rfl), if_pos (by omega), q0]; rfl
      · rw [if_neg (show ¬ nI n = 0 from mt (nI_eq (b := 0) (by omega) (by omega)).mp q0), if_neg (show ¬ n < 2 by omega)]
        have : p 9 = 0 ∨ p 9 = 1 := by omega
        have c0 : fs_Page_skip (pgC d k r cp p) 0 = pgC d k r cp (nset p 9 0) := pgC_set9 0
        have c1 : fs_Page_skip (pgC d k r cp p) 1 = pgC d k r cp (nset p 9 1) := pgC_set9 1
        rw [c0, c1]
        have cf : fd_Page_skip (pgC d k r cp p) = nI (p 9) := rfl
        rw [cf]
        rcases this with h | h
        · have e9 : nset p 9 0 = p := by have := nset_same p 9; rw [h] at this; exact this
          rw [if_pos (by rw [h]; rfl), e9]
        · have e9 : nset p 9 1 = p := by have := nset_same p 9; rw [h] at this; exact this
          rw [if_neg (by rw [h]; decide), e9]
  rw [if_neg q76]
  simp only [if_neg (show ¬ nI e = 76 from ne 76 (by omega) q76)]
  by_cases q88 : e = 88
  · have ee : nI e = 88 := by rw [q88]; rfl
    rw [if_pos q88, pg_copies hn]
    simp only [if_neg (show ¬ nI e = 66 from ne 66 (by omega) (by omega)), if_neg (show ¬ nI e = 71 from ne 71 (by omega) (by omega)), if_neg (show ¬ nI e = 72 from ne 72 (by omega) (by omega)), if_neg (show ¬ nI e = 73 from ne 73 (by omega) (by omega)), if_neg (show ¬ nI e = 74 from ne 74 (by omega) (by omega)), if_neg (show ¬ nI e = 75 from ne 75 (by omega) (by omega)), if_neg (show ¬ nI e = 77 from ne 77 (by omega) (by omega)), if_neg (show ¬ nI e = 78 from ne 78 (by omega) (by omega)), if_neg (show ¬ nI e = 80 from ne 80 (by omega) (by omega)), if_neg (show ¬ nI e = 81 from ne 81 (by omega) (by omega)), if_neg (show ¬ nI e = 82 from ne 82 (by omega) (by omega)), if_neg (show ¬ nI e = 83 from ne 83 (by omega) (by omega)), if_neg (show ¬ nI e = 84 from ne 84 (by omega) (by omega)), if_neg (show ¬ nI e = 85 from ne 85 (by omega) (by omega)), if_neg (show ¬ nI e = 86 from ne 86 (by omega) (by omega)), if_neg (show ¬ nI e = 87 from ne 87 (by omega) (by omega)), if_pos ee]
    rfl
  · rw [if_neg q88]
    simp only [if_neg (show ¬ nI e = 88 from ne 88 (by omega) q88), ite_self]
theorem ic_layA {N d k r cp n : Nat} {v2 : Int64} {p : Nat → Nat} {oi : ob_Interpreter} {oS : ob_Sheet} {du : Bool} (hN : 10 < N) (hn : n ≤ 32767) (hd : fd_Sheet_due oS = nI du.toNat) :
    ex_Interpreter_doLayout N oi oS (pgC d k r cp p) 65 (nI n) v2 = some (if (szIx n).isSome then (fs_Interpreter_thenNumber (fs_Interpreter_then (fs_Interpreter_ejecting oi (nI du.toNat)) 3) (nI n), pgC d k r cp p) else (oi, pgC d k r cp p)) := by
  unfold ex_Interpreter_doLayout ex_Interpreter_waitToDo
  rw [if_pos rfl, pg_isSize hN (by omega)]
  simp only [Option.bind_some]
  cases h : (szIx n).isSome with
  | true => rw [hd, if_pos (bt_bool du)]; rfl
  | false => rfl
theorem ic_layO {N d k r cp n : Nat} {v2 : Int64} {p : Nat → Nat} {oi : ob_Interpreter} {oS : ob_Sheet} {du : Bool} (hn : n ≤ 32767) (hd : fd_Sheet_due oS = nI du.toNat) :
    ex_Interpreter_doLayout N oi oS (pgC d k r cp p) 79 (nI n) v2 = some (if n < 4 then (fs_Interpreter_thenNumber (fs_Interpreter_then (fs_Interpreter_ejecting oi (nI du.toNat)) 4) (nI n), pgC d k r cp p) else (oi, pgC d k r cp p)) := by
  have e : ex_Interpreter_doLayout N oi oS (pgC d k r cp p) 79 (nI n) v2 = if (3 : Int32) < nI n then some (oi, pgC d k r cp p) else if dk_bool (fd_Sheet_due oS) then some (fs_Interpreter_thenNumber (fs_Interpreter_then (fs_Interpreter_ejecting oi (fd_Sheet_due oS)) 4) (nI n), pgC d k r cp p) else none := rfl
  rw [e, hd, if_pos (bt_bool du)]
  by_cases q : n < 4
  · rw [if_neg (show ¬ (3 : Int32) < nI n from nI_nlt (a := 3) (by omega) (by omega)), if_pos q]
  · rw [if_pos (show (3 : Int32) < nI n from nI_lt (a := 3) (by omega) (by omega)), if_neg q]
theorem ej_same {oi : ob_Interpreter} (h : fd_Interpreter_ejecting oi = 0) : fs_Interpreter_ejecting oi 0 = oi := by
  obtain ⟨a, b, c⟩ := oi
  have hb : b = 0 := h
  subst hb; rfl
theorem ic_lf {N d k r cp v : Nat} {p : Nat → Nat} {oi : ob_Interpreter} (hk : k < 5) (hr : r < 4) (hp : pOK k r p) (hv : v ≤ 122400) : ex_Interpreter_doLineFeed N oi (pgC d k r cp p) (nI v) = some (if lfE k r p v then (fs_Interpreter_ejecting oi 1, pgC d k r cp p) else (fs_Interpreter_ejecting oi 0, pgC d k r cp (nset p 1 (p 1 + v)))) := by
  unfold ex_Interpreter_doLineFeed
  rw [pg_lf hk hr hp hv]
  simp only [Option.bind_some]
  cases lfE k r p v with
  | true => rfl
  | false => rfl
theorem cr_7 (k r : Nat) (p : Nat → Nat) : crN k r p 7 = p 7 := nset_ne _ _ (by decide)
theorem cr_10 (k r : Nat) (p : Nat → Nat) : crN k r p 10 = p 10 := nset_ne _ _ (by decide)
theorem ic_control {N d k r cp b : Nat} {p : Nat → Nat} {oi : ob_Interpreter} (hk : k < 5) (hr : r < 4) (hp : pOK k r p) (hb : b < 32) (hj : fd_Interpreter_ejecting oi = 0) :
    ∃ oi' p', ex_Interpreter_doControl N oi (pgC d k r cp p) (nI b) = some (oi', pgC d k r cp p') ∧ (ctlE k r p b = true → oi' = fs_Interpreter_ejecting oi 1 ∧ p' = ctl1 k r p b) ∧ (ctlE k r p b = false → oi' = oi ∧ p' = ctlN k r p b) := by
  have h0 := hp
  obtain ⟨b0, b1, b2, b3, b4, b5, b6, b7, b8, b9, b10, b11⟩ := h0
  have ne : ∀ m : Nat, m < 256 → b ≠ m → ¬ nI b = nI m := fun m hm hne => mt (nI_eq (by omega) (by omega)).mp hne
  have hcr : ex_Page_carriageReturn N (pgC d k r cp p) = some (pgC d k r cp (crN k r p)) := pg_cr hk hr b2
  have lfp : ∀ q : Nat → Nat, pOK k r q → ∃ oi' p', ((ex_Interpreter_doLineFeed N oi (pgC d k r cp q) (nI (q 7))).bind (fun u_37 => jn_Interpreter_doControl_175c2 u_37.1 u_37.2)) = some (oi', pgC d k r cp p') ∧ (lfE k r q (q 7) = true → oi' = fs_Interpreter_ejecting oi 1 ∧ p' = q) ∧ (lfE k r q (q 7) = false → oi' = oi ∧ p' = nset q 1 (q 1 + q 7)) := fun q hq => by
    have h7 : q 7 ≤ 122400 := hq.2.2.2.2.2.2.2.1
    rw [ic_lf hk hr hq h7]
    cases hl : lfE k r q (q 7) with
    | true => exact ⟨_, _, rfl, fun _ => ⟨rfl, rfl⟩, fun h => absurd h (by decide)⟩
    | false => exact ⟨_, _, rfl, fun h => absurd h (by decide), fun _ => ⟨ej_same hj, rfl⟩⟩
  unfold ex_Interpreter_doControl jn_Interpreter_doControl_12f5 jn_Interpreter_doControl_23e4 jn_Interpreter_doControl_29d3
  rw [hcr]
  simp only [Option.bind_some]
  have f10 : fd_Page_lineEnd (pgC d k r cp p) = nI (p 10) := rfl
  rw [f10]
  by_cases q10 : b = 10
  · have e10 : nI b = 10 := by rw [q10]; rfl
    rw [if_pos e10, if_neg (show ¬ nI b = 13 from ne 13 (by omega) (by omega))]
    have j36 : ∀ q : Nat → Nat, jn_Interpreter_doControl_36 N oi (nI b) (pgC d k r cp q) = ((ex_Interpreter_doLineFeed N oi (pgC d k r cp q) (nI (q 7))).bind (fun u_37 => jn_Interpreter_doControl_175c2 u_37.1 u_37.2)) := fun q => by
      unfold jn_Interpreter_doControl_36
      rw [if_neg (show ¬ nI b = 8 from ne 8 (by omega) (by omega)), if_neg (show ¬ nI b = 9 from ne 9 (by omega) (by omega)), if_pos e10]; rfl
    by_cases q2 : 2 ≤ p 10
    · have c1 : ctl1 k r p b = crN k r p := by unfold ctl1; rw [if_neg (by omega), if_neg (by omega), if_pos (Or.inl ⟨Or.inl q10, q2⟩)]
      have cL : ctlL p b = true := by unfold ctlL; rw [decide_eq_true q10]; rfl
      have cE : ctlE k r p b = lfE k r (crN k r p) (p 7) := by unfold ctlE; rw [cL, c1, decide_eq_false (by omega)]; rfl
      rw [if_pos (show (2 : Int32) ≤ nI (p 10) from nI_le (a := 2) q2 (by omega)), j36]
      obtain ⟨oi', p', l1, l2, l3⟩ := lfp (crN k r p) (crN_ok hp)
      rw [cr_7] at l2 l3 l1
      refine ⟨oi', p', by rw [cr_7]; exact l1, fun h => ?_, fun h => ?_⟩
      · rw [c1]; exact l2 (cE ▸ h)
      · have := l3 (cE ▸ h)
        refine ⟨this.1, this.2.trans ?_⟩
        unfold ctlN; rw [cL, c1]; rfl
    · have c1 : ctl1 k r p b = p := by unfold ctl1; rw [if_neg (by omega), if_neg (by omega), if_neg (by omega), if_neg (by omega), if_neg (by omega)]
      have cL : ctlL p b = true := by unfold ctlL; rw [decide_eq_true q10]; rfl
      have cE : ctlE k r p b = lfE k r p (p 7) := by unfold ctlE; rw [cL, c1, decide_eq_false (by omega)]; rfl
      rw [if_neg (show ¬ (2 : Int32) ≤ nI (p 10) from nI_ge (b := 2) (by omega) (by omega)), j36]
      obtain ⟨oi', p', l1, l2, l3⟩ := lfp p hp
      refine ⟨oi', p', l1, fun h => ?_, fun h => ?_⟩
      · rw [c1]; exact l2 (cE ▸ h)
      · have := l3 (cE ▸ h)
        refine ⟨this.1, this.2.trans ?_⟩
        unfold ctlN; rw [cL, c1]; rfl
  rw [if_neg (show ¬ nI b = 10 from ne 10 (by omega) q10)]
  by_cases q12 : b = 12
  · have e12 : nI b = 12 := by rw [q12]; rfl
    have j36 : ∀ q : Nat → Nat, jn_Interpreter_doControl_36 N oi (nI b) (pgC d k r cp q) = some (fs_Interpreter_ejecting oi 1, pgC d k r cp q) := fun q => by
      rw [e12]; rfl
    have cE : ctlE k r p b = true := by unfold ctlE; rw [decide_eq_true q12]; rfl
    rw [if_pos e12, if_neg (show ¬ nI b = 13 from ne 13 (by omega) (by omega)), j36, j36]
    by_cases q2 : 2 ≤ p 10
    · have c1 : ctl1 k r p b = crN k r p := by unfold ctl1; rw [if_neg (by omega), if_neg (by omega), if_pos (Or.inl ⟨Or.inr q12, q2⟩)]
      rw [if_pos (show (2 : Int32) ≤ nI (p 10) from nI_le (a := 2) q2 (by omega))]
      exact ⟨_, _, rfl, fun _ => ⟨rfl, c1.symm⟩, fun h => absurd (cE.symm.trans h) (by decide)⟩
    · have c1 : ctl1 k r p b = p := by unfold ctl1; rw [if_neg (by omega), if_neg (by omega), if_neg (by omega), if_neg (by omega), if_neg (by omega)]
      rw [if_neg (show ¬ (2 : Int32) ≤ nI (p 10) from nI_ge (b := 2) (by omega) (by omega))]
      exact ⟨_, _, rfl, fun _ => ⟨rfl, c1.symm⟩, fun h => absurd (cE.symm.trans h) (by decide)⟩
  rw [if_neg (show ¬ nI b = 12 from ne 12 (by omega) q12)]
  by_cases q13 : b = 13
  · have e13 : nI b = 13 := by rw [q13]; rfl
    have c1 : ctl1 k r p b = crN k r p := by unfold ctl1; rw [if_neg (by omega), if_neg (by omega), if_pos (Or.inr q13)]
    rw [if_pos e13]
    have j36 : jn_Interpreter_doControl_36 N oi (nI b) (pgC d k r cp (crN k r p)) = if (nI (p 10) &&& 1) = 1 then ((ex_Interpreter_doLineFeed N oi (pgC d k r cp (crN k r p)) (nI ((crN k r p) 7))).bind (fun u_37 => jn_Interpreter_doControl_175c2 u_37.1 u_37.2)) else some (oi, pgC d k r cp (crN k r p)) := by
      unfold jn_Interpreter_doControl_36
      rw [if_neg (show ¬ nI b = 8 from ne 8 (by omega) (by omega)), if_neg (show ¬ nI b = 9 from ne 9 (by omega) (by omega)), if_neg (show ¬ nI b = 10 from ne 10 (by omega) (by omega)), if_neg (show ¬ nI b = 11 from ne 11 (by omega) (by omega)), if_neg (show ¬ nI b = 12 from ne 12 (by omega) (by omega)), if_pos e13]
      have f10' : fd_Page_lineEnd (pgC d k r cp (crN k r p)) = nI (p 10) := by
        show nI (crN k r p 10) = _; rw [cr_10]
      rw [f10']; rfl
    rw [j36, nI_and1 (by omega)]
    by_cases q2 : p 10 % 2 = 1
    · have cL : ctlL p b = true := by unfold ctlL; rw [decide_eq_true q13, decide_eq_true q2, decide_eq_false (by omega)]; rfl
      have cE : ctlE k r p b = lfE k r (crN k r p) (p 7) := by unfold ctlE; rw [cL, c1, decide_eq_false (by omega)]; rfl
      rw [if_pos (show nI (p 10 % 2) = 1 by rw [q2]; rfl)]
      obtain ⟨oi', p', l1, l2, l3⟩ := lfp (crN k r p) (crN_ok hp)
      rw [cr_7] at l2 l3 l1
      refine ⟨oi', p', by rw [cr_7]; exact l1, fun h => ?_, fun h => ?_⟩
      · rw [c1]; exact l2 (cE ▸ h)
      · have := l3 (cE ▸ h)
        refine ⟨this.1, this.2.trans ?_⟩
        unfold ctlN; rw [cL, c1]; rfl
    · have cL : ctlL p b = false := by unfold ctlL; rw [decide_eq_true q13, decide_eq_false q2, decide_eq_false (by omega)]; rfl
      have cE : ctlE k r p b = false := by unfold ctlE; rw [cL, decide_eq_false (by omega)]; rfl
      rw [if_neg (show ¬ nI (p 10 % 2) = 1 from mt (nI_eq (b := 1) (by omega) (by omega)).mp q2)]
      refine ⟨_, _, rfl, fun h => absurd (cE.symm.trans h) (by decide), fun _ => ⟨rfl, ?_⟩⟩
      unfold ctlN; rw [cL, c1]; rfl
  rw [if_neg (show ¬ nI b = 13 from ne 13 (by omega) q13)]
  have cL : ctlL p b = false := by unfold ctlL; rw [decide_eq_false q13, decide_eq_false q10]; rfl
  have cE : ctlE k r p b = false := by unfold ctlE; rw [cL, decide_eq_false q12]; rfl
  have cN : ctlN k r p b = ctl1 k r p b := by unfold ctlN; rw [cL]; rfl
  rw [cE, cN]
  by_cases q8 : b = 8
  · have c1 : ctl1 k r p b = nset p 0 (min (bsN p) (pgW k r)) := if_pos q8
    have j36 : jn_Interpreter_doControl_36 N oi (nI b) (pgC d k r cp p) = (ex_Page_backspace N (pgC d k r cp p)).bind (fun u_31 => jn_Interpreter_doControl_175c2 oi u_31) := by
      unfold jn_Interpreter_doControl_36; rw [if_pos (show nI b = 8 by rw [q8]; rfl)]
    rw [j36, pg_bs hk hr hp, c1]
    exact ⟨_, _, rfl, fun h => absurd h (by decide), fun _ => ⟨rfl, rfl⟩⟩
  by_cases q9 : b = 9
  · have c1 : ctl1 k r p b = nset p 0 (min (tabN p) (pgW k r)) := (if_neg q8).trans (if_pos q9)
    have j36 : jn_Interpreter_doControl_36 N oi (nI b) (pgC d k r cp p) = (ex_Page_tab N (pgC d k r cp p)).bind (fun u_31 => jn_Interpreter_doControl_175c2 oi u_31) := by
      unfold jn_Interpreter_doControl_36; rw [if_neg (show ¬ nI b = 8 from ne 8 (by omega) q8), if_pos (show nI b = 9 by rw [q9]; rfl)]
    rw [j36, pg_tab hk hr hp, c1]
    exact ⟨_, _, rfl, fun h => absurd h (by decide), fun _ => ⟨rfl, rfl⟩⟩
  have j36 : jn_Interpreter_doControl_36 N oi (nI b) (pgC d k r cp p) = if nI b = 14 then some (oi, fs_Page_font (pgC d k r cp p) 1) else if nI b = 15 then some (oi, fs_Page_font (pgC d k r cp p) 0) else some (oi, pgC d k r cp p) := by
    unfold jn_Interpreter_doControl_36
    rw [if_neg (show ¬ nI b = 8 from ne 8 (by omega) q8), if_neg (show ¬ nI b = 9 from ne 9 (by omega) q9), if_neg (show ¬ nI b = 10 from ne 10 (by omega) q10)]
    simp only [if_neg (show ¬ nI b = 12 from ne 12 (by omega) q12), if_neg (show ¬ nI b = 13 from ne 13 (by omega) q13)]
    by_cases q11 : nI b = 11
    · have : b = 11 := (nI_eq (b := 11) (by omega) (by omega)).mp q11
      rw [if_pos q11, if_neg (show ¬ nI b = 14 from ne 14 (by omega) (by omega)), if_neg (show ¬ nI b = 15 from ne 15 (by omega) (by omega))]; rfl
    · rw [if_neg q11]; rfl
  rw [j36]
  by_cases q14 : b = 14
  · have c1 : ctl1 k r p b = nset p 11 1 := by unfold ctl1; rw [if_neg q8, if_neg q9, if_neg (by omega), if_pos q14]
    rw [if_pos (show nI b = 14 by rw [q14]; rfl), c1]
    exact ⟨_, nset p 11 1, rfl, fun h => absurd h (by decide), fun _ => ⟨rfl, rfl⟩⟩
  by_cases q15 : b = 15
  · have c1 : ctl1 k r p b = nset p 11 0 := by unfold ctl1; rw [if_neg q8, if_neg q9, if_neg (by omega), if_neg q14, if_pos q15]
    rw [if_neg (show ¬ nI b = 14 from ne 14 (by omega) q14), if_pos (show nI b = 15 by rw [q15]; rfl), c1]
    exact ⟨_, nset p 11 0, rfl, fun h => absurd h (by decide), fun _ => ⟨rfl, rfl⟩⟩
  have c1 : ctl1 k r p b = p := by unfold ctl1; rw [if_neg q8, if_neg q9, if_neg (by omega), if_neg q14, if_neg q15]
  rw [if_neg (show ¬ nI b = 14 from ne 14 (by omega) q14), if_neg (show ¬ nI b = 15 from ne 15 (by omega) q15), c1]
  exact ⟨_, _, rfl, fun h => absurd h (by decide), fun _ => ⟨rfl, rfl⟩⟩
theorem ic_short {N d k r cp b : Nat} {p : Nat → Nat} {oi : ob_Interpreter} {oS : ob_Sheet} {du : Bool} (hk : k < 5) (hr : r < 4) (hp : pOK k r p) (hb : b < 256) (hj : fd_Interpreter_ejecting oi = 0) (hd : fd_Sheet_due oS = nI du.toNat) :
    ex_Interpreter_doShort N oi (pgC d k r cp p) oS (nI b) = some (if b = 57 then (oi, pgC d k r cp (nset (nset p 2 0) 3 (pgW k r))) else if b = 61 then (if lfE k r p (p 7 / 2) then (fs_Interpreter_ejecting oi 1, pgC d k r cp p) else (oi, pgC d k r cp (nset p 1 (p 1 + p 7 / 2)))) else if b = 69 then (fs_Interpreter_thenNumber (fs_Interpreter_then (fs_Interpreter_ejecting oi (nI du.toNat)) 2) 0, pgC d k r cp p) else (oi, pgC d k r cp p)) := by
  have h7 : p 7 ≤ 122400 := hp.2.2.2.2.2.2.2.1
  unfold ex_Interpreter_doShort
  by_cases q : b = 57
  · rw [if_pos (show nI b = 57 by rw [q]; rfl), if_pos q, pg_clear hk hr]; rfl
  · rw [if_neg (show ¬ nI b = 57 from mt (nI_eq (b := 57) (by omega) (by omega)).mp q), if_neg q]
    by_cases q2 : b = 61
    · have e7 : fd_Page_stepDown (pgC d k r cp p) / 2 = nI (p 7 / 2) := nI_div (b := 2) (by omega) (by omega)
      rw [if_pos (show nI b = 61 by rw [q2]; rfl), if_pos q2, e7, ic_lf hk hr hp (by omega), ej_same hj]
      simp only [Option.bind_some]
    · rw [if_neg (show ¬ nI b = 61 from mt (nI_eq (b := 61) (by omega) (by omega)).mp q2), if_neg q2]
      by_cases q3 : b = 69
      · rw [if_pos (show nI b = 69 by rw [q3]; rfl), if_pos q3, hd, if_pos (bt_bool du)]; rfl
      · rw [if_neg (show ¬ nI b = 69 from mt (nI_eq (b := 69) (by omega) (by omega)).mp q3), if_neg q3]
/-- the page of the class behind a character's line feed, if one was needed -/
def chW (k r : Nat) (p : Nat → Nat) (s : Nat) : Nat → Nat := if chF p s then p else if lfE k r (crN k r p) (p 7) then crN k r p else nset (crN k r p) 1 (crN k r p 1 + p 7)
theorem chW_ok {k r s : Nat} {p : Nat → Nat} (hp : pOK k r p) : pOK k r (chW k r p s) := by
  unfold chW
  cases chF p s with
  | true => exact hp
  | false =>
    cases hl : lfE k r (crN k r p) (p 7) with
    | true => exact crN_ok hp
    | false => exact lf_ok (crN_ok hp) hl
theorem chQ_W {k r s : Nat} {p : Nat → Nat} : chQ k r p s = if chE k r p s = true ∧ p 8 ≠ 0 then homN k r (chW k r p s) else (if p 8 = 0 then chQ k r p s else chW k r p s) := by
  unfold chE
  by_cases q : p 8 = 0
  · rw [if_neg (fun h => h.2 q), if_pos q]
  · rw [decide_eq_true q, if_neg q]
    unfold chQ chW
    cases chF p s with
    | true => rfl
    | false =>
      cases lfE k r (crN k r p) (p 7) with
      | true => exact (if_pos ⟨rfl, q⟩).symm
      | false => rfl
theorem ic_char {N d k r cp b st : Nat} {p : Nat → Nat} {oi : ob_Interpreter} {oF : ob_FontShelf} {ids at_ gl ch : Nat → Int32} (hk : k < 5) (hr : r < 4) (hp : pOK k r p) (hj : fd_Interpreter_ejecting oi = 0) (hst : st ≤ 2000000) (hs : ex_FontShelf_stepOf N oF ids ch at_ gl (nI (p 11)) (nI b) (nI (p 6)) = some (nI st)) :
    ex_Interpreter_doCharacter N oi oF (pgC d k r cp p) ids at_ gl ch (nI b) = some (if chL p st then (fs_Interpreter_thenStep oi (nI st), pgC d k r cp p) else (fs_Interpreter_thenNumber (fs_Interpreter_then (fs_Interpreter_ejecting (fs_Interpreter_thenStep oi (nI st)) (nI (chE k r p st).toNat)) 1) (nI b), pgC d k r cp (chW k r p st))) := by
  have h2 : p 2 ≤ 122400 := hp.2.2.1
  have h7 : p 7 ≤ 122400 := hp.2.2.2.2.2.2.2.1
  have h8 : p 8 ≤ 1 := hp.2.2.2.2.2.2.2.2.1
  have hcr : ex_Page_carriageReturn N (pgC d k r cp p) = some (pgC d k r cp (crN k r p)) := pg_cr hk hr h2
  unfold ex_Interpreter_doCharacter
  have hs' : ex_FontShelf_stepOf N oF ids ch at_ gl (fd_Page_font (pgC d k r cp p)) (nI b) (fd_Page_stepAcross (pgC d k r cp p)) = some (nI st) := hs
  rw [hs']
  simp only [Option.bind_some]
  rw [pg_fits hp hk hst]
  simp only [Option.bind_some]
  have fw : fd_Page_wrap (pgC d k r cp p) = nI (p 8) := rfl
  by_cases q : p 0 < p 3 ∧ p 0 + st ≤ p 3
  · have cF : chF p st = true := by unfold chF; rw [decide_eq_true q.1, decide_eq_true q.2]; rfl
    have cL : chL p st = false := by unfold chL; rw [cF]; rfl
    have cE : chE k r p st = false := by unfold chE; rw [cF]; rfl
    have cP : chW k r p st = p := by unfold chW; rw [cF]; rfl
    have ej : fs_Interpreter_ejecting (fs_Interpreter_thenStep oi (nI st)) 0 = fs_Interpreter_thenStep oi (nI st) := ej_same (oi := fs_Interpreter_thenStep oi (nI st)) hj
    rw [if_pos q, if_neg (show ¬ (1 : Int32) = 0 by decide), if_neg (show ¬ (1 : Int32) = 0 by decide), cL, cE, cP]
    show some (fs_Interpreter_thenNumber (fs_Interpreter_then (fs_Interpreter_thenStep oi (nI st)) 1) (nI b), pgC d k r cp p) = some (fs_Interpreter_thenNumber (fs_Interpreter_then (fs_Interpreter_ejecting (fs_Interpreter_thenStep oi (nI st)) 0) 1) (nI b), pgC d k r cp p)
    rw [ej]
  · have cF : chF p st = false := by
      unfold chF
      by_cases q1 : p 0 < p 3
      · rw [decide_eq_true q1, decide_eq_false (fun h => q ⟨q1, h⟩)]; rfl
      · rw [decide_eq_false q1]; rfl
    rw [if_neg q, if_pos rfl, fw]
    by_cases q8 : p 8 = 0
    · have cL : chL p st = true := by unfold chL; rw [cF, decide_eq_true q8]; rfl
      rw [if_pos (show nI (p 8) = 0 by rw [q8]; rfl), if_pos rfl, if_pos (show nI (p 8) = 0 by rw [q8]; rfl), cL]; rfl
    · have cL : chL p st = false := by unfold chL; rw [cF, decide_eq_false q8]; rfl
      have n8 : ¬ nI (p 8) = 0 := mt (nI_eq (b := 0) (by omega) (by omega)).mp q8
      have c7 : fd_Page_stepDown (pgC d k r cp (crN k r p)) = nI (p 7) := by show nI (crN k r p 7) = _; rw [cr_7]
      rw [if_neg n8, hcr]
      simp only [Option.bind_some]
      rw [c7, ic_lf hk hr (crN_ok hp) h7, cL]
      simp only [Option.bind_some]
      have cE : chE k r p st = lfE k r (crN k r p) (p 7) := by unfold chE; rw [cF, decide_eq_true q8]; rfl
      have cP : chW k r p st = if lfE k r (crN k r p) (p 7) then crN k r p else nset (crN k r p) 1 (crN k r p 1 + p 7) := by unfold chW; rw [cF]; rfl
      have w1 : fd_Page_wrap (pgC d k r cp (crN k r p)) = nI (p 8) := rfl
      have w2 : fd_Page_wrap (pgC d k r cp (nset (crN k r p) 1 (crN k r p 1 + p 7))) = nI (p 8) := rfl
      rw [cE, cP]
      cases lfE k r (crN k r p) (p 7) with
      | true =>
        rw [if_pos rfl]
        simp only [w1]
        rw [if_pos trivial, if_neg n8]; rfl
      | false =>
        rw [if_neg (show ¬ (false = true) by decide)]
        simp only [w2]
        rw [if_pos trivial, if_neg n8]; rfl
theorem th_same {oi : ob_Interpreter} (h : fd_Interpreter_then oi = 0) : fs_Interpreter_then oi 0 = oi := by
  obtain ⟨a, b, c, d⟩ := oi
  have hb : c = 0 := h
  subst hb; rfl
theorem fin_0 {N : Nat} {oi : ob_Interpreter} {op : ob_Page} {oS : ob_Sheet} {oF : ob_FontShelf} {mk dt ids gl fd_ ch : Nat → Int32} {v : Int32} (h1 : fd_Interpreter_ejecting oi = 0) (h2 : fd_Interpreter_then oi = 0) : ex_Interpreter_finish N oi op oS oF mk dt ids gl fd_ ch v = some (oi, op, oS, mk, dt) := by
  unfold ex_Interpreter_finish
  rw [if_pos h1, if_neg (by rw [h2]; decide), if_neg (by rw [h2]; decide), if_neg (by rw [h2]; decide), if_neg (by rw [h2]; decide), th_same h2]
/-- what is left to do, with the page that it is done to -/
def finT (N : Nat) (oi : ob_Interpreter) (op : ob_Page) (oS : ob_Sheet) (oF : ob_FontShelf) (mk dt ids gl fd_ ch : Nat → Int32) (v t n st : Int32) : Option rs_Interpreter_finish :=
  if t = 1 then (if v = 0 then ((ex_Interpreter_placeCharacter N oi op oS oF ids gl ch mk dt fd_ n st).bind (fun u => some (oi, u.1, u.2.1, u.2.2.1, u.2.2.2))) else ((ex_Page_setX N op (((fd_Page_x op) + st).toInt64)).bind (fun u => some (oi, u, oS, mk, dt)))) else if t = 2 then ((ex_Page_reset N op).bind (fun u => some (oi, u, oS, mk, dt))) else if t = 3 then ((ex_Page_setSize N op n).bind (fun u => some (oi, u, oS, mk, dt))) else if t = 4 then ((ex_Page_setOrientation N op n).bind (fun u => some (oi, u, oS, mk, dt))) else some (oi, op, oS, mk, dt)
theorem fin_n {N : Nat} {oi : ob_Interpreter} {op : ob_Page} {oS : ob_Sheet} {oF : ob_FontShelf} {mk dt ids gl fd_ ch : Nat → Int32} {v : Int32} (h1 : fd_Interpreter_ejecting oi = 0) : ex_Interpreter_finish N oi op oS oF mk dt ids gl fd_ ch v = finT N (fs_Interpreter_then oi 0) op oS oF mk dt ids gl fd_ ch v (fd_Interpreter_then oi) (fd_Interpreter_thenNumber oi) (fd_Interpreter_thenStep oi) := by
  unfold ex_Interpreter_finish; rw [if_pos h1]; rfl
theorem fin_e {N : Nat} {oi : ob_Interpreter} {op op' : ob_Page} {oS : ob_Sheet} {oF : ob_FontShelf} {mk dt ids gl fd_ ch : Nat → Int32} {v : Int32} (h1 : ¬ fd_Interpreter_ejecting oi = 0) (h2 : ex_Page_goHome N op = some op') : ex_Interpreter_finish N oi op oS oF mk dt ids gl fd_ ch v = finT N (fs_Interpreter_then (fs_Interpreter_ejecting oi 0) 0) op' oS oF mk dt ids gl fd_ ch v (fd_Interpreter_then oi) (fd_Interpreter_thenNumber oi) (fd_Interpreter_thenStep oi) := by
  unfold ex_Interpreter_finish; rw [if_neg h1, h2]; rfl
def psN (om : ob_mDesk) : Prop := fd_mDesk_others om = 0 ∧ fd_mDesk_stored om = 0
def psA (md : Nat) (o : ob_Parser) (om : ob_mDesk) : Prop := fd_Parser_mode o = nI md ∧ fd_mDesk_phase om = nI (min md 4)
def psG (f gr : Nat) (o : ob_Parser) (om : ob_mDesk) : Prop := (1 ≤ f ∧ f < 256) ∧ gr < 256 ∧ fd_Parser_family o = nI f ∧ fd_mDesk_family om = nI f ∧ fd_Parser_group o = nI gr ∧ fd_mDesk_group om = nI gr
def psL (o : ob_Parser) (om : ob_mDesk) : Prop := ∃ ph sg wh bh pl, fldN ph sg wh bh pl ∧ fldC ph sg wh bh pl o ∧ fldM ph sg wh bh pl om
def ps3 (f gr : Nat) (o : ob_Parser) (om : ob_mDesk) : Prop := psA 3 o om ∧ psN om ∧ psG f gr o om ∧ psL o om
def ps4 (f gr e m dl : Nat) (v : Int) (sg la : Bool) (o : ob_Parser) (gd : Nat → Int32) (om : ob_mDesk) (go gs : Nat → Int32) : Prop := psA 4 o om ∧ psG f gr o om ∧ fldC 0 0 0 0 0 o ∧ fldM 0 0 0 0 0 om ∧ (1 ≤ dl ∧ dl ≤ 32767 ∧ e = 87 ∧ -327679999 ≤ v ∧ v ≤ 327679999 ∧ (sg = false → 0 ≤ v)) ∧ fd_Parser_end o = nI e ∧ fd_Parser_value o = iI v ∧ fd_Parser_signed o = nI sg.toNat ∧ fd_Parser_dataLeft o = nI dl ∧ fd_Parser_dataCount o = nI m ∧ fd_Parser_last o = nI la.toNat ∧ dtR m gd gs ∧ fd_mDesk_others om = 1 ∧ fd_mDesk_stored om = nI m ∧ fd_mDesk_dataTo om = 2 ∧ fd_mDesk_dataLeft om = nI dl ∧ fd_mDesk_last om = nI la.toNat ∧ go 0 = nI f ∧ go 1 = nI gr ∧ go 2 = iI v ∧ go 3 = nI e ∧ go 5 = nI m ∧ go 6 = nI dl
def ps5 (dl : Nat) (la : Bool) (o : ob_Parser) (om : ob_mDesk) : Prop := psA 5 o om ∧ psN om ∧ psG 38 112 o om ∧ fldC 0 0 0 0 0 o ∧ fldM 0 0 0 0 0 om ∧ 1 ≤ dl ∧ dl ≤ 32767 ∧ fd_Parser_dataLeft o = nI dl ∧ fd_Parser_last o = nI la.toNat ∧ fd_mDesk_dataTo om = 1 ∧ fd_mDesk_dataLeft om = nI dl ∧ fd_mDesk_last om = nI la.toNat
def ps2 (f : Nat) (o : ob_Parser) (om : ob_mDesk) : Prop := psA 2 o om ∧ psN om ∧ (1 ≤ f ∧ f < 256) ∧ fd_Parser_family o = nI f ∧ fd_mDesk_family om = nI f ∧ fd_mDesk_group om = 0
/-- the parsers of both sides -/
def psR (o : ob_Parser) (gd : Nat → Int32) (om : ob_mDesk) (go gs : Nat → Int32) : Prop := (psA 0 o om ∧ psN om) ∨ (psA 1 o om ∧ psN om) ∨ (∃ f, ps2 f o om) ∨ (∃ f gr, ps3 f gr o om) ∨ (∃ f gr e m dl v sg la, ps4 f gr e m dl v sg la o gd om go gs) ∨ (∃ dl la, ps5 dl la o om)
def cPg (d k r cp : Nat) (p : Nat → Nat) (s : CS) (m : RS) : Prop := isDpi d ∧ k < 5 ∧ r < 4 ∧ (1 ≤ cp ∧ cp ≤ 99) ∧ s.o_page = pgC d k r cp p ∧ pOK k r p ∧ stk p s.g_page_stack ∧ dkM k r cp p m.o_desk m.g_desk_state ∧ fd_Main_dpi s.o_this = nI d ∧ fd_Ref_dpi m.o_this = nI d
def cRm (d : Nat) (s : CS) (m : RS) : Prop := (∃ BL, fd_Sheet_bandLines s.o_sheet = nI BL ∧ 1 ≤ BL ∧ BL ≤ 20000 ∧ ∀ j, j < 5 → BL * ((wdN j d + 63) / 64) ≤ s.n_sheet_band) ∧ s.n_sheet_band < 2 ^ 22 ∧ m.n_sheet_dots < 2 ^ 22
def cSh (T d k r : Nat) (s : CS) (m : RS) : Prop := dkI T m.o_desk ∧ fd_Sheet_due s.o_sheet = nI (dueB m.o_desk).toNat ∧ (∃ sd, shR k r d s.o_sheet m.o_sheet s.g_sheet_marks s.g_sheet_dots m.g_sheet_dots sd m.n_sheet_dots ∧ ∀ j, j < 5 → wdN j d ≤ 64 * sd ∧ sd * hgN j d ≤ m.n_sheet_dots) ∧ (dueB m.o_desk = false → fd_mSheet_marks m.o_sheet = 0) ∧ cRm d s m ∧ (∃ a b c, ruR s.o_sheet m.o_this a b c)
def cFo (N : Nat) (s : CS) (m : RS) : Prop := ∃ F n u, slR F n u s.o_fonts m.o_shelf s.g_fonts_ids s.g_fonts_permanent s.g_fonts_attributes s.g_fonts_glyphs s.g_fonts_dots m.g_shelf_ids m.g_shelf_permanent m.g_shelf_attributes m.g_shelf_glyph m.g_shelf_store ∧ wsR s.g_fonts_wishes s.g_fonts_pins m.g_shelf_wishes m.g_shelf_pins ∧ (fd_FontShelf_chosenKnown s.o_fonts = 0 ∨ (fd_FontShelf_chosenKnown s.o_fonts = 1 ∧ chM N F m.g_shelf_pins m.g_shelf_ids m.g_shelf_wishes m.g_shelf_attributes m.g_shelf_permanent s.g_fonts_chosen))
def cMa (T : Nat) (s : CS) (m : RS) : Prop := mcS T s.o_macros m.o_macros s.g_macros_ids s.g_macros_places s.g_macros_lengths s.g_macros_permanent s.g_macros_bytes s.g_macros_collected m.g_macros_ids m.g_macros_permanent m.g_macros_lengths m.g_macros_store m.g_macros_buffer ∧ s.n_macros_collected = 16389 ∧ (∃ i : Nat, i ≤ 32767 ∧ fd_Macros_id s.o_macros = nI i ∧ fd_Ref_macroId m.o_this = nI i) ∧ (∃ h : Nat, h ≤ 65536 ∧ fd_Macros_had s.o_macros = nI h ∧ fd_Ref_had m.o_this = nI h)
def cSd (s : CS) (m : RS) : Prop := ∃ c : Nat, c ≤ 8 ∧ fd_Macros_said s.o_macros = nI c ∧ fd_Ref_xMany m.o_this = nI c ∧ agree c s.g_macros_saidActs m.g_xWhat ∧ agree c s.g_macros_saidIds m.g_xId ∧ ∀ i, i < c → ∃ w j : Nat, w ≤ 32767 ∧ j ≤ 32767 ∧ m.g_xWhat i = nI w ∧ m.g_xId i = nI j
def cFl (s : CS) (m : RS) : Prop := (∃ P K S, flR P K S s.o_file s.g_file_table s.g_file_bytes m.o_job m.g_job_file m.g_pages) ∧ 60000 ≤ m.n_lines_out ∧ m.n_lines_out < 100000 ∧ (∀ i, i < m.n_lines_out → isB (m.g_lines_out i)) ∧ mTab m.g_lines_whiteRests m.g_lines_blackRests m.g_lines_whiteBlocks m.g_lines_blackBlocks m.g_lines_blocks m.g_lines_modes ∧ fd_Main_overruns s.o_this = fd_Ref_overruns m.o_this
def cFa (s : CS) (m : RS) : Prop := fd_Main_fault s.o_this = 0 ∧ fd_Ref_fault m.o_this = 0
def cIt (s : CS) : Prop := fd_Interpreter_ejecting s.o_interpreter = 0 ∧ fd_Interpreter_then s.o_interpreter = 0
def cPs (s : CS) (m : RS) : Prop := psR s.o_interpreter_parser s.g_interpreter_parser_data m.o_desk m.g_desk_other m.g_desk_store
def cRa (d T : Nat) (s : CS) (m : RS) : Prop := rsR d T s.o_raster m.o_this s.g_raster_seed m.g_seed
/-- both sides, between two bytes, but for the parsers -/
def cAll (N d k r cp T : Nat) (p : Nat → Nat) (s : CS) (m : RS) : Prop := cPg d k r cp p s m ∧ cSh T d k r s m ∧ cFo N s m ∧ cRa d T s m ∧ cMa T s m ∧ cSd s m ∧ cFl s m ∧ cFa s m ∧ cIt s

def mAdvd (m : RS) (lm : Nat → Int32) (i : Nat) (own : Int32) : RS := ((m.1, m.2.1, m.2.2.1, m.2.2.2.1, (fs_mDesk_thrown m.o_desk 0, m.g_desk_state, m.g_desk_isKept, upd m.g_desk_steps i own, m.g_desk_store, m.g_desk_page, m.g_desk_other, m.g_desk_glyph, m.g_desk_kept), (m.o_shelf, m.g_shelf_ids, m.g_shelf_attributes, m.g_shelf_permanent, m.g_shelf_glyph, m.g_shelf_store, m.g_shelf_draft, m.g_shelf_wishes, m.g_shelf_pins, m.g_shelf_coming, m.g_shelf_bytes, lm), m.2.2.2.2.2.2.1, m.2.2.2.2.2.2.2.1, m.2.2.2.2.2.2.2.2.1, m.2.2.2.2.2.2.2.2.2) : RS)
def mDk (m : RS) (u : rs_mDesk_comes) : RS := ((m.1, m.2.1, m.2.2.1, m.2.2.2.1, (u.1, u.2.1, m.g_desk_isKept, m.g_desk_steps, u.2.2.2.2.2, u.2.2.1, u.2.2.2.2.1, u.2.2.2.1, m.g_desk_kept), m.2.2.2.2.2.1, m.2.2.2.2.2.2.1, m.2.2.2.2.2.2.2.1, m.2.2.2.2.2.2.2.2.1, m.2.2.2.2.2.2.2.2.2) : RS)
def mLf (m : RS) (lm : Nat → Int32) : RS := ((m.1, m.2.1, m.2.2.1, m.2.2.2.1, m.2.2.2.2.1, (m.o_shelf, m.g_shelf_ids, m.g_shelf_attributes, m.g_shelf_permanent, m.g_shelf_glyph, m.g_shelf_store, m.g_shelf_draft, m.g_shelf_wishes, m.g_shelf_pins, m.g_shelf_coming, m.g_shelf_bytes, lm), m.2.2.2.2.2.2.1, m.2.2.2.2.2.2.2.1, m.2.2.2.2.2.2.2.2.1, m.2.2.2.2.2.2.2.2.2) : RS)
theorem mLf_adv (m : RS) (lm : Nat → Int32) (i : Nat) (own : Int32) : mAdvd (mLf m lm) (RS.g_shelf_left (mLf m lm)) i own = mAdvd m lm i own := rfl
theorem mLf_2 (m : RS) (lm lm2 : Nat → Int32) : mLf (mLf m lm) lm2 = mLf m lm2 := rfl
def mShd (m : RS) (o : ob_mSheet) (b : Nat → Int64) : RS := ((m.1, m.2.1, m.2.2.1, (o, m.n_sheet_dots, b), m.2.2.2.2.1, m.2.2.2.2.2.1, m.2.2.2.2.2.2.1, m.2.2.2.2.2.2.2.1, m.2.2.2.2.2.2.2.2.1, m.2.2.2.2.2.2.2.2.2) : RS)
def kPg (s : CS) (oi : ob_Interpreter) (op : ob_Page) : CS := ((s.1, s.2.1, s.2.2.1, s.2.2.2.1, s.2.2.2.2.1, s.2.2.2.2.2.1, (op, s.g_page_stack, s.g_page_kept), s.2.2.2.2.2.2.2.1, (oi, s.o_interpreter_parser, s.g_interpreter_at, s.g_interpreter_ends, s.g_interpreter_actCount, s.g_interpreter_actNext, s.g_interpreter_copies, s.g_interpreter_called, s.g_interpreter_acts, s.g_interpreter_actIds, s.g_interpreter_parser_data), s.2.2.2.2.2.2.2.2.2.1, s.2.2.2.2.2.2.2.2.2.2.1, s.2.2.2.2.2.2.2.2.2.2.2) : CS)
def kFin (s : CS) (oi : ob_Interpreter) (op : ob_Page) (oS : ob_Sheet) (mk_ dt : Nat → Int32) : CS := ((s.1, s.2.1, s.2.2.1, s.2.2.2.1, s.2.2.2.2.1, (oS, mk_, dt, s.n_sheet_band, s.g_sheet_band), (op, s.g_page_stack, s.g_page_kept), s.2.2.2.2.2.2.2.1, (oi, s.o_interpreter_parser, s.g_interpreter_at, s.g_interpreter_ends, s.g_interpreter_actCount, s.g_interpreter_actNext, s.g_interpreter_copies, s.g_interpreter_called, s.g_interpreter_acts, s.g_interpreter_actIds, s.g_interpreter_parser_data), s.2.2.2.2.2.2.2.2.2.1, s.2.2.2.2.2.2.2.2.2.2.1, s.2.2.2.2.2.2.2.2.2.2.2) : CS)
def kFo (s : CS) (oF : ob_FontShelf) (ch lf : Nat → Int32) : CS := ((s.1, s.2.1, s.2.2.1, s.2.2.2.1, s.2.2.2.2.1, s.2.2.2.2.2.1, s.2.2.2.2.2.2.1, s.2.2.2.2.2.2.2.1, s.2.2.2.2.2.2.2.2.1, s.2.2.2.2.2.2.2.2.2.1, (oF, s.g_fonts_ids, s.g_fonts_attributes, s.g_fonts_permanent, s.g_fonts_glyphs, s.g_fonts_dots, s.g_fonts_wishes, s.g_fonts_pins, ch, lf, s.g_fonts_coming), s.2.2.2.2.2.2.2.2.2.2.2) : CS)
def mPost (N : Nat) (m1 m2 : RS) (gl was : Int32) : Option (RS × Bool) := if fd_mDesk_pages m2.o_desk ≤ fd_mDesk_pages m1.o_desk then mEnd N m2 gl was else (mPrint N m2).bind (fun s3 => if fd_Ref_fault s3.o_this ≤ 0 then mEnd N s3 gl was else some (s3, false))
/-- what a character is, to both -/
def glR (N n w b : Nat) (gl own : Int32) (s : CS) (m : RS) : Prop := (gl = -1 ∧ own = -1 ∧ ex_FontShelf_glyphFor N s.o_fonts s.g_fonts_ids s.g_fonts_chosen s.g_fonts_glyphs (nI w) (nI b) = some (-1) ∧ ∀ v, ex_FontShelf_stepOf N s.o_fonts s.g_fonts_ids s.g_fonts_chosen s.g_fonts_attributes s.g_fonts_glyphs (nI w) (nI b) v = some v) ∨ (∃ c e : Nat, c < n ∧ e < n ∧ recC s.g_fonts_glyphs s.g_fonts_dots c = recM m.g_shelf_glyph m.g_shelf_store e ∧ gl = nI e ∧ ex_FontShelf_glyphFor N s.o_fonts s.g_fonts_ids s.g_fonts_chosen s.g_fonts_glyphs (nI w) (nI b) = some (nI c) ∧ ((own = -1 ∧ ∀ v, ex_FontShelf_stepOf N s.o_fonts s.g_fonts_ids s.g_fonts_chosen s.g_fonts_attributes s.g_fonts_glyphs (nI w) (nI b) v = some v) ∨ (∃ t : Nat, t ≤ 20000 ∧ own = nI t ∧ ∀ v, ex_FontShelf_stepOf N s.o_fonts s.g_fonts_ids s.g_fonts_chosen s.g_fonts_attributes s.g_fonts_glyphs (nI w) (nI b) v = some (nI t))))
theorem mAdv_ok {N w b : Nat} {m : RS} {own : Int32} (hw : w < 2) (hb : b < 256) (h : own = -1 ∨ ∃ t : Nat, t ≤ 20000 ∧ own = nI t) : mAdv N m (nI w) (nI b) own = some (mAdvd m m.g_shelf_left (256 * w + b) own, 1) := by
  have e : 256 * nI w + nI b = nI (256 * w + b) := by rw [nI_Lmul, nI_add]
  have h1 : ¬ own < -1 ∧ own ≤ 20000 := by
    rcases h with rfl | ⟨t, ht, rfl⟩
    · exact ⟨by decide, by decide⟩
    · refine ⟨?_, nI_le (b := 20000) ht (by omega)⟩
      have : (-1 : Int32) = iI (-1) := by decide
      rw [this, nI_iI, iI_lt (by omega) (by omega)]; omega
  unfold mAdv
  refine Option.map_eq_some_iff.mpr ⟨(fs_mDesk_thrown m.o_desk 0, upd m.g_desk_steps (256 * w + b) own, 1), ?_, rfl⟩
  unfold ex_mDesk_advance
  rw [if_neg (nI_pos (by omega)), if_neg (show ¬ (1 : Int32) < nI w from nI_nlt (a := 1) (by omega) (by omega)), if_neg (nI_pos (by omega)), if_neg (show ¬ (255 : Int32) < nI b from nI_nlt (a := 255) (by omega) (by omega)), if_neg h1.1, if_pos h1.2, e, if_pos (dk_in_nI (by omega) (by omega)), nI_clamp (by omega)]
/-- what stands ahead of a byte in the reference: its glyph and its step -/
theorem pre_byte {N F n u w b : Nat} {s : CS} {m : RS} (hN : 1000 < N) (hw : w < 2) (hb : b < 256) (hs : m.g_desk_state 11 = nI w) (hK : slR F n u s.o_fonts m.o_shelf s.g_fonts_ids s.g_fonts_permanent s.g_fonts_attributes s.g_fonts_glyphs s.g_fonts_dots m.g_shelf_ids m.g_shelf_permanent m.g_shelf_attributes m.g_shelf_glyph m.g_shelf_store) (hc : chM N F m.g_shelf_pins m.g_shelf_ids m.g_shelf_wishes m.g_shelf_attributes m.g_shelf_permanent s.g_fonts_chosen) :
    ∃ gl own lm, mByte N m (nI b) = (mIsSeq N (mAdvd m lm (256 * w + b) own)).bind (fun was => (mDesk N (mAdvd m lm (256 * w + b) own) (nI b)).bind (fun s2 => mPost N (mAdvd m lm (256 * w + b) own) s2 gl was)) ∧ glR N n w b gl own s m := by
  obtain ⟨hK, o1, o2, o3, m1, m2, m3, hi, hcd⟩ := hK
  have kM := hK.2.2.2.2.2.2.2.2.1
  have k1 := hK.1
  rcases sl_use (N := N) (w := w) (b := b) (om := m.o_shelf) m.g_shelf_left hN hw hK o2 m1 m2 hc with ⟨g1, g2, lm, g3⟩ | ⟨c, e, sl, lm, st, h1, h2, h3, h4, h5, h6, h7, h8, ⟨lm2, h9⟩, h10⟩
  · refine ⟨-1, -1, lm, ?_, Or.inl ⟨rfl, rfl, g1, g2⟩⟩
    unfold mByte
    have e1 : mGlyph N m (m.g_desk_state 11) (nI b) = some ((mLf m lm), -1) := by
      unfold mGlyph; rw [hs]; exact Option.map_eq_some_iff.mpr ⟨_, g3, rfl⟩
    refine (bind_eq e1).trans ?_
    have e2 : mWide N (mLf m lm) (m.g_desk_state 11) (-1) = some ((mLf m lm), -1) := if_pos (by decide)
    refine (bind_eq e2).trans ?_
    refine (if_pos (show (-1 : Int32) ≤ 20000 by decide)).trans ?_
    have hs' : RS.g_desk_state (mLf m lm) 11 = nI w := hs
    have hm := mAdv_ok (N := N) (m := (mLf m lm)) (own := -1) hw hb (Or.inl rfl)
    rw [mLf_adv] at hm
    unfold mGo1
    rw [hs', hm]; rfl
  · have hn := kM.1
    have e1 : mGlyph N m (m.g_desk_state 11) (nI b) = some ((mLf m lm), nI e) := by
      unfold mGlyph; rw [hs]; exact Option.map_eq_some_iff.mpr ⟨_, h8, rfl⟩
    have e0 : mChoose N (mLf m lm) (m.g_desk_state 11) = some ((mLf m lm2), nI sl) := by
      unfold mChoose; rw [hs]; exact Option.map_eq_some_iff.mpr ⟨_, h9, rfl⟩
    have i7 : 7 * nI sl + 1 = nI (7 * sl + 1) := by rw [nI_Lmul]; exact nI_add _ 1
    have i76 : 7 * nI e + 6 = nI (7 * e + 6) := by rw [nI_Lmul]; exact nI_add _ 6
    have d7 : dk_in (7 * nI sl + 1) 231 := by rw [i7]; exact dk_in_nI (by omega) (by omega)
    have d76 : dk_in (7 * nI e + 6) 1799 := by rw [i76]; exact dk_in_nI (by omega) (by omega)
    have c7 : (7 * nI sl + 1).toNatClampNeg = 7 * sl + 1 := by rw [i7]; exact nI_clamp (by omega)
    have c76 : (7 * nI e + 6).toNatClampNeg = 7 * e + 6 := by rw [i76]; exact nI_clamp (by omega)
    by_cases q : m.g_shelf_attributes (7 * sl + 1) = 1
    · refine ⟨nI e, nI (min st 20000), lm2, ?_, Or.inr ⟨c, e, h1, h2, h4, rfl, h7, Or.inr ⟨min st 20000, by omega, rfl, fun v => ?_⟩⟩⟩
      · unfold mByte
        refine (bind_eq e1).trans ?_
        have e2 : mWide N (mLf m lm) (m.g_desk_state 11) (nI e) = some ((mLf m lm2), nI st) := by
          unfold mWide
          rw [if_neg (nI_pos (by omega))]
          refine (bind_eq e0).trans ?_
          rw [if_pos d7, c7]
          refine (if_pos q).trans ?_
          rw [if_pos d76, c76]
          exact congrArg some (Prod.ext rfl h6)
        refine (bind_eq e2).trans ?_
        have hs' : RS.g_desk_state (mLf m lm2) 11 = nI w := hs
        by_cases q2 : st ≤ 20000
        · refine (if_pos (show nI st ≤ 20000 from nI_le (b := 20000) q2 (by omega))).trans ?_
          have hm := mAdv_ok (N := N) (m := (mLf m lm2)) (own := nI st) hw hb (Or.inr ⟨st, q2, rfl⟩)
          rw [mLf_adv] at hm
          unfold mGo1
          rw [hs', Nat.min_eq_left q2, hm]; rfl
        · refine (if_neg (show ¬ nI st ≤ 20000 from nI_ge (a := 20000) (by omega) (by omega))).trans ?_
          have hm := mAdv_ok (N := N) (m := (mLf m lm2)) (own := 20000) hw hb (Or.inr ⟨20000, by omega, rfl⟩)
          rw [mLf_adv] at hm
          unfold mGo1
          rw [hs', Nat.min_eq_right (by omega), hm]; rfl
      · rw [h10 v, if_pos q]
    · refine ⟨nI e, -1, lm2, ?_, Or.inr ⟨c, e, h1, h2, h4, rfl, h7, Or.inl ⟨rfl, fun v => ?_⟩⟩⟩
      · unfold mByte
        refine (bind_eq e1).trans ?_
        have e2 : mWide N (mLf m lm) (m.g_desk_state 11) (nI e) = some ((mLf m lm2), -1) := by
          unfold mWide
          rw [if_neg (nI_pos (by omega))]
          refine (bind_eq e0).trans ?_
          rw [if_pos d7, c7]
          exact if_neg q
        refine (bind_eq e2).trans ?_
        refine (if_pos (show (-1 : Int32) ≤ 20000 by decide)).trans ?_
        have hs' : RS.g_desk_state (mLf m lm2) 11 = nI w := hs
        have hm := mAdv_ok (N := N) (m := (mLf m lm2)) (own := -1) hw hb (Or.inl rfl)
        rw [mLf_adv] at hm
        unfold mGo1
        rw [hs', hm]; rfl
      · rw [h10 v, if_neg q]
