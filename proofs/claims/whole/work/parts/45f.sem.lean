def mBs1 (N L : Nat) (f : Nat → Int32) : Nat → Nat → RS → Option RS
  | 0, _, _ => none
  | n + 1, k, s => if L ≤ k then some s else (if fd_Ref_fault s.o_this = 0 then (mComes2 N s (f k &&& 255)).bind (fun s1 => mBs1 N L f n (k + 1) s1) else some s)

theorem runl_1_108c2 {N L : Nat} {f lens : Nat → Int32} {v0 : Int32} (hL : L ≤ 16384) (hl : lens v0.toNatClampNeg = nI L) : ∀ (n k : Nat) (s s' : RS), k ≤ 16384 → mBs1 N L f n k s = some s' → ∃ r, lp_Ref_run_c1_108c2 N lens 7 14 2 s.n_sheet_dots s.g_lines_whiteRests s.g_lines_blackRests s.g_lines_whiteBlocks s.g_lines_blackBlocks s.g_lines_blocks s.g_lines_modes s.n_lines_out v0 f n (nI k) s.o_this s.g_macros_store s.o_desk s.o_shelf s.o_sheet s.o_lines s.o_job s.g_pages s.g_seed s.g_fresh s.g_xWhat s.g_xId s.g_toDo s.g_toDoId s.g_desk_state s.g_desk_steps s.g_desk_glyph s.g_desk_page s.g_desk_other s.g_desk_store s.g_macros_ids s.g_macros_permanent s.g_shelf_ids s.g_shelf_attributes s.g_shelf_permanent s.g_shelf_glyph s.g_shelf_store s.g_shelf_draft s.g_shelf_wishes s.g_shelf_pins s.g_shelf_coming s.g_shelf_bytes s.g_shelf_left s.g_sheet_dots s.g_lines_line s.g_lines_above s.g_lines_out s.g_job_file s.g_job_places s.g_job_lengths s.o_macros s.g_macros_lengths = some r ∧ s' = (((r.1, r.2.2.2.2.2.2.2.1, r.2.2.2.2.2.2.2.2.2.1, s.g_shownPages, s.g_tape, r.2.2.2.2.2.2.2.2.1, r.2.2.2.2.2.2.2.2.2.2.1, r.2.2.2.2.2.2.2.2.2.2.2.1, r.2.2.2.2.2.2.2.2.2.2.2.2.1, r.2.2.2.2.2.2.2.2.2.2.2.2.2.1, s.g_bytes2, s.g_bytes1), (r.2.2.2.2.2.2.1, r.2.2.2.2.2.2.2.2.2.2.2.2.2.2.2.2.2.2.2.2.2.2.2.2.2.2.2.2.2.2.2.2.2.2.2.2.2.1, r.2.2.2.2.2.2.2.2.2.2.2.2.2.2.2.2.2.2.2.2.2.2.2.2.2.2.2.2.2.2.2.2.2.2.2.2.2.2.1, r.2.2.2.2.2.2.2.2.2.2.2.2.2.2.2.2.2.2.2.2.2.2.2.2.2.2.2.2.2.2.2.2.2.2.2.2.2.2.2.1), (r.2.2.2.2.2.1, s.n_lines_out, r.2.2.2.2.2.2.2.2.2.2.2.2.2.2.2.2.2.2.2.2.2.2.2.2.2.2.2.2.2.2.2.2.2.2.2.2.1, r.2.2.2.2.2.2.2.2.2.2.2.2.2.2.2.2.2.2.2.2.2.2.2.2.2.2.2.2.2.2.2.2.2.2.1, r.2.2.2.2.2.2.2.2.2.2.2.2.2.2.2.2.2.2.2.2.2.2.2.2.2.2.2.2.2.2.2.2.2.2.2.1, s.g_lines_whiteRests, s.g_lines_blackRests, s.g_lines_whiteBlocks, s.g_lines_blackBlocks, s.g_lines_blocks, s.g_lines_modes, s.g_lines_readAbove, s.g_lines_readLine), (r.2.2.2.2.1, s.n_sheet_dots, r.2.2.2.2.2.2.2.2.2.2.2.2.2.2.2.2.2.2.2.2.2.2.2.2.2.2.2.2.2.2.2.2.2.1), (r.2.2.1, r.2.2.2.2.2.2.2.2.2.2.2.2.2.2.1, s.g_desk_isKept, r.2.2.2.2.2.2.2.2.2.2.2.2.2.2.2.1, r.2.2.2.2.2.2.2.2.2.2.2.2.2.2.2.2.2.2.2.1, r.2.2.2.2.2.2.2.2.2.2.2.2.2.2.2.2.2.1, r.2.2.2.2.2.2.2.2.2.2.2.2.2.2.2.2.2.2.1, r.2.2.2.2.2.2.2.2.2.2.2.2.2.2.2.2.1, s.g_desk_kept), (r.2.2.2.1, r.2.2.2.2.2.2.2.2.2.2.2.2.2.2.2.2.2.2.2.2.2.2.1, r.2.2.2.2.2.2.2.2.2.2.2.2.2.2.2.2.2.2.2.2.2.2.2.1, r.2.2.2.2.2.2.2.2.2.2.2.2.2.2.2.2.2.2.2.2.2.2.2.2.1, r.2.2.2.2.2.2.2.2.2.2.2.2.2.2.2.2.2.2.2.2.2.2.2.2.2.1, r.2.2.2.2.2.2.2.2.2.2.2.2.2.2.2.2.2.2.2.2.2.2.2.2.2.2.1, r.2.2.2.2.2.2.2.2.2.2.2.2.2.2.2.2.2.2.2.2.2.2.2.2.2.2.2.1, r.2.2.2.2.2.2.2.2.2.2.2.2.2.2.2.2.2.2.2.2.2.2.2.2.2.2.2.2.1, r.2.2.2.2.2.2.2.2.2.2.2.2.2.2.2.2.2.2.2.2.2.2.2.2.2.2.2.2.2.1, r.2.2.2.2.2.2.2.2.2.2.2.2.2.2.2.2.2.2.2.2.2.2.2.2.2.2.2.2.2.2.1, r.2.2.2.2.2.2.2.2.2.2.2.2.2.2.2.2.2.2.2.2.2.2.2.2.2.2.2.2.2.2.2.1, r.2.2.2.2.2.2.2.2.2.2.2.2.2.2.2.2.2.2.2.2.2.2.2.2.2.2.2.2.2.2.2.2.1), (r.2.2.2.2.2.2.2.2.2.2.2.2.2.2.2.2.2.2.2.2.2.2.2.2.2.2.2.2.2.2.2.2.2.2.2.2.2.2.2.2.1, r.2.2.2.2.2.2.2.2.2.2.2.2.2.2.2.2.2.2.2.2.1, r.2.2.2.2.2.2.2.2.2.2.2.2.2.2.2.2.2.2.2.2.2.1, r.2.2.2.2.2.2.2.2.2.2.2.2.2.2.2.2.2.2.2.2.2.2.2.2.2.2.2.2.2.2.2.2.2.2.2.2.2.2.2.2.2, r.2.1, s.g_macros_buffer), s.2.2.2.2.2.2.2.1, s.2.2.2.2.2.2.2.2.1, s.2.2.2.2.2.2.2.2.2) : RS) := by
  intro n
  induction n with
  | zero => intro k s s' hk h; exact absurd h (by intro q; cases q)
  | succ n ih =>
    intro k s s' hk h
    rw [mBs1] at h
    rw [lp_Ref_run_c1_108c2, hl]
    by_cases q : L ≤ k
    · rw [if_pos q] at h
      rw [if_pos (nI_le q (by omega))]
      have h' := Option.some.inj h
      subst h'
      exact ⟨_, rfl, rfl⟩
    · rw [if_neg q] at h
      rw [if_neg (nI_ge (by omega) (by omega))]
      have e3 : dk_in (nI k) 16384 := dk_in_nI (by omega) (by omega)
      have e4 : (nI k).toNatClampNeg = k := nI_clamp (by omega)
      by_cases q5 : fd_Ref_fault s.o_this = 0
      · rw [if_pos q5] at h
        rw [if_pos q5, if_pos e3, e4, nI_1]
        obtain ⟨s1, e1, h⟩ := Option.bind_eq_some_iff.mp h
        unfold mComes2 at e1
        obtain ⟨r1, f1, e1⟩ := Option.map_eq_some_iff.mp e1
        subst e1
        obtain ⟨r, g1, g2⟩ := ih (k + 1) _ _ (by omega) h
        exact ⟨r, (bind_eq f1).trans g1, g2⟩
      · rw [if_neg q5] at h
        rw [if_neg q5]
        have h' := Option.some.inj h
        subst h'
        exact ⟨_, rfl, rfl⟩

theorem runl_1_108d3 {N L : Nat} {f lens : Nat → Int32} {v0 : Int32} (hL : L ≤ 16384) (hl : lens v0.toNatClampNeg = nI L) : ∀ (n k : Nat) (s s' : RS), k ≤ 16384 → mBs1 N L f n k s = some s' → ∃ r, lp_Ref_run_c1_108d3 N lens 7 14 2 s.n_sheet_dots s.g_lines_whiteRests s.g_lines_blackRests s.g_lines_whiteBlocks s.g_lines_blackBlocks s.g_lines_blocks s.g_lines_modes s.n_lines_out v0 f n (nI k) s.o_this s.g_macros_store s.o_shelf s.o_sheet s.o_lines s.o_job s.g_pages s.g_seed s.g_fresh s.g_xWhat s.g_xId s.g_toDo s.g_toDoId s.g_desk_steps s.g_desk_glyph s.g_desk_page s.g_desk_other s.g_desk_store s.g_macros_ids s.g_macros_permanent s.g_shelf_ids s.g_shelf_attributes s.g_shelf_permanent s.g_shelf_glyph s.g_shelf_store s.g_shelf_draft s.g_shelf_wishes s.g_shelf_pins s.g_shelf_coming s.g_shelf_bytes s.g_shelf_left s.g_sheet_dots s.g_lines_line s.g_lines_above s.g_lines_out s.g_job_file s.g_job_places s.g_job_lengths s.o_macros s.g_macros_lengths s.o_desk s.g_desk_state = some r ∧ s' = (((r.1, r.2.2.2.2.2.2.1, r.2.2.2.2.2.2.2.2.1, s.g_shownPages, s.g_tape, r.2.2.2.2.2.2.2.1, r.2.2.2.2.2.2.2.2.2.1, r.2.2.2.2.2.2.2.2.2.2.1, r.2.2.2.2.2.2.2.2.2.2.2.1, r.2.2.2.2.2.2.2.2.2.2.2.2.1, s.g_bytes2, s.g_bytes1), (r.2.2.2.2.2.1, r.2.2.2.2.2.2.2.2.2.2.2.2.2.2.2.2.2.2.2.2.2.2.2.2.2.2.2.2.2.2.2.2.2.2.2.1, r.2.2.2.2.2.2.2.2.2.2.2.2.2.2.2.2.2.2.2.2.2.2.2.2.2.2.2.2.2.2.2.2.2.2.2.2.1, r.2.2.2.2.2.2.2.2.2.2.2.2.2.2.2.2.2.2.2.2.2.2.2.2.2.2.2.2.2.2.2.2.2.2.2.2.2.1), (r.2.2.2.2.1, s.n_lines_out, r.2.2.2.2.2.2.2.2.2.2.2.2.2.2.2.2.2.2.2.2.2.2.2.2.2.2.2.2.2.2.2.2.2.2.1, r.2.2.2.2.2.2.2.2.2.2.2.2.2.2.2.2.2.2.2.2.2.2.2.2.2.2.2.2.2.2.2.2.1, r.2.2.2.2.2.2.2.2.2.2.2.2.2.2.2.2.2.2.2.2.2.2.2.2.2.2.2.2.2.2.2.2.2.1, s.g_lines_whiteRests, s.g_lines_blackRests, s.g_lines_whiteBlocks, s.g_lines_blackBlocks, s.g_lines_blocks, s.g_lines_modes, s.g_lines_readAbove, s.g_lines_readLine), (r.2.2.2.1, s.n_sheet_dots, r.2.2.2.2.2.2.2.2.2.2.2.2.2.2.2.2.2.2.2.2.2.2.2.2.2.2.2.2.2.2.2.1), (r.2.2.2.2.2.2.2.2.2.2.2.2.2.2.2.2.2.2.2.2.2.2.2.2.2.2.2.2.2.2.2.2.2.2.2.2.2.2.2.2.1, r.2.2.2.2.2.2.2.2.2.2.2.2.2.2.2.2.2.2.2.2.2.2.2.2.2.2.2.2.2.2.2.2.2.2.2.2.2.2.2.2.2, s.g_desk_isKept, r.2.2.2.2.2.2.2.2.2.2.2.2.2.1, r.2.2.2.2.2.2.2.2.2.2.2.2.2.2.2.2.2.1, r.2.2.2.2.2.2.2.2.2.2.2.2.2.2.2.1, r.2.2.2.2.2.2.2.2.2.2.2.2.2.2.2.2.1, r.2.2.2.2.2.2.2.2.2.2.2.2.2.2.1, s.g_desk_kept), (r.2.2.1, r.2.2.2.2.2.2.2.2.2.2.2.2.2.2.2.2.2.2.2.2.1, r.2.2.2.2.2.2.2.2.2.2.2.2.2.2.2.2.2.2.2.2.2.1, r.2.2.2.2.2.2.2.2.2.2.2.2.2.2.2.2.2.2.2.2.2.2.1, r.2.2.2.2.2.2.2.2.2.2.2.2.2.2.2.2.2.2.2.2.2.2.2.1, r.2.2.2.2.2.2.2.2.2.2.2.2.2.2.2.2.2.2.2.2.2.2.2.2.1, r.2.2.2.2.2.2.2.2.2.2.2.2.2.2.2.2.2.2.2.2.2.2.2.2.2.1, r.2.2.2.2.2.2.2.2.2.2.2.2.2.2.2.2.2.2.2.2.2.2.2.2.2.2.1, r.2.2.2.2.2.2.2.2.2.2.2.2.2.2.2.2.2.2.2.2.2.2.2.2.2.2.2.1, r.2.2.2.2.2.2.2.2.2.2.2.2.2.2.2.2.2.2.2.2.2.2.2.2.2.2.2.2.1, r.2.2.2.2.2.2.2.2.2.2.2.2.2.2.2.2.2.2.2.2.2.2.2.2.2.2.2.2.2.1, r.2.2.2.2.2.2.2.2.2.2.2.2.2.2.2.2.2.2.2.2.2.2.2.2.2.2.2.2.2.2.1), (r.2.2.2.2.2.2.2.2.2.2.2.2.2.2.2.2.2.2.2.2.2.2.2.2.2.2.2.2.2.2.2.2.2.2.2.2.2.2.1, r.2.2.2.2.2.2.2.2.2.2.2.2.2.2.2.2.2.2.1, r.2.2.2.2.2.2.2.2.2.2.2.2.2.2.2.2.2.2.2.1, r.2.2.2.2.2.2.2.2.2.2.2.2.2.2.2.2.2.2.2.2.2.2.2.2.2.2.2.2.2.2.2.2.2.2.2.2.2.2.2.1, r.2.1, s.g_macros_buffer), s.2.2.2.2.2.2.2.1, s.2.2.2.2.2.2.2.2.1, s.2.2.2.2.2.2.2.2.2) : RS) := by
  intro n
  induction n with
  | zero => intro k s s' hk h; exact absurd h (by intro q; cases q)
  | succ n ih =>
    intro k s s' hk h
    rw [mBs1] at h
    rw [lp_Ref_run_c1_108d3, hl]
    by_cases q : L ≤ k
    · rw [if_pos q] at h
      rw [if_pos (nI_le q (by omega))]
      have h' := Option.some.inj h
      subst h'
      exact ⟨_, rfl, rfl⟩
    · rw [if_neg q] at h
      rw [if_neg (nI_ge (by omega) (by omega))]
      have e3 : dk_in (nI k) 16384 := dk_in_nI (by omega) (by omega)
      have e4 : (nI k).toNatClampNeg = k := nI_clamp (by omega)
      by_cases q5 : fd_Ref_fault s.o_this = 0
      · rw [if_pos q5] at h
        rw [if_pos q5, if_pos e3, e4, nI_1]
        obtain ⟨s1, e1, h⟩ := Option.bind_eq_some_iff.mp h
        unfold mComes2 at e1
        obtain ⟨r1, f1, e1⟩ := Option.map_eq_some_iff.mp e1
        subst e1
        obtain ⟨r, g1, g2⟩ := ih (k + 1) _ _ (by omega) h
        exact ⟨r, (bind_eq f1).trans g1, g2⟩
      · rw [if_neg q5] at h
        rw [if_neg q5]
        have h' := Option.some.inj h
        subst h'
        exact ⟨_, rfl, rfl⟩

def mBs0 (N L : Nat) (f : Nat → Int32) : Nat → Nat → RS → Option RS
  | 0, _, _ => none
  | n + 1, k, s => if L ≤ k then some s else (if fd_Ref_fault s.o_this = 0 then (mComes1 N s (f k &&& 255)).bind (fun s1 => mBs0 N L f n (k + 1) s1) else some s)

theorem runl_0_108c2 {N L : Nat} {f lens : Nat → Int32} {v0 : Int32} (hL : L ≤ 16384) (hl : lens v0.toNatClampNeg = nI L) : ∀ (n k : Nat) (s s' : RS), k ≤ 16384 → mBs0 N L f n k s = some s' → ∃ r, lp_Ref_run_c0_108c2 N lens 7 14 2 s.n_sheet_dots s.g_lines_whiteRests s.g_lines_blackRests s.g_lines_whiteBlocks s.g_lines_blackBlocks s.g_lines_blocks s.g_lines_modes s.n_lines_out v0 f n (nI k) s.o_this s.g_macros_store s.o_desk s.o_shelf s.o_sheet s.o_lines s.o_job s.g_pages s.g_seed s.g_fresh s.g_xWhat s.g_xId s.g_toDo s.g_toDoId s.g_bytes2 s.g_desk_state s.g_desk_kept s.g_desk_isKept s.g_desk_steps s.g_desk_glyph s.g_desk_page s.g_desk_other s.g_desk_store s.g_shelf_ids s.g_shelf_attributes s.g_shelf_permanent s.g_shelf_glyph s.g_shelf_store s.g_shelf_draft s.g_shelf_wishes s.g_shelf_pins s.g_shelf_coming s.g_shelf_bytes s.g_shelf_left s.g_macros_ids s.g_macros_permanent s.g_sheet_dots s.g_lines_line s.g_lines_above s.g_lines_out s.g_job_file s.g_job_places s.g_job_lengths s.o_macros s.g_macros_lengths = some r ∧ s' = (((r.1, r.2.2.2.2.2.2.2.1, r.2.2.2.2.2.2.2.2.2.1, s.g_shownPages, s.g_tape, r.2.2.2.2.2.2.2.2.1, r.2.2.2.2.2.2.2.2.2.2.1, r.2.2.2.2.2.2.2.2.2.2.2.1, r.2.2.2.2.2.2.2.2.2.2.2.2.1, r.2.2.2.2.2.2.2.2.2.2.2.2.2.1, r.2.2.2.2.2.2.2.2.2.2.2.2.2.2.1, s.g_bytes1), (r.2.2.2.2.2.2.1, r.2.2.2.2.2.2.2.2.2.2.2.2.2.2.2.2.2.2.2.2.2.2.2.2.2.2.2.2.2.2.2.2.2.2.2.2.2.2.2.2.1, r.2.2.2.2.2.2.2.2.2.2.2.2.2.2.2.2.2.2.2.2.2.2.2.2.2.2.2.2.2.2.2.2.2.2.2.2.2.2.2.2.2.1, r.2.2.2.2.2.2.2.2.2.2.2.2.2.2.2.2.2.2.2.2.2.2.2.2.2.2.2.2.2.2.2.2.2.2.2.2.2.2.2.2.2.2.1), (r.2.2.2.2.2.1, s.n_lines_out, r.2.2.2.2.2.2.2.2.2.2.2.2.2.2.2.2.2.2.2.2.2.2.2.2.2.2.2.2.2.2.2.2.2.2.2.2.2.2.2.1, r.2.2.2.2.2.2.2.2.2.2.2.2.2.2.2.2.2.2.2.2.2.2.2.2.2.2.2.2.2.2.2.2.2.2.2.2.2.1, r.2.2.2.2.2.2.2.2.2.2.2.2.2.2.2.2.2.2.2.2.2.2.2.2.2.2.2.2.2.2.2.2.2.2.2.2.2.2.1, s.g_lines_whiteRests, s.g_lines_blackRests, s.g_lines_whiteBlocks, s.g_lines_blackBlocks, s.g_lines_blocks, s.g_lines_modes, s.g_lines_readAbove, s.g_lines_readLine), (r.2.2.2.2.1, s.n_sheet_dots, r.2.2.2.2.2.2.2.2.2.2.2.2.2.2.2.2.2.2.2.2.2.2.2.2.2.2.2.2.2.2.2.2.2.2.2.2.1), (r.2.2.1, r.2.2.2.2.2.2.2.2.2.2.2.2.2.2.2.1, r.2.2.2.2.2.2.2.2.2.2.2.2.2.2.2.2.2.1, r.2.2.2.2.2.2.2.2.2.2.2.2.2.2.2.2.2.2.1, r.2.2.2.2.2.2.2.2.2.2.2.2.2.2.2.2.2.2.2.2.2.2.1, r.2.2.2.2.2.2.2.2.2.2.2.2.2.2.2.2.2.2.2.2.1, r.2.2.2.2.2.2.2.2.2.2.2.2.2.2.2.2.2.2.2.2.2.1, r.2.2.2.2.2.2.2.2.2.2.2.2.2.2.2.2.2.2.2.1, r.2.2.2.2.2.2.2.2.2.2.2.2.2.2.2.2.1), (r.2.2.2.1, r.2.2.2.2.2.2.2.2.2.2.2.2.2.2.2.2.2.2.2.2.2.2.2.1, r.2.2.2.2.2.2.2.2.2.2.2.2.2.2.2.2.2.2.2.2.2.2.2.2.1, r.2.2.2.2.2.2.2.2.2.2.2.2.2.2.2.2.2.2.2.2.2.2.2.2.2.1, r.2.2.2.2.2.2.2.2.2.2.2.2.2.2.2.2.2.2.2.2.2.2.2.2.2.2.1, r.2.2.2.2.2.2.2.2.2.2.2.2.2.2.2.2.2.2.2.2.2.2.2.2.2.2.2.1, r.2.2.2.2.2.2.2.2.2.2.2.2.2.2.2.2.2.2.2.2.2.2.2.2.2.2.2.2.1, r.2.2.2.2.2.2.2.2.2.2.2.2.2.2.2.2.2.2.2.2.2.2.2.2.2.2.2.2.2.1, r.2.2.2.2.2.2.2.2.2.2.2.2.2.2.2.2.2.2.2.2.2.2.2.2.2.2.2.2.2.2.1, r.2.2.2.2.2.2.2.2.2.2.2.2.2.2.2.2.2.2.2.2.2.2.2.2.2.2.2.2.2.2.2.1, r.2.2.2.2.2.2.2.2.2.2.2.2.2.2.2.2.2.2.2.2.2.2.2.2.2.2.2.2.2.2.2.2.1, r.2.2.2.2.2.2.2.2.2.2.2.2.2.2.2.2.2.2.2.2.2.2.2.2.2.2.2.2.2.2.2.2.2.1), (r.2.2.2.2.2.2.2.2.2.2.2.2.2.2.2.2.2.2.2.2.2.2.2.2.2.2.2.2.2.2.2.2.2.2.2.2.2.2.2.2.2.2.2.1, r.2.2.2.2.2.2.2.2.2.2.2.2.2.2.2.2.2.2.2.2.2.2.2.2.2.2.2.2.2.2.2.2.2.2.1, r.2.2.2.2.2.2.2.2.2.2.2.2.2.2.2.2.2.2.2.2.2.2.2.2.2.2.2.2.2.2.2.2.2.2.2.1, r.2.2.2.2.2.2.2.2.2.2.2.2.2.2.2.2.2.2.2.2.2.2.2.2.2.2.2.2.2.2.2.2.2.2.2.2.2.2.2.2.2.2.2.2, r.2.1, s.g_macros_buffer), s.2.2.2.2.2.2.2.1, s.2.2.2.2.2.2.2.2.1, s.2.2.2.2.2.2.2.2.2) : RS) := by
  intro n
  induction n with
  | zero => intro k s s' hk h; exact absurd h (by intro q; cases q)
  | succ n ih =>
    intro k s s' hk h
    rw [mBs0] at h
    rw [lp_Ref_run_c0_108c2, hl]
    by_cases q : L ≤ k
    · rw [if_pos q] at h
      rw [if_pos (nI_le q (by omega))]
      have h' := Option.some.inj h
      subst h'
      exact ⟨_, rfl, rfl⟩
    · rw [if_neg q] at h
      rw [if_neg (nI_ge (by omega) (by omega))]
      have e3 : dk_in (nI k) 16384 := dk_in_nI (by omega) (by omega)
      have e4 : (nI k).toNatClampNeg = k := nI_clamp (by omega)
      by_cases q5 : fd_Ref_fault s.o_this = 0
      · rw [if_pos q5] at h
        rw [if_pos q5, if_pos e3, e4, nI_1]
        obtain ⟨s1, e1, h⟩ := Option.bind_eq_some_iff.mp h
        unfold mComes1 at e1
        obtain ⟨r1, f1, e1⟩ := Option.map_eq_some_iff.mp e1
        subst e1
        obtain ⟨r, g1, g2⟩ := ih (k + 1) _ _ (by omega) h
        exact ⟨r, (bind_eq f1).trans g1, g2⟩
      · rw [if_neg q5] at h
        rw [if_neg q5]
        have h' := Option.some.inj h
        subst h'
        exact ⟨_, rfl, rfl⟩

theorem runl_0_108d3 {N L : Nat} {f lens : Nat → Int32} {v0 : Int32} (hL : L ≤ 16384) (hl : lens v0.toNatClampNeg = nI L) : ∀ (n k : Nat) (s s' : RS), k ≤ 16384 → mBs0 N L f n k s = some s' → ∃ r, lp_Ref_run_c0_108d3 N lens 7 14 2 s.n_sheet_dots s.g_lines_whiteRests s.g_lines_blackRests s.g_lines_whiteBlocks s.g_lines_blackBlocks s.g_lines_blocks s.g_lines_modes s.n_lines_out v0 f n (nI k) s.o_this s.g_macros_store s.o_shelf s.o_sheet s.o_lines s.o_job s.g_pages s.g_seed s.g_fresh s.g_xWhat s.g_xId s.g_toDo s.g_toDoId s.g_bytes2 s.g_desk_steps s.g_desk_glyph s.g_desk_page s.g_desk_other s.g_desk_store s.g_shelf_ids s.g_shelf_attributes s.g_shelf_permanent s.g_shelf_glyph s.g_shelf_store s.g_shelf_draft s.g_shelf_wishes s.g_shelf_pins s.g_shelf_coming s.g_shelf_bytes s.g_shelf_left s.g_macros_ids s.g_macros_permanent s.g_sheet_dots s.g_lines_line s.g_lines_above s.g_lines_out s.g_job_file s.g_job_places s.g_job_lengths s.o_macros s.g_macros_lengths s.o_desk s.g_desk_kept s.g_desk_state s.g_desk_isKept = some r ∧ s' = (((r.1, r.2.2.2.2.2.2.1, r.2.2.2.2.2.2.2.2.1, s.g_shownPages, s.g_tape, r.2.2.2.2.2.2.2.1, r.2.2.2.2.2.2.2.2.2.1, r.2.2.2.2.2.2.2.2.2.2.1, r.2.2.2.2.2.2.2.2.2.2.2.1, r.2.2.2.2.2.2.2.2.2.2.2.2.1, r.2.2.2.2.2.2.2.2.2.2.2.2.2.1, s.g_bytes1), (r.2.2.2.2.2.1, r.2.2.2.2.2.2.2.2.2.2.2.2.2.2.2.2.2.2.2.2.2.2.2.2.2.2.2.2.2.2.2.2.2.2.2.2.1, r.2.2.2.2.2.2.2.2.2.2.2.2.2.2.2.2.2.2.2.2.2.2.2.2.2.2.2.2.2.2.2.2.2.2.2.2.2.1, r.2.2.2.2.2.2.2.2.2.2.2.2.2.2.2.2.2.2.2.2.2.2.2.2.2.2.2.2.2.2.2.2.2.2.2.2.2.2.1), (r.2.2.2.2.1, s.n_lines_out, r.2.2.2.2.2.2.2.2.2.2.2.2.2.2.2.2.2.2.2.2.2.2.2.2.2.2.2.2.2.2.2.2.2.2.2.1, r.2.2.2.2.2.2.2.2.2.2.2.2.2.2.2.2.2.2.2.2.2.2.2.2.2.2.2.2.2.2.2.2.2.1, r.2.2.2.2.2.2.2.2.2.2.2.2.2.2.2.2.2.2.2.2.2.2.2.2.2.2.2.2.2.2.2.2.2.2.1, s.g_lines_whiteRests, s.g_lines_blackRests, s.g_lines_whiteBlocks, s.g_lines_blackBlocks, s.g_lines_blocks, s.g_lines_modes, s.g_lines_readAbove, s.g_lines_readLine), (r.2.2.2.1, s.n_sheet_dots, r.2.2.2.2.2.2.2.2.2.2.2.2.2.2.2.2.2.2.2.2.2.2.2.2.2.2.2.2.2.2.2.2.1), (r.2.2.2.2.2.2.2.2.2.2.2.2.2.2.2.2.2.2.2.2.2.2.2.2.2.2.2.2.2.2.2.2.2.2.2.2.2.2.2.2.2.1, r.2.2.2.2.2.2.2.2.2.2.2.2.2.2.2.2.2.2.2.2.2.2.2.2.2.2.2.2.2.2.2.2.2.2.2.2.2.2.2.2.2.2.2.1, r.2.2.2.2.2.2.2.2.2.2.2.2.2.2.2.2.2.2.2.2.2.2.2.2.2.2.2.2.2.2.2.2.2.2.2.2.2.2.2.2.2.2.2.2, r.2.2.2.2.2.2.2.2.2.2.2.2.2.2.1, r.2.2.2.2.2.2.2.2.2.2.2.2.2.2.2.2.2.2.1, r.2.2.2.2.2.2.2.2.2.2.2.2.2.2.2.2.1, r.2.2.2.2.2.2.2.2.2.2.2.2.2.2.2.2.2.1, r.2.2.2.2.2.2.2.2.2.2.2.2.2.2.2.1, r.2.2.2.2.2.2.2.2.2.2.2.2.2.2.2.2.2.2.2.2.2.2.2.2.2.2.2.2.2.2.2.2.2.2.2.2.2.2.2.2.2.2.1), (r.2.2.1, r.2.2.2.2.2.2.2.2.2.2.2.2.2.2.2.2.2.2.2.1, r.2.2.2.2.2.2.2.2.2.2.2.2.2.2.2.2.2.2.2.2.1, r.2.2.2.2.2.2.2.2.2.2.2.2.2.2.2.2.2.2.2.2.2.1, r.2.2.2.2.2.2.2.2.2.2.2.2.2.2.2.2.2.2.2.2.2.2.1, r.2.2.2.2.2.2.2.2.2.2.2.2.2.2.2.2.2.2.2.2.2.2.2.1, r.2.2.2.2.2.2.2.2.2.2.2.2.2.2.2.2.2.2.2.2.2.2.2.2.1, r.2.2.2.2.2.2.2.2.2.2.2.2.2.2.2.2.2.2.2.2.2.2.2.2.2.1, r.2.2.2.2.2.2.2.2.2.2.2.2.2.2.2.2.2.2.2.2.2.2.2.2.2.2.1, r.2.2.2.2.2.2.2.2.2.2.2.2.2.2.2.2.2.2.2.2.2.2.2.2.2.2.2.1, r.2.2.2.2.2.2.2.2.2.2.2.2.2.2.2.2.2.2.2.2.2.2.2.2.2.2.2.2.1, r.2.2.2.2.2.2.2.2.2.2.2.2.2.2.2.2.2.2.2.2.2.2.2.2.2.2.2.2.2.1), (r.2.2.2.2.2.2.2.2.2.2.2.2.2.2.2.2.2.2.2.2.2.2.2.2.2.2.2.2.2.2.2.2.2.2.2.2.2.2.2.1, r.2.2.2.2.2.2.2.2.2.2.2.2.2.2.2.2.2.2.2.2.2.2.2.2.2.2.2.2.2.2.1, r.2.2.2.2.2.2.2.2.2.2.2.2.2.2.2.2.2.2.2.2.2.2.2.2.2.2.2.2.2.2.2.1, r.2.2.2.2.2.2.2.2.2.2.2.2.2.2.2.2.2.2.2.2.2.2.2.2.2.2.2.2.2.2.2.2.2.2.2.2.2.2.2.2.1, r.2.1, s.g_macros_buffer), s.2.2.2.2.2.2.2.1, s.2.2.2.2.2.2.2.2.1, s.2.2.2.2.2.2.2.2.2) : RS) := by
  intro n
  induction n with
  | zero => intro k s s' hk h; exact absurd h (by intro q; cases q)
  | succ n ih =>
    intro k s s' hk h
    rw [mBs0] at h
    rw [lp_Ref_run_c0_108d3, hl]
    by_cases q : L ≤ k
    · rw [if_pos q] at h
      rw [if_pos (nI_le q (by omega))]
      have h' := Option.some.inj h
      subst h'
      exact ⟨_, rfl, rfl⟩
    · rw [if_neg q] at h
      rw [if_neg (nI_ge (by omega) (by omega))]
      have e3 : dk_in (nI k) 16384 := dk_in_nI (by omega) (by omega)
      have e4 : (nI k).toNatClampNeg = k := nI_clamp (by omega)
      by_cases q5 : fd_Ref_fault s.o_this = 0
      · rw [if_pos q5] at h
        rw [if_pos q5, if_pos e3, e4, nI_1]
        obtain ⟨s1, e1, h⟩ := Option.bind_eq_some_iff.mp h
        unfold mComes1 at e1
        obtain ⟨r1, f1, e1⟩ := Option.map_eq_some_iff.mp e1
        subst e1
        obtain ⟨r, g1, g2⟩ := ih (k + 1) _ _ (by omega) h
        exact ⟨r, (bind_eq f1).trans g1, g2⟩
      · rw [if_neg q5] at h
        rw [if_neg q5]
        have h' := Option.some.inj h
        subst h'
        exact ⟨_, rfl, rfl⟩
def mIn1 (s : RS) (L : Nat) (f : Nat → Int32) : RS := (((fs_Ref_had s.o_this (fd_Ref_had s.o_this + nI L), s.g_pages, s.g_fresh, s.g_shownPages, s.g_tape, s.g_seed, s.g_xWhat, s.g_xId, s.g_toDo, s.g_toDoId, f, s.g_bytes1), s.2.1, s.2.2.1, s.2.2.2.1, s.2.2.2.2.1, s.2.2.2.2.2.1, s.2.2.2.2.2.2.1, s.2.2.2.2.2.2.2.1, s.2.2.2.2.2.2.2.2.1, s.2.2.2.2.2.2.2.2.2) : RS)

theorem run_1a {N j L : Nat} {s s' : RS} {st : Int32} {f : Nat → Int32} (hj : j < 32) (hL : L ≤ 16384) (hl : s.g_macros_lengths j = nI L) (h1 : ex_mMacros_startOf N s.o_macros s.g_macros_lengths (nI j) = some st) (h2 : lp_Ref_run_c1_52 s.g_macros_lengths s.g_macros_store (nI j) st N 0 s.g_bytes2 = some f) (h3 : mBs1 N L f N 0 (mIn1 s L f) = some s') : mRun1 N s (nI j) 0 = some s' := by
  have e1 : dk_in (nI j) 32 := dk_in_nI (by omega) (by omega)
  have e2 : (nI j).toNatClampNeg = j := nI_clamp (by omega)
  obtain ⟨r, g1, g2⟩ := runl_1_108c2 (lens := s.g_macros_lengths) (v0 := nI j) hL (by rw [e2]; exact hl) N 0 _ _ (by omega) h3
  unfold mRun1
  refine Option.map_eq_some_iff.mpr ⟨(r.1, f, r.2.2.2.2.2.2.2.2.2.2.2.2.2.2.2.2.2.2.2.2.2.2.2.2.2.2.2.2.2.2.2.2.2.2.2.2.2.2.2.2.1, r.2.2.2.2.2.2.2.2.2.2.2.2.2.2.2.2.2.2.2.2.2.2.2.2.2.2.2.2.2.2.2.2.2.2.2.2.2.2.2.2.2, r.2.1, r.2.2.1, r.2.2.2.1, r.2.2.2.2.1, r.2.2.2.2.2.1, r.2.2.2.2.2.2.1, r.2.2.2.2.2.2.2.1, r.2.2.2.2.2.2.2.2.1, r.2.2.2.2.2.2.2.2.2.1, r.2.2.2.2.2.2.2.2.2.2.1, r.2.2.2.2.2.2.2.2.2.2.2.1, r.2.2.2.2.2.2.2.2.2.2.2.2.1, r.2.2.2.2.2.2.2.2.2.2.2.2.2.1, r.2.2.2.2.2.2.2.2.2.2.2.2.2.2.1, r.2.2.2.2.2.2.2.2.2.2.2.2.2.2.2.1, r.2.2.2.2.2.2.2.2.2.2.2.2.2.2.2.2.1, r.2.2.2.2.2.2.2.2.2.2.2.2.2.2.2.2.2.1, r.2.2.2.2.2.2.2.2.2.2.2.2.2.2.2.2.2.2.1, r.2.2.2.2.2.2.2.2.2.2.2.2.2.2.2.2.2.2.2.1, r.2.2.2.2.2.2.2.2.2.2.2.2.2.2.2.2.2.2.2.2.1, r.2.2.2.2.2.2.2.2.2.2.2.2.2.2.2.2.2.2.2.2.2.1, r.2.2.2.2.2.2.2.2.2.2.2.2.2.2.2.2.2.2.2.2.2.2.1, r.2.2.2.2.2.2.2.2.2.2.2.2.2.2.2.2.2.2.2.2.2.2.2.1, r.2.2.2.2.2.2.2.2.2.2.2.2.2.2.2.2.2.2.2.2.2.2.2.2.1, r.2.2.2.2.2.2.2.2.2.2.2.2.2.2.2.2.2.2.2.2.2.2.2.2.2.1, r.2.2.2.2.2.2.2.2.2.2.2.2.2.2.2.2.2.2.2.2.2.2.2.2.2.2.1, r.2.2.2.2.2.2.2.2.2.2.2.2.2.2.2.2.2.2.2.2.2.2.2.2.2.2.2.1, r.2.2.2.2.2.2.2.2.2.2.2.2.2.2.2.2.2.2.2.2.2.2.2.2.2.2.2.2.1, r.2.2.2.2.2.2.2.2.2.2.2.2.2.2.2.2.2.2.2.2.2.2.2.2.2.2.2.2.2.1, r.2.2.2.2.2.2.2.2.2.2.2.2.2.2.2.2.2.2.2.2.2.2.2.2.2.2.2.2.2.2.1, r.2.2.2.2.2.2.2.2.2.2.2.2.2.2.2.2.2.2.2.2.2.2.2.2.2.2.2.2.2.2.2.1, r.2.2.2.2.2.2.2.2.2.2.2.2.2.2.2.2.2.2.2.2.2.2.2.2.2.2.2.2.2.2.2.2.1, r.2.2.2.2.2.2.2.2.2.2.2.2.2.2.2.2.2.2.2.2.2.2.2.2.2.2.2.2.2.2.2.2.2.1, r.2.2.2.2.2.2.2.2.2.2.2.2.2.2.2.2.2.2.2.2.2.2.2.2.2.2.2.2.2.2.2.2.2.2.1, r.2.2.2.2.2.2.2.2.2.2.2.2.2.2.2.2.2.2.2.2.2.2.2.2.2.2.2.2.2.2.2.2.2.2.2.1, r.2.2.2.2.2.2.2.2.2.2.2.2.2.2.2.2.2.2.2.2.2.2.2.2.2.2.2.2.2.2.2.2.2.2.2.2.1, r.2.2.2.2.2.2.2.2.2.2.2.2.2.2.2.2.2.2.2.2.2.2.2.2.2.2.2.2.2.2.2.2.2.2.2.2.2.1, r.2.2.2.2.2.2.2.2.2.2.2.2.2.2.2.2.2.2.2.2.2.2.2.2.2.2.2.2.2.2.2.2.2.2.2.2.2.2.1, r.2.2.2.2.2.2.2.2.2.2.2.2.2.2.2.2.2.2.2.2.2.2.2.2.2.2.2.2.2.2.2.2.2.2.2.2.2.2.2.1, s.g_desk_kept, s.g_desk_isKept), ?_, by rw [g2]; rfl⟩
  unfold ex_Ref_run_c1
  rw [if_pos e1]
  refine (bind_eq h1).trans ?_
  refine (bind_eq h2).trans ?_
  rw [if_pos rfl, e2, hl]
  refine (bind_eq g1).trans ?_
  rw [if_pos rfl]

def mIn0 (s : RS) (L : Nat) (f : Nat → Int32) : RS := (((fs_Ref_had s.o_this (fd_Ref_had s.o_this + nI L), s.g_pages, s.g_fresh, s.g_shownPages, s.g_tape, s.g_seed, s.g_xWhat, s.g_xId, s.g_toDo, s.g_toDoId, s.g_bytes2, f), s.2.1, s.2.2.1, s.2.2.2.1, s.2.2.2.2.1, s.2.2.2.2.2.1, s.2.2.2.2.2.2.1, s.2.2.2.2.2.2.2.1, s.2.2.2.2.2.2.2.2.1, s.2.2.2.2.2.2.2.2.2) : RS)

theorem run_0a {N j L : Nat} {s s' : RS} {st : Int32} {f : Nat → Int32} (hj : j < 32) (hL : L ≤ 16384) (hl : s.g_macros_lengths j = nI L) (h1 : ex_mMacros_startOf N s.o_macros s.g_macros_lengths (nI j) = some st) (h2 : lp_Ref_run_c0_52 s.g_macros_lengths s.g_macros_store (nI j) st N 0 s.g_bytes1 = some f) (h3 : mBs0 N L f N 0 (mIn0 s L f) = some s') : mRun0 N s (nI j) 0 = some s' := by
  have e1 : dk_in (nI j) 32 := dk_in_nI (by omega) (by omega)
  have e2 : (nI j).toNatClampNeg = j := nI_clamp (by omega)
  obtain ⟨r, g1, g2⟩ := runl_0_108c2 (lens := s.g_macros_lengths) (v0 := nI j) hL (by rw [e2]; exact hl) N 0 _ _ (by omega) h3
  unfold mRun0
  refine Option.map_eq_some_iff.mpr ⟨(r.1, f, r.2.2.2.2.2.2.2.2.2.2.2.2.2.2.2.2.2.2.2.2.2.2.2.2.2.2.2.2.2.2.2.2.2.2.2.2.2.2.2.2.2.2.2.1, r.2.2.2.2.2.2.2.2.2.2.2.2.2.2.2.2.2.2.2.2.2.2.2.2.2.2.2.2.2.2.2.2.2.2.2.2.2.2.2.2.2.2.2.2, r.2.1, r.2.2.1, r.2.2.2.1, r.2.2.2.2.1, r.2.2.2.2.2.1, r.2.2.2.2.2.2.1, r.2.2.2.2.2.2.2.1, r.2.2.2.2.2.2.2.2.1, r.2.2.2.2.2.2.2.2.2.1, r.2.2.2.2.2.2.2.2.2.2.1, r.2.2.2.2.2.2.2.2.2.2.2.1, r.2.2.2.2.2.2.2.2.2.2.2.2.1, r.2.2.2.2.2.2.2.2.2.2.2.2.2.1, r.2.2.2.2.2.2.2.2.2.2.2.2.2.2.1, r.2.2.2.2.2.2.2.2.2.2.2.2.2.2.2.1, r.2.2.2.2.2.2.2.2.2.2.2.2.2.2.2.2.1, r.2.2.2.2.2.2.2.2.2.2.2.2.2.2.2.2.2.1, r.2.2.2.2.2.2.2.2.2.2.2.2.2.2.2.2.2.2.1, r.2.2.2.2.2.2.2.2.2.2.2.2.2.2.2.2.2.2.2.1, r.2.2.2.2.2.2.2.2.2.2.2.2.2.2.2.2.2.2.2.2.1, r.2.2.2.2.2.2.2.2.2.2.2.2.2.2.2.2.2.2.2.2.2.1, r.2.2.2.2.2.2.2.2.2.2.2.2.2.2.2.2.2.2.2.2.2.2.1, r.2.2.2.2.2.2.2.2.2.2.2.2.2.2.2.2.2.2.2.2.2.2.2.1, r.2.2.2.2.2.2.2.2.2.2.2.2.2.2.2.2.2.2.2.2.2.2.2.2.1, r.2.2.2.2.2.2.2.2.2.2.2.2.2.2.2.2.2.2.2.2.2.2.2.2.2.1, r.2.2.2.2.2.2.2.2.2.2.2.2.2.2.2.2.2.2.2.2.2.2.2.2.2.2.1, r.2.2.2.2.2.2.2.2.2.2.2.2.2.2.2.2.2.2.2.2.2.2.2.2.2.2.2.1, r.2.2.2.2.2.2.2.2.2.2.2.2.2.2.2.2.2.2.2.2.2.2.2.2.2.2.2.2.1, r.2.2.2.2.2.2.2.2.2.2.2.2.2.2.2.2.2.2.2.2.2.2.2.2.2.2.2.2.2.1, r.2.2.2.2.2.2.2.2.2.2.2.2.2.2.2.2.2.2.2.2.2.2.2.2.2.2.2.2.2.2.1, r.2.2.2.2.2.2.2.2.2.2.2.2.2.2.2.2.2.2.2.2.2.2.2.2.2.2.2.2.2.2.2.1, r.2.2.2.2.2.2.2.2.2.2.2.2.2.2.2.2.2.2.2.2.2.2.2.2.2.2.2.2.2.2.2.2.1, r.2.2.2.2.2.2.2.2.2.2.2.2.2.2.2.2.2.2.2.2.2.2.2.2.2.2.2.2.2.2.2.2.2.1, r.2.2.2.2.2.2.2.2.2.2.2.2.2.2.2.2.2.2.2.2.2.2.2.2.2.2.2.2.2.2.2.2.2.2.1, r.2.2.2.2.2.2.2.2.2.2.2.2.2.2.2.2.2.2.2.2.2.2.2.2.2.2.2.2.2.2.2.2.2.2.2.1, r.2.2.2.2.2.2.2.2.2.2.2.2.2.2.2.2.2.2.2.2.2.2.2.2.2.2.2.2.2.2.2.2.2.2.2.2.1, r.2.2.2.2.2.2.2.2.2.2.2.2.2.2.2.2.2.2.2.2.2.2.2.2.2.2.2.2.2.2.2.2.2.2.2.2.2.1, r.2.2.2.2.2.2.2.2.2.2.2.2.2.2.2.2.2.2.2.2.2.2.2.2.2.2.2.2.2.2.2.2.2.2.2.2.2.2.1, r.2.2.2.2.2.2.2.2.2.2.2.2.2.2.2.2.2.2.2.2.2.2.2.2.2.2.2.2.2.2.2.2.2.2.2.2.2.2.2.1, r.2.2.2.2.2.2.2.2.2.2.2.2.2.2.2.2.2.2.2.2.2.2.2.2.2.2.2.2.2.2.2.2.2.2.2.2.2.2.2.2.1, r.2.2.2.2.2.2.2.2.2.2.2.2.2.2.2.2.2.2.2.2.2.2.2.2.2.2.2.2.2.2.2.2.2.2.2.2.2.2.2.2.2.1, r.2.2.2.2.2.2.2.2.2.2.2.2.2.2.2.2.2.2.2.2.2.2.2.2.2.2.2.2.2.2.2.2.2.2.2.2.2.2.2.2.2.2.1), ?_, by rw [g2]; rfl⟩
  unfold ex_Ref_run_c0
  rw [if_pos e1]
  refine (bind_eq h1).trans ?_
  refine (bind_eq h2).trans ?_
  rw [if_pos rfl, e2, hl]
  refine (bind_eq g1).trans ?_
  rw [if_pos rfl]

def mKe (s : RS) (od : ob_mDesk) (kg ik : Nat → Int32) : RS := ((s.1, s.2.1, s.2.2.1, s.2.2.2.1, (od, s.g_desk_state, ik, s.g_desk_steps, s.g_desk_store, s.g_desk_page, s.g_desk_other, s.g_desk_glyph, kg), s.2.2.2.2.2.1, s.2.2.2.2.2.2.1, s.2.2.2.2.2.2.2.1, s.2.2.2.2.2.2.2.2.1, s.2.2.2.2.2.2.2.2.2) : RS)

def mDs (s : RS) (od : ob_mDesk) (g : Nat → Int32) : RS := ((s.1, s.2.1, s.2.2.1, s.2.2.2.1, (od, g, s.g_desk_isKept, s.g_desk_steps, s.g_desk_store, s.g_desk_page, s.g_desk_other, s.g_desk_glyph, s.g_desk_kept), s.2.2.2.2.2.1, s.2.2.2.2.2.2.1, s.2.2.2.2.2.2.2.1, s.2.2.2.2.2.2.2.2.1, s.2.2.2.2.2.2.2.2.2) : RS)

theorem run_1f {N j L : Nat} {s s1 : RS} {st : Int32} {f kg ik : Nat → Int32} {od : ob_mDesk} (hj : j < 32) (hL : L ≤ 16384) (hl : s.g_macros_lengths j = nI L) (h1 : ex_mMacros_startOf N s.o_macros s.g_macros_lengths (nI j) = some st) (h2 : lp_Ref_run_c1_52 s.g_macros_lengths s.g_macros_store (nI j) st N 0 s.g_bytes2 = some f) (hk : ex_mDesk_keep N s.o_desk s.g_desk_kept s.g_desk_state s.g_desk_isKept 1 = some (od, kg, ik, 1)) (h3 : mBs1 N L f N 0 (mKe (mIn1 s L f) od kg ik) = some s1) (hf : ¬ fd_Ref_fault s1.o_this = 0) : mRun1 N s (nI j) 1 = some s1 := by
  have e1 : dk_in (nI j) 32 := dk_in_nI (by omega) (by omega)
  have e2 : (nI j).toNatClampNeg = j := nI_clamp (by omega)
  obtain ⟨r, g1, gq⟩ := runl_1_108d3 (lens := s.g_macros_lengths) (v0 := nI j) hL (by rw [e2]; exact hl) N 0 _ _ (by omega) h3
  unfold mRun1
  refine Option.map_eq_some_iff.mpr ⟨(r.1, f, r.2.2.2.2.2.2.2.2.2.2.2.2.2.2.2.2.2.2.2.2.2.2.2.2.2.2.2.2.2.2.2.2.2.2.2.2.2.2.1, r.2.2.2.2.2.2.2.2.2.2.2.2.2.2.2.2.2.2.2.2.2.2.2.2.2.2.2.2.2.2.2.2.2.2.2.2.2.2.2.1, r.2.1, r.2.2.2.2.2.2.2.2.2.2.2.2.2.2.2.2.2.2.2.2.2.2.2.2.2.2.2.2.2.2.2.2.2.2.2.2.2.2.2.2.1, r.2.2.1, r.2.2.2.1, r.2.2.2.2.1, r.2.2.2.2.2.1, r.2.2.2.2.2.2.1, r.2.2.2.2.2.2.2.1, r.2.2.2.2.2.2.2.2.1, r.2.2.2.2.2.2.2.2.2.1, r.2.2.2.2.2.2.2.2.2.2.1, r.2.2.2.2.2.2.2.2.2.2.2.1, r.2.2.2.2.2.2.2.2.2.2.2.2.1, r.2.2.2.2.2.2.2.2.2.2.2.2.2.2.2.2.2.2.2.2.2.2.2.2.2.2.2.2.2.2.2.2.2.2.2.2.2.2.2.2.2, r.2.2.2.2.2.2.2.2.2.2.2.2.2.1, r.2.2.2.2.2.2.2.2.2.2.2.2.2.2.1, r.2.2.2.2.2.2.2.2.2.2.2.2.2.2.2.1, r.2.2.2.2.2.2.2.2.2.2.2.2.2.2.2.2.1, r.2.2.2.2.2.2.2.2.2.2.2.2.2.2.2.2.2.1, r.2.2.2.2.2.2.2.2.2.2.2.2.2.2.2.2.2.2.1, r.2.2.2.2.2.2.2.2.2.2.2.2.2.2.2.2.2.2.2.1, r.2.2.2.2.2.2.2.2.2.2.2.2.2.2.2.2.2.2.2.2.1, r.2.2.2.2.2.2.2.2.2.2.2.2.2.2.2.2.2.2.2.2.2.1, r.2.2.2.2.2.2.2.2.2.2.2.2.2.2.2.2.2.2.2.2.2.2.1, r.2.2.2.2.2.2.2.2.2.2.2.2.2.2.2.2.2.2.2.2.2.2.2.1, r.2.2.2.2.2.2.2.2.2.2.2.2.2.2.2.2.2.2.2.2.2.2.2.2.1, r.2.2.2.2.2.2.2.2.2.2.2.2.2.2.2.2.2.2.2.2.2.2.2.2.2.1, r.2.2.2.2.2.2.2.2.2.2.2.2.2.2.2.2.2.2.2.2.2.2.2.2.2.2.1, r.2.2.2.2.2.2.2.2.2.2.2.2.2.2.2.2.2.2.2.2.2.2.2.2.2.2.2.1, r.2.2.2.2.2.2.2.2.2.2.2.2.2.2.2.2.2.2.2.2.2.2.2.2.2.2.2.2.1, r.2.2.2.2.2.2.2.2.2.2.2.2.2.2.2.2.2.2.2.2.2.2.2.2.2.2.2.2.2.1, r.2.2.2.2.2.2.2.2.2.2.2.2.2.2.2.2.2.2.2.2.2.2.2.2.2.2.2.2.2.2.1, r.2.2.2.2.2.2.2.2.2.2.2.2.2.2.2.2.2.2.2.2.2.2.2.2.2.2.2.2.2.2.2.1, r.2.2.2.2.2.2.2.2.2.2.2.2.2.2.2.2.2.2.2.2.2.2.2.2.2.2.2.2.2.2.2.2.1, r.2.2.2.2.2.2.2.2.2.2.2.2.2.2.2.2.2.2.2.2.2.2.2.2.2.2.2.2.2.2.2.2.2.1, r.2.2.2.2.2.2.2.2.2.2.2.2.2.2.2.2.2.2.2.2.2.2.2.2.2.2.2.2.2.2.2.2.2.2.1, r.2.2.2.2.2.2.2.2.2.2.2.2.2.2.2.2.2.2.2.2.2.2.2.2.2.2.2.2.2.2.2.2.2.2.2.1, r.2.2.2.2.2.2.2.2.2.2.2.2.2.2.2.2.2.2.2.2.2.2.2.2.2.2.2.2.2.2.2.2.2.2.2.2.1, r.2.2.2.2.2.2.2.2.2.2.2.2.2.2.2.2.2.2.2.2.2.2.2.2.2.2.2.2.2.2.2.2.2.2.2.2.2.1, kg, ik), ?_, by rw [gq]; rfl⟩
  rw [gq] at hf
  unfold ex_Ref_run_c1
  rw [if_pos e1]
  refine (bind_eq h1).trans ?_
  refine (bind_eq h2).trans ?_
  rw [if_neg (show ¬ (1 : Int32) = 0 by decide)]
  refine (bind_eq hk).trans ?_
  rw [if_neg (show ¬ (1 : Int32) = 0 by decide), e2, hl]
  refine (bind_eq g1).trans ?_
  rw [if_neg (show ¬ (1 : Int32) = 0 by decide)]
  exact if_neg hf

theorem run_1b {N j L : Nat} {s s1 : RS} {st : Int32} {f kg ik : Nat → Int32} {od : ob_mDesk} (hj : j < 32) (hL : L ≤ 16384) (hl : s.g_macros_lengths j = nI L) (h1 : ex_mMacros_startOf N s.o_macros s.g_macros_lengths (nI j) = some st) (h2 : lp_Ref_run_c1_52 s.g_macros_lengths s.g_macros_store (nI j) st N 0 s.g_bytes2 = some f) (hk : ex_mDesk_keep N s.o_desk s.g_desk_kept s.g_desk_state s.g_desk_isKept 1 = some (od, kg, ik, 1)) (h3 : mBs1 N L f N 0 (mKe (mIn1 s L f) od kg ik) = some s1) (hf : fd_Ref_fault s1.o_this = 0) {od2 : ob_mDesk} {g2 : Nat → Int32} {x : Int32} (hb : ex_mDesk_bring N s1.o_desk s1.g_desk_isKept s1.g_desk_state s1.g_desk_kept 1 = some (od2, g2, x)) : mRun1 N s (nI j) 1 = some (mDs s1 od2 g2) := by
  have e1 : dk_in (nI j) 32 := dk_in_nI (by omega) (by omega)
  have e2 : (nI j).toNatClampNeg = j := nI_clamp (by omega)
  obtain ⟨r, g1, gq⟩ := runl_1_108d3 (lens := s.g_macros_lengths) (v0 := nI j) hL (by rw [e2]; exact hl) N 0 _ _ (by omega) h3
  unfold mRun1
  refine Option.map_eq_some_iff.mpr ⟨(r.1, f, r.2.2.2.2.2.2.2.2.2.2.2.2.2.2.2.2.2.2.2.2.2.2.2.2.2.2.2.2.2.2.2.2.2.2.2.2.2.2.1, r.2.2.2.2.2.2.2.2.2.2.2.2.2.2.2.2.2.2.2.2.2.2.2.2.2.2.2.2.2.2.2.2.2.2.2.2.2.2.2.1, r.2.1, od2, r.2.2.1, r.2.2.2.1, r.2.2.2.2.1, r.2.2.2.2.2.1, r.2.2.2.2.2.2.1, r.2.2.2.2.2.2.2.1, r.2.2.2.2.2.2.2.2.1, r.2.2.2.2.2.2.2.2.2.1, r.2.2.2.2.2.2.2.2.2.2.1, r.2.2.2.2.2.2.2.2.2.2.2.1, r.2.2.2.2.2.2.2.2.2.2.2.2.1, g2, r.2.2.2.2.2.2.2.2.2.2.2.2.2.1, r.2.2.2.2.2.2.2.2.2.2.2.2.2.2.1, r.2.2.2.2.2.2.2.2.2.2.2.2.2.2.2.1, r.2.2.2.2.2.2.2.2.2.2.2.2.2.2.2.2.1, r.2.2.2.2.2.2.2.2.2.2.2.2.2.2.2.2.2.1, r.2.2.2.2.2.2.2.2.2.2.2.2.2.2.2.2.2.2.1, r.2.2.2.2.2.2.2.2.2.2.2.2.2.2.2.2.2.2.2.1, r.2.2.2.2.2.2.2.2.2.2.2.2.2.2.2.2.2.2.2.2.1, r.2.2.2.2.2.2.2.2.2.2.2.2.2.2.2.2.2.2.2.2.2.1, r.2.2.2.2.2.2.2.2.2.2.2.2.2.2.2.2.2.2.2.2.2.2.1, r.2.2.2.2.2.2.2.2.2.2.2.2.2.2.2.2.2.2.2.2.2.2.2.1, r.2.2.2.2.2.2.2.2.2.2.2.2.2.2.2.2.2.2.2.2.2.2.2.2.1, r.2.2.2.2.2.2.2.2.2.2.2.2.2.2.2.2.2.2.2.2.2.2.2.2.2.1, r.2.2.2.2.2.2.2.2.2.2.2.2.2.2.2.2.2.2.2.2.2.2.2.2.2.2.1, r.2.2.2.2.2.2.2.2.2.2.2.2.2.2.2.2.2.2.2.2.2.2.2.2.2.2.2.1, r.2.2.2.2.2.2.2.2.2.2.2.2.2.2.2.2.2.2.2.2.2.2.2.2.2.2.2.2.1, r.2.2.2.2.2.2.2.2.2.2.2.2.2.2.2.2.2.2.2.2.2.2.2.2.2.2.2.2.2.1, r.2.2.2.2.2.2.2.2.2.2.2.2.2.2.2.2.2.2.2.2.2.2.2.2.2.2.2.2.2.2.1, r.2.2.2.2.2.2.2.2.2.2.2.2.2.2.2.2.2.2.2.2.2.2.2.2.2.2.2.2.2.2.2.1, r.2.2.2.2.2.2.2.2.2.2.2.2.2.2.2.2.2.2.2.2.2.2.2.2.2.2.2.2.2.2.2.2.1, r.2.2.2.2.2.2.2.2.2.2.2.2.2.2.2.2.2.2.2.2.2.2.2.2.2.2.2.2.2.2.2.2.2.1, r.2.2.2.2.2.2.2.2.2.2.2.2.2.2.2.2.2.2.2.2.2.2.2.2.2.2.2.2.2.2.2.2.2.2.1, r.2.2.2.2.2.2.2.2.2.2.2.2.2.2.2.2.2.2.2.2.2.2.2.2.2.2.2.2.2.2.2.2.2.2.2.1, r.2.2.2.2.2.2.2.2.2.2.2.2.2.2.2.2.2.2.2.2.2.2.2.2.2.2.2.2.2.2.2.2.2.2.2.2.1, r.2.2.2.2.2.2.2.2.2.2.2.2.2.2.2.2.2.2.2.2.2.2.2.2.2.2.2.2.2.2.2.2.2.2.2.2.2.1, kg, ik), ?_, by rw [gq]; rfl⟩
  rw [gq] at hf hb
  unfold ex_Ref_run_c1
  rw [if_pos e1]
  refine (bind_eq h1).trans ?_
  refine (bind_eq h2).trans ?_
  rw [if_neg (show ¬ (1 : Int32) = 0 by decide)]
  refine (bind_eq hk).trans ?_
  rw [if_neg (show ¬ (1 : Int32) = 0 by decide), e2, hl]
  refine (bind_eq g1).trans ?_
  rw [if_neg (show ¬ (1 : Int32) = 0 by decide)]
  refine (if_pos hf).trans ?_
  exact (bind_eq hb).trans rfl

theorem run_0f {N j L : Nat} {s s1 : RS} {st : Int32} {f kg ik : Nat → Int32} {od : ob_mDesk} (hj : j < 32) (hL : L ≤ 16384) (hl : s.g_macros_lengths j = nI L) (h1 : ex_mMacros_startOf N s.o_macros s.g_macros_lengths (nI j) = some st) (h2 : lp_Ref_run_c0_52 s.g_macros_lengths s.g_macros_store (nI j) st N 0 s.g_bytes1 = some f) (hk : ex_mDesk_keep N s.o_desk s.g_desk_kept s.g_desk_state s.g_desk_isKept 0 = some (od, kg, ik, 1)) (h3 : mBs0 N L f N 0 (mKe (mIn0 s L f) od kg ik) = some s1) (hf : ¬ fd_Ref_fault s1.o_this = 0) : mRun0 N s (nI j) 1 = some s1 := by
  have e1 : dk_in (nI j) 32 := dk_in_nI (by omega) (by omega)
  have e2 : (nI j).toNatClampNeg = j := nI_clamp (by omega)
  obtain ⟨r, g1, gq⟩ := runl_0_108d3 (lens := s.g_macros_lengths) (v0 := nI j) hL (by rw [e2]; exact hl) N 0 _ _ (by omega) h3
  unfold mRun0
  refine Option.map_eq_some_iff.mpr ⟨(r.1, f, r.2.2.2.2.2.2.2.2.2.2.2.2.2.2.2.2.2.2.2.2.2.2.2.2.2.2.2.2.2.2.2.2.2.2.2.2.2.2.2.1, r.2.2.2.2.2.2.2.2.2.2.2.2.2.2.2.2.2.2.2.2.2.2.2.2.2.2.2.2.2.2.2.2.2.2.2.2.2.2.2.2.1, r.2.1, r.2.2.2.2.2.2.2.2.2.2.2.2.2.2.2.2.2.2.2.2.2.2.2.2.2.2.2.2.2.2.2.2.2.2.2.2.2.2.2.2.2.1, r.2.2.1, r.2.2.2.1, r.2.2.2.2.1, r.2.2.2.2.2.1, r.2.2.2.2.2.2.1, r.2.2.2.2.2.2.2.1, r.2.2.2.2.2.2.2.2.1, r.2.2.2.2.2.2.2.2.2.1, r.2.2.2.2.2.2.2.2.2.2.1, r.2.2.2.2.2.2.2.2.2.2.2.1, r.2.2.2.2.2.2.2.2.2.2.2.2.1, r.2.2.2.2.2.2.2.2.2.2.2.2.2.1, r.2.2.2.2.2.2.2.2.2.2.2.2.2.2.2.2.2.2.2.2.2.2.2.2.2.2.2.2.2.2.2.2.2.2.2.2.2.2.2.2.2.2.2.1, r.2.2.2.2.2.2.2.2.2.2.2.2.2.2.2.2.2.2.2.2.2.2.2.2.2.2.2.2.2.2.2.2.2.2.2.2.2.2.2.2.2.2.1, r.2.2.2.2.2.2.2.2.2.2.2.2.2.2.2.2.2.2.2.2.2.2.2.2.2.2.2.2.2.2.2.2.2.2.2.2.2.2.2.2.2.2.2.2, r.2.2.2.2.2.2.2.2.2.2.2.2.2.2.1, r.2.2.2.2.2.2.2.2.2.2.2.2.2.2.2.1, r.2.2.2.2.2.2.2.2.2.2.2.2.2.2.2.2.1, r.2.2.2.2.2.2.2.2.2.2.2.2.2.2.2.2.2.1, r.2.2.2.2.2.2.2.2.2.2.2.2.2.2.2.2.2.2.1, r.2.2.2.2.2.2.2.2.2.2.2.2.2.2.2.2.2.2.2.1, r.2.2.2.2.2.2.2.2.2.2.2.2.2.2.2.2.2.2.2.2.1, r.2.2.2.2.2.2.2.2.2.2.2.2.2.2.2.2.2.2.2.2.2.1, r.2.2.2.2.2.2.2.2.2.2.2.2.2.2.2.2.2.2.2.2.2.2.1, r.2.2.2.2.2.2.2.2.2.2.2.2.2.2.2.2.2.2.2.2.2.2.2.1, r.2.2.2.2.2.2.2.2.2.2.2.2.2.2.2.2.2.2.2.2.2.2.2.2.1, r.2.2.2.2.2.2.2.2.2.2.2.2.2.2.2.2.2.2.2.2.2.2.2.2.2.1, r.2.2.2.2.2.2.2.2.2.2.2.2.2.2.2.2.2.2.2.2.2.2.2.2.2.2.1, r.2.2.2.2.2.2.2.2.2.2.2.2.2.2.2.2.2.2.2.2.2.2.2.2.2.2.2.1, r.2.2.2.2.2.2.2.2.2.2.2.2.2.2.2.2.2.2.2.2.2.2.2.2.2.2.2.2.1, r.2.2.2.2.2.2.2.2.2.2.2.2.2.2.2.2.2.2.2.2.2.2.2.2.2.2.2.2.2.1, r.2.2.2.2.2.2.2.2.2.2.2.2.2.2.2.2.2.2.2.2.2.2.2.2.2.2.2.2.2.2.1, r.2.2.2.2.2.2.2.2.2.2.2.2.2.2.2.2.2.2.2.2.2.2.2.2.2.2.2.2.2.2.2.1, r.2.2.2.2.2.2.2.2.2.2.2.2.2.2.2.2.2.2.2.2.2.2.2.2.2.2.2.2.2.2.2.2.1, r.2.2.2.2.2.2.2.2.2.2.2.2.2.2.2.2.2.2.2.2.2.2.2.2.2.2.2.2.2.2.2.2.2.1, r.2.2.2.2.2.2.2.2.2.2.2.2.2.2.2.2.2.2.2.2.2.2.2.2.2.2.2.2.2.2.2.2.2.2.1, r.2.2.2.2.2.2.2.2.2.2.2.2.2.2.2.2.2.2.2.2.2.2.2.2.2.2.2.2.2.2.2.2.2.2.2.1, r.2.2.2.2.2.2.2.2.2.2.2.2.2.2.2.2.2.2.2.2.2.2.2.2.2.2.2.2.2.2.2.2.2.2.2.2.1, r.2.2.2.2.2.2.2.2.2.2.2.2.2.2.2.2.2.2.2.2.2.2.2.2.2.2.2.2.2.2.2.2.2.2.2.2.2.1, r.2.2.2.2.2.2.2.2.2.2.2.2.2.2.2.2.2.2.2.2.2.2.2.2.2.2.2.2.2.2.2.2.2.2.2.2.2.2.1), ?_, by rw [gq]; rfl⟩
  rw [gq] at hf
  unfold ex_Ref_run_c0
  rw [if_pos e1]
  refine (bind_eq h1).trans ?_
  refine (bind_eq h2).trans ?_
  rw [if_neg (show ¬ (1 : Int32) = 0 by decide)]
  refine (bind_eq hk).trans ?_
  rw [if_neg (show ¬ (1 : Int32) = 0 by decide), e2, hl]
  refine (bind_eq g1).trans ?_
  rw [if_neg (show ¬ (1 : Int32) = 0 by decide)]
  exact if_neg hf

theorem run_0b {N j L : Nat} {s s1 : RS} {st : Int32} {f kg ik : Nat → Int32} {od : ob_mDesk} (hj : j < 32) (hL : L ≤ 16384) (hl : s.g_macros_lengths j = nI L) (h1 : ex_mMacros_startOf N s.o_macros s.g_macros_lengths (nI j) = some st) (h2 : lp_Ref_run_c0_52 s.g_macros_lengths s.g_macros_store (nI j) st N 0 s.g_bytes1 = some f) (hk : ex_mDesk_keep N s.o_desk s.g_desk_kept s.g_desk_state s.g_desk_isKept 0 = some (od, kg, ik, 1)) (h3 : mBs0 N L f N 0 (mKe (mIn0 s L f) od kg ik) = some s1) (hf : fd_Ref_fault s1.o_this = 0) {od2 : ob_mDesk} {g2 : Nat → Int32} {x : Int32} (hb : ex_mDesk_bring N s1.o_desk s1.g_desk_isKept s1.g_desk_state s1.g_desk_kept 0 = some (od2, g2, x)) : mRun0 N s (nI j) 1 = some (mDs s1 od2 g2) := by
  have e1 : dk_in (nI j) 32 := dk_in_nI (by omega) (by omega)
  have e2 : (nI j).toNatClampNeg = j := nI_clamp (by omega)
  obtain ⟨r, g1, gq⟩ := runl_0_108d3 (lens := s.g_macros_lengths) (v0 := nI j) hL (by rw [e2]; exact hl) N 0 _ _ (by omega) h3
  unfold mRun0
  refine Option.map_eq_some_iff.mpr ⟨(r.1, f, r.2.2.2.2.2.2.2.2.2.2.2.2.2.2.2.2.2.2.2.2.2.2.2.2.2.2.2.2.2.2.2.2.2.2.2.2.2.2.2.1, r.2.2.2.2.2.2.2.2.2.2.2.2.2.2.2.2.2.2.2.2.2.2.2.2.2.2.2.2.2.2.2.2.2.2.2.2.2.2.2.2.1, r.2.1, od2, r.2.2.1, r.2.2.2.1, r.2.2.2.2.1, r.2.2.2.2.2.1, r.2.2.2.2.2.2.1, r.2.2.2.2.2.2.2.1, r.2.2.2.2.2.2.2.2.1, r.2.2.2.2.2.2.2.2.2.1, r.2.2.2.2.2.2.2.2.2.2.1, r.2.2.2.2.2.2.2.2.2.2.2.1, r.2.2.2.2.2.2.2.2.2.2.2.2.1, r.2.2.2.2.2.2.2.2.2.2.2.2.2.1, g2, r.2.2.2.2.2.2.2.2.2.2.2.2.2.2.2.2.2.2.2.2.2.2.2.2.2.2.2.2.2.2.2.2.2.2.2.2.2.2.2.2.2.2.1, r.2.2.2.2.2.2.2.2.2.2.2.2.2.2.2.2.2.2.2.2.2.2.2.2.2.2.2.2.2.2.2.2.2.2.2.2.2.2.2.2.2.2.2.2, r.2.2.2.2.2.2.2.2.2.2.2.2.2.2.1, r.2.2.2.2.2.2.2.2.2.2.2.2.2.2.2.1, r.2.2.2.2.2.2.2.2.2.2.2.2.2.2.2.2.1, r.2.2.2.2.2.2.2.2.2.2.2.2.2.2.2.2.2.1, r.2.2.2.2.2.2.2.2.2.2.2.2.2.2.2.2.2.2.1, r.2.2.2.2.2.2.2.2.2.2.2.2.2.2.2.2.2.2.2.1, r.2.2.2.2.2.2.2.2.2.2.2.2.2.2.2.2.2.2.2.2.1, r.2.2.2.2.2.2.2.2.2.2.2.2.2.2.2.2.2.2.2.2.2.1, r.2.2.2.2.2.2.2.2.2.2.2.2.2.2.2.2.2.2.2.2.2.2.1, r.2.2.2.2.2.2.2.2.2.2.2.2.2.2.2.2.2.2.2.2.2.2.2.1, r.2.2.2.2.2.2.2.2.2.2.2.2.2.2.2.2.2.2.2.2.2.2.2.2.1, r.2.2.2.2.2.2.2.2.2.2.2.2.2.2.2.2.2.2.2.2.2.2.2.2.2.1, r.2.2.2.2.2.2.2.2.2.2.2.2.2.2.2.2.2.2.2.2.2.2.2.2.2.2.1, r.2.2.2.2.2.2.2.2.2.2.2.2.2.2.2.2.2.2.2.2.2.2.2.2.2.2.2.1, r.2.2.2.2.2.2.2.2.2.2.2.2.2.2.2.2.2.2.2.2.2.2.2.2.2.2.2.2.1, r.2.2.2.2.2.2.2.2.2.2.2.2.2.2.2.2.2.2.2.2.2.2.2.2.2.2.2.2.2.1, r.2.2.2.2.2.2.2.2.2.2.2.2.2.2.2.2.2.2.2.2.2.2.2.2.2.2.2.2.2.2.1, r.2.2.2.2.2.2.2.2.2.2.2.2.2.2.2.2.2.2.2.2.2.2.2.2.2.2.2.2.2.2.2.1, r.2.2.2.2.2.2.2.2.2.2.2.2.2.2.2.2.2.2.2.2.2.2.2.2.2.2.2.2.2.2.2.2.1, r.2.2.2.2.2.2.2.2.2.2.2.2.2.2.2.2.2.2.2.2.2.2.2.2.2.2.2.2.2.2.2.2.2.1, r.2.2.2.2.2.2.2.2.2.2.2.2.2.2.2.2.2.2.2.2.2.2.2.2.2.2.2.2.2.2.2.2.2.2.1, r.2.2.2.2.2.2.2.2.2.2.2.2.2.2.2.2.2.2.2.2.2.2.2.2.2.2.2.2.2.2.2.2.2.2.2.1, r.2.2.2.2.2.2.2.2.2.2.2.2.2.2.2.2.2.2.2.2.2.2.2.2.2.2.2.2.2.2.2.2.2.2.2.2.1, r.2.2.2.2.2.2.2.2.2.2.2.2.2.2.2.2.2.2.2.2.2.2.2.2.2.2.2.2.2.2.2.2.2.2.2.2.2.1, r.2.2.2.2.2.2.2.2.2.2.2.2.2.2.2.2.2.2.2.2.2.2.2.2.2.2.2.2.2.2.2.2.2.2.2.2.2.2.1), ?_, by rw [gq]; rfl⟩
  rw [gq] at hf hb
  unfold ex_Ref_run_c0
  rw [if_pos e1]
  refine (bind_eq h1).trans ?_
  refine (bind_eq h2).trans ?_
  rw [if_neg (show ¬ (1 : Int32) = 0 by decide)]
  refine (bind_eq hk).trans ?_
  rw [if_neg (show ¬ (1 : Int32) = 0 by decide), e2, hl]
  refine (bind_eq g1).trans ?_
  rw [if_neg (show ¬ (1 : Int32) = 0 by decide)]
  refine (if_pos hf).trans ?_
  exact (bind_eq hb).trans rfl
def kAc (s : CS) (an : Nat → Int32) (om : ob_Macros) (ids pl ln pm by_ : Nat → Int32) : CS := ((s.1, s.2.1, s.2.2.1, s.2.2.2.1, s.2.2.2.2.1, s.2.2.2.2.2.1, s.2.2.2.2.2.2.1, s.2.2.2.2.2.2.2.1, (s.o_interpreter, s.o_interpreter_parser, s.g_interpreter_at, s.g_interpreter_ends, s.g_interpreter_actCount, an, s.g_interpreter_copies, s.g_interpreter_called, s.g_interpreter_acts, s.g_interpreter_actIds, s.g_interpreter_parser_data), (om, ids, pl, ln, pm, by_, s.n_macros_collected, s.g_macros_collected, s.g_macros_saidActs, s.g_macros_saidIds), s.2.2.2.2.2.2.2.2.2.2.1, s.2.2.2.2.2.2.2.2.2.2.2) : CS)

def kEn (s : CS) (oi : ob_Interpreter) (an ac at_ en ca : Nat → Int32) (om : ob_Macros) (cp kp : Nat → Int32) : CS := ((s.1, s.2.1, s.2.2.1, s.2.2.2.1, s.2.2.2.2.1, s.2.2.2.2.2.1, (s.o_page, s.g_page_stack, kp), s.2.2.2.2.2.2.2.1, (oi, s.o_interpreter_parser, at_, en, ac, an, cp, ca, s.g_interpreter_acts, s.g_interpreter_actIds, s.g_interpreter_parser_data), (om, s.g_macros_ids, s.g_macros_places, s.g_macros_lengths, s.g_macros_permanent, s.g_macros_bytes, s.n_macros_collected, s.g_macros_collected, s.g_macros_saidActs, s.g_macros_saidIds), s.2.2.2.2.2.2.2.2.2.2.1, s.2.2.2.2.2.2.2.2.2.2.2) : CS)

def kLe (s : CS) (oi : ob_Interpreter) (op : ob_Page) (g : Nat → Int32) : CS := ((s.1, s.2.1, s.2.2.1, s.2.2.2.1, s.2.2.2.2.1, s.2.2.2.2.2.1, (op, g, s.g_page_kept), s.2.2.2.2.2.2.2.1, (oi, s.o_interpreter_parser, s.g_interpreter_at, s.g_interpreter_ends, s.g_interpreter_actCount, s.g_interpreter_actNext, s.g_interpreter_copies, s.g_interpreter_called, s.g_interpreter_acts, s.g_interpreter_actIds, s.g_interpreter_parser_data), s.2.2.2.2.2.2.2.2.2.1, s.2.2.2.2.2.2.2.2.2.2.1, s.2.2.2.2.2.2.2.2.2.2.2) : CS)

/-- a round that does one thing that was said -/
theorem kn_do {N lv i c : Nat} {s s' : CS} {u : rs_Interpreter_doAct} (hl : fd_Interpreter_level s.o_interpreter = nI lv) (hlv : lv ≤ 2) (hi : i < c) (hc : c ≤ 8) (hn : s.g_interpreter_actNext lv = nI i) (hcn : s.g_interpreter_actCount lv = nI c) (h : ex_Interpreter_doAct N s.o_interpreter s.g_interpreter_actNext s.g_interpreter_acts s.o_macros s.g_interpreter_actIds s.g_macros_ids s.g_macros_places s.g_macros_lengths s.g_macros_permanent s.g_macros_bytes s.o_page s.g_interpreter_copies s.g_interpreter_at s.g_interpreter_ends s.g_interpreter_called s.g_interpreter_actCount s.g_page_stack s.g_page_kept = some u) (hs : s' = ((s.1, s.2.1, s.2.2.1, s.2.2.2.1, s.2.2.2.2.1, s.2.2.2.2.2.1, (s.o_page, s.g_page_stack, u.2.2.2.2.2.2.2.2.2.2.2.2.2), s.2.2.2.2.2.2.2.1, (u.1, s.o_interpreter_parser, u.2.2.2.2.2.2.2.2.2.1, u.2.2.2.2.2.2.2.2.2.2.1, u.2.2.2.2.2.2.2.2.2.2.2.2.1, u.2.1, u.2.2.2.2.2.2.2.2.1, u.2.2.2.2.2.2.2.2.2.2.2.1, s.g_interpreter_acts, s.g_interpreter_actIds, s.g_interpreter_parser_data), (u.2.2.1, u.2.2.2.1, u.2.2.2.2.1, u.2.2.2.2.2.1, u.2.2.2.2.2.2.1, u.2.2.2.2.2.2.2.1, s.n_macros_collected, s.g_macros_collected, s.g_macros_saidActs, s.g_macros_saidIds), s.2.2.2.2.2.2.2.2.2.2.1, s.2.2.2.2.2.2.2.2.2.2.2) : CS)) : kNext N s = some (s', 0) := by
  obtain ⟨q1, q2, q3, q4⟩ := kn_head (N := N) hl hlv
  have hac' : ¬ s.g_interpreter_actCount (fd_Interpreter_level s.o_interpreter).toNatClampNeg ≤ s.g_interpreter_actNext (fd_Interpreter_level s.o_interpreter).toNatClampNeg := by
    rw [q4, hn, hcn]; exact nI_ge hi (by omega)
  unfold kNext
  refine Option.map_eq_some_iff.mpr ⟨(u.1, u.2.1, u.2.2.2.2.2.2.2.2.2.2.2.2.1, u.2.2.2.2.2.2.2.2.2.1, u.2.2.2.2.2.2.2.2.2.2.1, s.o_page, u.2.2.2.2.2.2.2.2.2.2.2.1, s.g_page_stack, u.2.2.2.2.2.2.2.2.2.2.2.2.2, u.2.2.1, s.o_interpreter_parser, u.2.2.2.2.2.2.2.2.1, s.g_interpreter_parser_data, u.2.2.2.1, u.2.2.2.2.1, u.2.2.2.2.2.1, u.2.2.2.2.2.2.1, u.2.2.2.2.2.2.2.1, s.g_macros_collected, 0), ?_, by rw [hs]⟩
  unfold ex_Interpreter_next
  rw [if_neg q1, if_pos q2, if_pos q3, if_pos q3, if_neg hac']
  exact bind_eq h

theorem kn_mng {N lv i c w : Nat} {v : Int32} {s : CS} {om : ob_Macros} {ids pl ln pm by_ : Nat → Int32} (hl : fd_Interpreter_level s.o_interpreter = nI lv) (hlv : lv ≤ 2) (hi : i < c) (hc : c ≤ 8) (hn : s.g_interpreter_actNext lv = nI i) (hcn : s.g_interpreter_actCount lv = nI c) (hw : s.g_interpreter_acts (8 * lv + i) = nI w) (hid : s.g_interpreter_actIds (8 * lv + i) = v) (hw9 : w ≤ 32767) (w0 : w ≠ 0) (w2 : w ≠ 2) (w3 : w ≠ 3) (hm : ex_Macros_manage N s.o_macros s.g_macros_ids s.g_macros_permanent s.g_macros_places s.g_macros_lengths s.g_macros_bytes (nI w) v = some (om, ids, pm, pl, ln, by_)) : kNext N s = some (kAc s (upd s.g_interpreter_actNext lv (nI (i + 1))) om ids pl ln pm by_, 0) := by
  obtain ⟨q1, q2, q3, q4⟩ := kn_head (N := N) hl hlv
  have y0 : fd_Interpreter_level s.o_interpreter * 8 + s.g_interpreter_actNext (fd_Interpreter_level s.o_interpreter).toNatClampNeg = nI (8 * lv + i) := by
    rw [q4, hn, hl]
    have : nI lv * 8 = nI (lv * 8) := nI_mulL lv 8
    rw [this, nI_add, Nat.mul_comm]
  have y1 : dk_in (nI (8 * lv + i)) 24 := dk_in_nI (by omega) (by omega)
  have y2 : (nI (8 * lv + i)).toNatClampNeg = 8 * lv + i := nI_clamp (by omega)
  have y3 : ¬ nI (8 * lv + i) < 0 := nI_pos (by omega)
  have y4 : nI (8 * lv + i) < 24 := nI_lt (b := 24) (by omega) (by omega)
  have ne : ∀ j : Nat, j ≤ 32767 → w ≠ j → ¬ nI w = nI j := fun j hj hne => mt (nI_eq (by omega) (by omega)).mp hne
  refine kn_do (u := (s.o_interpreter, (upd s.g_interpreter_actNext lv (nI (i + 1))), om, ids, pl, ln, pm, by_, s.g_interpreter_copies, s.g_interpreter_at, s.g_interpreter_ends, s.g_interpreter_called, s.g_interpreter_actCount, s.g_page_kept)) hl hlv hi hc hn hcn ?_ rfl
  unfold ex_Interpreter_doAct
  rw [if_pos q3, y0]
  simp only [dk_let]
  rw [if_pos q3, if_pos q3, if_neg y3, if_pos y4, if_pos y1]
  simp only [if_pos y1]
  rw [y2, hw, hid, q4, hn, nI_1]
  rw [if_neg (show ¬ nI w = 0 from ne 0 (by omega) w0)]
  by_cases q : nI w = 1
  · rw [if_pos q]
    exact bind_eq hm
  · rw [if_neg q, if_neg (show ¬ nI w = 2 from ne 2 (by omega) w2), if_neg (show ¬ nI w = 3 from ne 3 (by omega) w3)]
    exact bind_eq hm

theorem kn_beg {N i c : Nat} {v : Int32} {s : CS} {om : ob_Macros} {ids pl ln pm by_ : Nat → Int32} (hl : fd_Interpreter_level s.o_interpreter = nI 0) (hlv : 0 ≤ 2) (hi : i < c) (hc : c ≤ 8) (hn : s.g_interpreter_actNext 0 = nI i) (hcn : s.g_interpreter_actCount 0 = nI c) (hw : s.g_interpreter_acts (8 * 0 + i) = nI 0) (hid : s.g_interpreter_actIds (8 * 0 + i) = v) (hm : ex_Macros_beginReading N s.o_macros s.g_macros_ids s.g_macros_places s.g_macros_lengths s.g_macros_permanent s.g_macros_bytes v = some (om, ids, pl, ln, pm, by_)) : kNext N s = some (kAc s (upd s.g_interpreter_actNext 0 (nI (i + 1))) om ids pl ln pm by_, 0) := by
  obtain ⟨q1, q2, q3, q4⟩ := kn_head (N := N) hl hlv
  have y0 : fd_Interpreter_level s.o_interpreter * 8 + s.g_interpreter_actNext (fd_Interpreter_level s.o_interpreter).toNatClampNeg = nI (8 * 0 + i) := by
    rw [q4, hn, hl]
    have : nI 0 * 8 = nI (0 * 8) := nI_mulL 0 8
    rw [this, nI_add, Nat.mul_comm]
  have y1 : dk_in (nI (8 * 0 + i)) 24 := dk_in_nI (by omega) (by omega)
  have y2 : (nI (8 * 0 + i)).toNatClampNeg = 8 * 0 + i := nI_clamp (by omega)
  have y3 : ¬ nI (8 * 0 + i) < 0 := nI_pos (by omega)
  have y4 : nI (8 * 0 + i) < 24 := nI_lt (b := 24) (by omega) (by omega)
  refine kn_do (u := (s.o_interpreter, (upd s.g_interpreter_actNext 0 (nI (i + 1))), om, ids, pl, ln, pm, by_, s.g_interpreter_copies, s.g_interpreter_at, s.g_interpreter_ends, s.g_interpreter_called, s.g_interpreter_actCount, s.g_page_kept)) hl hlv hi hc hn hcn ?_ rfl
  unfold ex_Interpreter_doAct
  rw [if_pos q3, y0]
  simp only [dk_let]
  rw [if_pos q3, if_pos q3, if_neg y3, if_pos y4, if_pos y1]
  simp only [if_pos y1]
  rw [y2, hw, hid, q4, hn, nI_1]
  rw [if_pos (show nI 0 = 0 from rfl), if_pos (show fd_Interpreter_level s.o_interpreter = 0 from hl)]
  exact bind_eq hm

theorem kn_nil {N lv i c : Nat} {v : Int32} {s : CS} (hl : fd_Interpreter_level s.o_interpreter = nI lv) (hlv : lv ≤ 2) (hi : i < c) (hc : c ≤ 8) (hn : s.g_interpreter_actNext lv = nI i) (hcn : s.g_interpreter_actCount lv = nI c) (hw : s.g_interpreter_acts (8 * lv + i) = nI 0) (hid : s.g_interpreter_actIds (8 * lv + i) = v) (h0 : lv ≠ 0) : kNext N s = some (kAc s (upd s.g_interpreter_actNext lv (nI (i + 1))) s.o_macros s.g_macros_ids s.g_macros_places s.g_macros_lengths s.g_macros_permanent s.g_macros_bytes, 0) := by
  obtain ⟨q1, q2, q3, q4⟩ := kn_head (N := N) hl hlv
  have y0 : fd_Interpreter_level s.o_interpreter * 8 + s.g_interpreter_actNext (fd_Interpreter_level s.o_interpreter).toNatClampNeg = nI (8 * lv + i) := by
    rw [q4, hn, hl]
    have : nI lv * 8 = nI (lv * 8) := nI_mulL lv 8
    rw [this, nI_add, Nat.mul_comm]
  have y1 : dk_in (nI (8 * lv + i)) 24 := dk_in_nI (by omega) (by omega)
  have y2 : (nI (8 * lv + i)).toNatClampNeg = 8 * lv + i := nI_clamp (by omega)
  have y3 : ¬ nI (8 * lv + i) < 0 := nI_pos (by omega)
  have y4 : nI (8 * lv + i) < 24 := nI_lt (b := 24) (by omega) (by omega)
  refine kn_do (u := (s.o_interpreter, (upd s.g_interpreter_actNext lv (nI (i + 1))), s.o_macros, s.g_macros_ids, s.g_macros_places, s.g_macros_lengths, s.g_macros_permanent, s.g_macros_bytes, s.g_interpreter_copies, s.g_interpreter_at, s.g_interpreter_ends, s.g_interpreter_called, s.g_interpreter_actCount, s.g_page_kept)) hl hlv hi hc hn hcn ?_ rfl
  unfold ex_Interpreter_doAct
  rw [if_pos q3, y0]
  simp only [dk_let]
  rw [if_pos q3, if_pos q3, if_neg y3, if_pos y4, if_pos y1]
  simp only [if_pos y1]
  rw [y2, hw, hid, q4, hn, nI_1]
  rw [if_pos (show nI 0 = 0 from rfl), if_neg (show ¬ fd_Interpreter_level s.o_interpreter = 0 by rw [hl]; exact mt (nI_eq (b := 0) (by omega) (by omega)).mp h0)]
theorem rc_1 {L A : Nat} {lm bm : Nat → Int32} {v0 : Int32} (hl : lm v0.toNatClampNeg = nI L) (hA : A + L ≤ 16384) (hb : by8 16384 bm) : ∀ (n k : Nat) (g : Nat → Int32), k ≤ L → L - k < n → ∃ f, lp_Ref_run_c1_52 lm bm v0 (nI A) n (nI k) g = some f ∧ (∀ i, i < L → k ≤ i → f i = bm (A + i)) ∧ (∀ i, i < k → f i = g i) := by
  intro n
  induction n with
  | zero => intro k g hk hn; exact absurd hn (by omega)
  | succ n ih =>
    intro k g hk hn
    rw [lp_Ref_run_c1_52, hl]
    by_cases q : L ≤ k
    · rw [if_pos (nI_le q (by omega))]
      exact ⟨g, rfl, fun i h1 h2 => absurd h1 (by omega), fun _ _ => rfl⟩
    · have e1 : nI A + nI k = nI (A + k) := nI_add A k
      have e2 : dk_in (nI (A + k)) 16384 := dk_in_nI (by omega) (by omega)
      have e3 : dk_in (nI k) 16384 := dk_in_nI (by omega) (by omega)
      have e4 : (nI (A + k)).toNatClampNeg = A + k := nI_clamp (by omega)
      have e5 : (nI k).toNatClampNeg = k := nI_clamp (by omega)
      rw [if_neg (nI_ge (by omega) (by omega)), e1, if_pos e2, if_pos e3]
      unfold dk_let
      rw [e4, e5, nI_1, is8_vp (hb (A + k) (by omega))]
      obtain ⟨f, f1, f2, f3⟩ := ih (k + 1) (upd g k (bm (A + k))) (by omega) (by omega)
      refine ⟨f, f1, fun i h1 h2 => ?_, fun i hi => ?_⟩
      · by_cases qi : i = k
        · rw [f3 i (by omega), qi]; unfold upd; rw [if_pos rfl]
        · exact f2 i h1 (by omega)
      · rw [f3 i (by omega)]; unfold upd; rw [if_neg (by omega)]

theorem rc_0 {L A : Nat} {lm bm : Nat → Int32} {v0 : Int32} (hl : lm v0.toNatClampNeg = nI L) (hA : A + L ≤ 16384) (hb : by8 16384 bm) : ∀ (n k : Nat) (g : Nat → Int32), k ≤ L → L - k < n → ∃ f, lp_Ref_run_c0_52 lm bm v0 (nI A) n (nI k) g = some f ∧ (∀ i, i < L → k ≤ i → f i = bm (A + i)) ∧ (∀ i, i < k → f i = g i) := by
  intro n
  induction n with
  | zero => intro k g hk hn; exact absurd hn (by omega)
  | succ n ih =>
    intro k g hk hn
    rw [lp_Ref_run_c0_52, hl]
    by_cases q : L ≤ k
    · rw [if_pos (nI_le q (by omega))]
      exact ⟨g, rfl, fun i h1 h2 => absurd h1 (by omega), fun _ _ => rfl⟩
    · have e1 : nI A + nI k = nI (A + k) := nI_add A k
      have e2 : dk_in (nI (A + k)) 16384 := dk_in_nI (by omega) (by omega)
      have e3 : dk_in (nI k) 16384 := dk_in_nI (by omega) (by omega)
      have e4 : (nI (A + k)).toNatClampNeg = A + k := nI_clamp (by omega)
      have e5 : (nI k).toNatClampNeg = k := nI_clamp (by omega)
      rw [if_neg (nI_ge (by omega) (by omega)), e1, if_pos e2, if_pos e3]
      unfold dk_let
      rw [e4, e5, nI_1, is8_vp (hb (A + k) (by omega))]
      obtain ⟨f, f1, f2, f3⟩ := ih (k + 1) (upd g k (bm (A + k))) (by omega) (by omega)
      refine ⟨f, f1, fun i h1 h2 => ?_, fun i hi => ?_⟩
      · by_cases qi : i = k
        · rw [f3 i (by omega), qi]; unfold upd; rw [if_pos rfl]
        · exact f2 i h1 (by omega)
      · rw [f3 i (by omega)]; unfold upd; rw [if_neg (by omega)]

/-- a macro is fetched, on both sides -/
theorem fe_both {N T lv h : Nat} {o : ob_Macros} {om : ob_mMacros} {ic pc lc tc bc col im tm lm bm buf g : Nat → Int32} (v : Int32) (hN : 20000 < N) (hS : mcS T o om ic pc lc tc bc col im tm lm bm buf) (hlv : lv < 2) (hh : h ≤ 65536) (had : fd_Macros_had o = nI h) :
    (ex_mMacros_find N om im v = some (-1) ∧ ex_Macros_fetch N o 32768 g ic lc bc pc v (nI (lv * 16384)) = some (o, g, -1)) ∨
    (∃ j L : Nat, j < 32 ∧ ex_mMacros_find N om im v = some (nI j) ∧ lm j = nI L ∧ L ≤ 16384 ∧ 65536 < h + L ∧ ex_Macros_fetch N o 32768 g ic lc bc pc v (nI (lv * 16384)) = some (o, g, -1)) ∨
    (∃ (j L A : Nat) (g' : Nat → Int32), j < 32 ∧ ex_mMacros_find N om im v = some (nI j) ∧ lm j = nI L ∧ A + L ≤ 16384 ∧ h + L ≤ 65536 ∧ ex_mMacros_startOf N om lm (nI j) = some (nI A) ∧ by8 16384 bm ∧ ex_Macros_fetch N o 32768 g ic lc bc pc v (nI (lv * 16384)) = some (fs_Macros_had o (nI (h + L)), g', nI L) ∧ (∀ i, i < L → g' (lv * 16384 + i) = bm (A + i) ∧ is8 (bm (A + i))) ∧ (∀ i, i < lv * 16384 → g' i = g i)) := by
  obtain ⟨n, u, ln, c1, c2, c3, c4, ⟨r1, r2, r3, r4, r5, r6, r7, r8, r9, r10⟩, _⟩ := hS
  rcases cm_slot (N := N) (ic := ic) v (by omega) c1 r1 with ⟨j, j1, j2, j3⟩ | ⟨j1, j2⟩
  · have hf : ex_mMacros_find N om im v = some (nI j) := by
      rcases mm_find (N := N) (im := im) v (by omega) c3 r1 with ⟨j', k1, k2, k3⟩ | ⟨k1, k2⟩
      · have : j' = j := r10 j' j k1 j1 (by rw [(r4 j' k1).1, k2, j2])
        rw [k3, this]
      · exact absurd ((r4 j j1).1.symm.trans j2) (k1 j j1)
    obtain ⟨x1, x2, x3, x4, x5⟩ := r4 j j1
    have hroom := sumN_room ln j1
    rw [r3] at hroom
    have e1 : dk_in (nI j) 32 := dk_in_nI (by omega) (by omega)
    have e2 : (nI j).toNatClampNeg = j := nI_clamp (by omega)
    have hun : ex_Macros_fetch N o 32768 g ic lc bc pc v (nI (lv * 16384)) = if 65536 < h + ln j then some (o, g, -1) else some (fs_Macros_had o (nI (h + ln j)), va_cpy bc g (sumN ln j) (lv * 16384) (ln j), nI (ln j)) := by
      unfold ex_Macros_fetch
      rw [j3]
      simp only [Option.bind_some, if_pos e1]
      rw [if_neg (show ¬ nI j < 0 from nI_pos (by omega)), e2, x3, x5, had, nI_add]
      by_cases q : 65536 < h + ln j
      · rw [if_pos (show (65536 : Int32) < nI (h + ln j) from nI_lt (a := 65536) q (by omega)), if_pos q]
      · rw [if_neg (show ¬ (65536 : Int32) < nI (h + ln j) from nI_nlt (a := 65536) (by omega) (by omega)), if_neg q, if_neg (show ¬ nI (lv * 16384) < 0 from nI_pos (by omega)), nI_add, if_pos (show nI (lv * 16384 + ln j) ≤ nI 32768 from nI_le (by omega) (by omega))]
        rw [if_pos (of_eq_true (dk_cpT (sp := sumN ln j) (dp := lv * 16384) (n := ln j) (n0 := 16384) (n1 := 32768) (by omega) (by omega) (by omega) (by omega)))]
        rw [nI_clamp (show sumN ln j < 2 ^ 31 by omega), nI_clamp (show ln j < 2 ^ 31 by omega), nI_clamp (show lv * 16384 < 2 ^ 31 by omega), if_pos (by8_fit r7 (by omega))]
    by_cases q : 65536 < h + ln j
    · rw [if_pos q] at hun
      exact Or.inr (Or.inl ⟨j, ln j, by omega, hf, x4, by omega, q, hun⟩)
    · rw [if_neg q] at hun
      refine Or.inr (Or.inr ⟨j, ln j, sumN ln j, _, by omega, hf, x4, by omega, by omega, mm_start (by omega) (by omega) (fun k hk => (r4 k (by omega)).2.2.2.1), r8, hun, fun i hi => ?_, fun i hi => ?_⟩)
      · refine ⟨?_, r8 _ (by omega)⟩
        unfold va_cpy
        rw [if_pos (by omega), ← r9 (sumN ln j + i) (by omega)]
        congr 1; omega
      · unfold va_cpy
        rw [if_neg (by omega)]
  · have hf : ex_mMacros_find N om im v = some (-1) := by
      rcases mm_find (N := N) (im := im) v (by omega) c3 r1 with ⟨j', k1, k2, k3⟩ | ⟨k1, k2⟩
      · exact absurd ((r4 j' k1).1.trans k2) (j1 j' k1)
      · exact k2
    refine Or.inl ⟨hf, ?_⟩
    unfold ex_Macros_fetch
    rw [j2]
    simp only [Option.bind_some]
    rw [if_pos (show (-1 : Int32) < 0 by decide)]
theorem kn_em2 {N lv i c : Nat} {v : Int32} {s : CS} {u : rs_Interpreter_enterMacro} (hl : fd_Interpreter_level s.o_interpreter = nI lv) (hlv : lv ≤ 2) (hi : i < c) (hc : c ≤ 8) (hn : s.g_interpreter_actNext lv = nI i) (hcn : s.g_interpreter_actCount lv = nI c) (hw : s.g_interpreter_acts (8 * lv + i) = nI 2) (hid : s.g_interpreter_actIds (8 * lv + i) = v) (h : ex_Interpreter_enterMacro N s.o_interpreter s.o_macros s.g_interpreter_copies s.g_macros_ids s.g_macros_places s.g_macros_lengths s.g_macros_bytes s.g_interpreter_at s.g_interpreter_ends s.g_interpreter_actCount (upd s.g_interpreter_actNext lv (nI (i + 1))) s.g_interpreter_called s.o_page s.g_page_stack s.g_page_kept v 0 = some u) : kNext N s = some (kEn s u.1 u.2.2.2.2.2.2.1 u.2.2.2.2.2.1 u.2.2.2.1 u.2.2.2.2.1 u.2.2.2.2.2.2.2.1 u.2.1 u.2.2.1 u.2.2.2.2.2.2.2.2, 0) := by
  obtain ⟨q1, q2, q3, q4⟩ := kn_head (N := N) hl hlv
  have y0 : fd_Interpreter_level s.o_interpreter * 8 + s.g_interpreter_actNext (fd_Interpreter_level s.o_interpreter).toNatClampNeg = nI (8 * lv + i) := by
    rw [q4, hn, hl]
    have : nI lv * 8 = nI (lv * 8) := nI_mulL lv 8
    rw [this, nI_add, Nat.mul_comm]
  have y1 : dk_in (nI (8 * lv + i)) 24 := dk_in_nI (by omega) (by omega)
  have y2 : (nI (8 * lv + i)).toNatClampNeg = 8 * lv + i := nI_clamp (by omega)
  have y3 : ¬ nI (8 * lv + i) < 0 := nI_pos (by omega)
  have y4 : nI (8 * lv + i) < 24 := nI_lt (b := 24) (by omega) (by omega)
  refine kn_do (u := (u.1, u.2.2.2.2.2.2.1, u.2.1, s.g_macros_ids, s.g_macros_places, s.g_macros_lengths, s.g_macros_permanent, s.g_macros_bytes, u.2.2.1, u.2.2.2.1, u.2.2.2.2.1, u.2.2.2.2.2.2.2.1, u.2.2.2.2.2.1, u.2.2.2.2.2.2.2.2)) hl hlv hi hc hn hcn ?_ rfl
  unfold ex_Interpreter_doAct
  rw [if_pos q3, y0]
  simp only [dk_let]
  rw [if_pos q3, if_pos q3, if_neg y3, if_pos y4, if_pos y1]
  simp only [if_pos y1]
  rw [y2, hw, hid, q4, hn, nI_1]
  rw [if_neg (show ¬ nI 2 = 0 by decide), if_neg (show ¬ nI 2 = 1 by decide), if_pos (show nI 2 = 2 from rfl)]
  exact bind_eq h

theorem kn_em3 {N lv i c : Nat} {v : Int32} {s : CS} {u : rs_Interpreter_enterMacro} (hl : fd_Interpreter_level s.o_interpreter = nI lv) (hlv : lv ≤ 2) (hi : i < c) (hc : c ≤ 8) (hn : s.g_interpreter_actNext lv = nI i) (hcn : s.g_interpreter_actCount lv = nI c) (hw : s.g_interpreter_acts (8 * lv + i) = nI 3) (hid : s.g_interpreter_actIds (8 * lv + i) = v) (h : ex_Interpreter_enterMacro N s.o_interpreter s.o_macros s.g_interpreter_copies s.g_macros_ids s.g_macros_places s.g_macros_lengths s.g_macros_bytes s.g_interpreter_at s.g_interpreter_ends s.g_interpreter_actCount (upd s.g_interpreter_actNext lv (nI (i + 1))) s.g_interpreter_called s.o_page s.g_page_stack s.g_page_kept v 1 = some u) : kNext N s = some (kEn s u.1 u.2.2.2.2.2.2.1 u.2.2.2.2.2.1 u.2.2.2.1 u.2.2.2.2.1 u.2.2.2.2.2.2.2.1 u.2.1 u.2.2.1 u.2.2.2.2.2.2.2.2, 0) := by
  obtain ⟨q1, q2, q3, q4⟩ := kn_head (N := N) hl hlv
  have y0 : fd_Interpreter_level s.o_interpreter * 8 + s.g_interpreter_actNext (fd_Interpreter_level s.o_interpreter).toNatClampNeg = nI (8 * lv + i) := by
    rw [q4, hn, hl]
    have : nI lv * 8 = nI (lv * 8) := nI_mulL lv 8
    rw [this, nI_add, Nat.mul_comm]
  have y1 : dk_in (nI (8 * lv + i)) 24 := dk_in_nI (by omega) (by omega)
  have y2 : (nI (8 * lv + i)).toNatClampNeg = 8 * lv + i := nI_clamp (by omega)
  have y3 : ¬ nI (8 * lv + i) < 0 := nI_pos (by omega)
  have y4 : nI (8 * lv + i) < 24 := nI_lt (b := 24) (by omega) (by omega)
  refine kn_do (u := (u.1, u.2.2.2.2.2.2.1, u.2.1, s.g_macros_ids, s.g_macros_places, s.g_macros_lengths, s.g_macros_permanent, s.g_macros_bytes, u.2.2.1, u.2.2.2.1, u.2.2.2.2.1, u.2.2.2.2.2.2.2.1, u.2.2.2.2.2.1, u.2.2.2.2.2.2.2.2)) hl hlv hi hc hn hcn ?_ rfl
  unfold ex_Interpreter_doAct
  rw [if_pos q3, y0]
  simp only [dk_let]
  rw [if_pos q3, if_pos q3, if_neg y3, if_pos y4, if_pos y1]
  simp only [if_pos y1]
  rw [y2, hw, hid, q4, hn, nI_1]
  rw [if_neg (show ¬ nI 3 = 0 by decide), if_neg (show ¬ nI 3 = 1 by decide), if_neg (show ¬ nI 3 = 2 by decide), if_pos (show nI 3 = 3 from rfl)]
  exact bind_eq h

theorem em_2 {N : Nat} {oi : ob_Interpreter} {om : ob_Macros} {cp ids pl ln by_ at_ en ac an ca : Nat → Int32} {op : ob_Page} {stc kp : Nat → Int32} {v w : Int32} (h : fd_Interpreter_level oi = nI 2) : ex_Interpreter_enterMacro N oi om cp ids pl ln by_ at_ en ac an ca op stc kp v w = some (oi, om, cp, at_, en, ac, an, ca, kp) := by
  unfold ex_Interpreter_enterMacro
  rw [if_pos (show (2 : Int32) ≤ fd_Interpreter_level oi by rw [h]; decide)]
theorem em_n {N lv : Nat} {oi : ob_Interpreter} {om om' : ob_Macros} {cp cp' ids pl ln by_ at_ en ac an ca : Nat → Int32} {op : ob_Page} {stc kp : Nat → Int32} {v w : Int32} (hlv : lv < 2) (h : fd_Interpreter_level oi = nI lv) (hf : ex_Macros_fetch N om 32768 cp ids ln by_ pl v (nI (lv * 16384)) = some (om', cp', -1)) : ex_Interpreter_enterMacro N oi om cp ids pl ln by_ at_ en ac an ca op stc kp v w = some (oi, om', cp', at_, en, ac, an, ca, kp) := by
  have e0 : fd_Interpreter_level oi * 16384 = nI (lv * 16384) := by rw [h]; exact nI_mulL lv 16384
  unfold ex_Interpreter_enterMacro
  rw [if_neg (show ¬ (2 : Int32) ≤ fd_Interpreter_level oi by rw [h]; exact nI_ge (b := 2) hlv (by omega)), e0]
  refine (bind_eq hf).trans ?_
  rw [if_neg (show ¬ (0 : Int32) ≤ -1 by decide)]
theorem em_y {N lv L : Nat} {oi : ob_Interpreter} {om om' : ob_Macros} {cp cp' ids pl ln by_ at_ en ac an ca : Nat → Int32} {op : ob_Page} {stc kp kp' : Nat → Int32} {v : Int32} {w : Nat} (hlv : lv < 2) (hL : L ≤ 16384) (h : fd_Interpreter_level oi = nI lv) (hf : ex_Macros_fetch N om 32768 cp ids ln by_ pl v (nI (lv * 16384)) = some (om', cp', nI L)) (hk : (w = 0 ∧ kp' = kp) ∨ (w = 1 ∧ ex_Page_keep N op kp stc (nI (lv + 1)) = some kp')) : ex_Interpreter_enterMacro N oi om cp ids pl ln by_ at_ en ac an ca op stc kp v (nI w) = some (fs_Interpreter_level oi (nI (lv + 1)), om', cp', upd at_ (lv + 1) (nI (lv * 16384)), upd en (lv + 1) (nI (lv * 16384 + L)), upd ac (lv + 1) 0, upd an (lv + 1) 0, upd ca (lv + 1) (nI w), kp') := by
  have e0 : fd_Interpreter_level oi * 16384 = nI (lv * 16384) := by rw [h]; exact nI_mulL lv 16384
  have e1 : fd_Interpreter_level oi + 1 = nI (lv + 1) := by rw [h, nI_1]
  have e2 : dk_in (nI (lv + 1)) 3 := dk_in_nI (by omega) (by omega)
  have e3 : (nI (lv + 1)).toNatClampNeg = lv + 1 := nI_clamp (by omega)
  have e4 : vp_nar .boolean (nI w) = nI w := bo1_nar (by rcases hk with ⟨q, _⟩ | ⟨q, _⟩ <;> subst q <;> decide)
  unfold ex_Interpreter_enterMacro
  rw [if_neg (show ¬ (2 : Int32) ≤ fd_Interpreter_level oi by rw [h]; exact nI_ge (b := 2) hlv (by omega)), e0]
  refine (bind_eq hf).trans ?_
  rw [if_pos (show (0 : Int32) ≤ nI L from nI_le (a := 0) (by omega) (by omega))]
  simp only [e1, if_pos e2, dk_let]
  rw [e3, nI_add, e4]
  rcases hk with ⟨q, q2⟩ | ⟨q, q2⟩
  · rw [if_pos (show nI w = 0 by rw [q]; rfl), q2]
  · rw [if_neg (show ¬ nI w = 0 by rw [q]; decide)]
    exact bind_eq q2
theorem kn_lv {N lv a : Nat} {s s' : CS} {u : rs_Interpreter_leaveMacro} (hl : fd_Interpreter_level s.o_interpreter = nI lv) (hlv : lv ≤ 2) (h1 : 1 ≤ lv) (hac : s.g_interpreter_actCount lv ≤ s.g_interpreter_actNext lv) (ha : s.g_interpreter_at lv = nI a) (hz : s.g_interpreter_ends lv = nI a) (h : ex_Interpreter_leaveMacro N s.o_interpreter s.g_interpreter_called s.o_page s.g_page_stack s.g_page_kept = some u) (hs : s' = kLe s u.1 u.2.1 u.2.2) : kNext N s = some (s', 0) := by
  obtain ⟨q1, q2, q3, q4⟩ := kn_head (N := N) hl hlv
  have hac' : s.g_interpreter_actCount (fd_Interpreter_level s.o_interpreter).toNatClampNeg ≤ s.g_interpreter_actNext (fd_Interpreter_level s.o_interpreter).toNatClampNeg := by rw [q4]; exact hac
  have q5 : s.g_interpreter_ends (fd_Interpreter_level s.o_interpreter).toNatClampNeg ≤ s.g_interpreter_at (fd_Interpreter_level s.o_interpreter).toNatClampNeg := by rw [q4, ha, hz]; exact Int32.le_of_eq rfl
  unfold kNext
  refine Option.map_eq_some_iff.mpr ⟨(u.1, s.g_interpreter_actNext, s.g_interpreter_actCount, s.g_interpreter_at, s.g_interpreter_ends, u.2.1, s.g_interpreter_called, u.2.2, s.g_page_kept, s.o_macros, s.o_interpreter_parser, s.g_interpreter_copies, s.g_interpreter_parser_data, s.g_macros_ids, s.g_macros_places, s.g_macros_lengths, s.g_macros_permanent, s.g_macros_bytes, s.g_macros_collected, 0), ?_, by rw [hs]; rfl⟩
  unfold ex_Interpreter_next
  rw [if_neg q1, if_pos q2, if_pos q3, if_pos q3, if_pos hac', if_pos q3, if_pos q3, if_pos q5, if_neg (show ¬ fd_Interpreter_level s.o_interpreter ≤ 0 by rw [hl]; exact nI_nle (by omega) (by omega))]
  exact bind_eq h
theorem lv_0 {N lv : Nat} {oi : ob_Interpreter} {ca : Nat → Int32} {op : ob_Page} {stc kp : Nat → Int32} (h : fd_Interpreter_level oi = nI lv) (hlv : lv ≤ 2) (h1 : 1 ≤ lv) (hc : ca lv = 0) : ex_Interpreter_leaveMacro N oi ca op stc kp = some (fs_Interpreter_level oi (nI (lv - 1)), op, stc) := by
  have e2 : dk_in (nI lv) 3 := dk_in_nI (by omega) (by omega)
  have e3 : (nI lv).toNatClampNeg = lv := nI_clamp (by omega)
  unfold ex_Interpreter_leaveMacro
  rw [h, if_pos e2, e3, if_pos hc, show nI lv - 1 = nI (lv - 1) from nI_subL 1 h1]
theorem lv_1 {N lv : Nat} {oi : ob_Interpreter} {ca : Nat → Int32} {op op' : ob_Page} {stc stc' kp : Nat → Int32} (h : fd_Interpreter_level oi = nI lv) (hlv : lv ≤ 2) (h1 : 1 ≤ lv) (hc : ¬ ca lv = 0) (hg : ex_Page_giveBack N op kp stc (nI lv) = some (op', stc')) : ex_Interpreter_leaveMacro N oi ca op stc kp = some (fs_Interpreter_level oi (nI (lv - 1)), op', stc') := by
  have e2 : dk_in (nI lv) 3 := dk_in_nI (by omega) (by omega)
  have e3 : (nI lv).toNatClampNeg = lv := nI_clamp (by omega)
  unfold ex_Interpreter_leaveMacro
  rw [h, if_pos e2, e3, if_neg hc, show nI lv - 1 = nI (lv - 1) from nI_subL 1 h1]
  exact bind_eq hg
theorem more_lv {N lv : Nat} {s : CS} (hl : fd_Interpreter_level s.o_interpreter = nI lv) (hlv : lv ≤ 2) (h1 : 1 ≤ lv) : kMore N s = some 1 := by
  unfold kMore ex_Interpreter_hasMore
  rw [hl, Option.map_id', if_pos (show (0 : Int32) < nI lv from nI_lt (a := 0) (by omega) (by omega))]
theorem more_act {N lv i c : Nat} {s : CS} (hl : fd_Interpreter_level s.o_interpreter = nI lv) (hlv : lv ≤ 2) (hi : i < c) (hc : c ≤ 8) (hn : s.g_interpreter_actNext lv = nI i) (hcn : s.g_interpreter_actCount lv = nI c) : kMore N s = some 1 := by
  by_cases q : lv = 0
  · subst q
    unfold kMore ex_Interpreter_hasMore
    rw [hl, Option.map_id', if_neg (show ¬ (0 : Int32) < nI 0 by decide)]
    by_cases q2 : s.g_interpreter_at 0 < s.g_interpreter_ends 0
    · rw [if_pos q2]
    · rw [if_neg q2, if_neg (show ¬ s.g_interpreter_actCount 0 ≤ s.g_interpreter_actNext 0 by rw [hn, hcn]; exact nI_ge hi (by omega))]
  · exact more_lv hl hlv (by omega)
/-- a round that takes no byte -/
theorem step_z {N lv : Nat} {s s1 : CS} (h : kNext N s = some (s1, 0)) (hl : fd_Interpreter_level s1.o_interpreter = nI lv) (hlv : lv ≤ 2) (hk : fd_FontShelf_chosenKnown s1.o_fonts = 1) (hf : fd_Main_fault s.o_this = 0) (hj : fd_Interpreter_ejecting s1.o_interpreter = 0) (ht : fd_Interpreter_then s1.o_interpreter = 0) : kStep N s = some s1 := by
  have ha : kAct N s1 0 = some s1 := by
    have := ka_do (N := N) (lv := lv) (s := s1) (x := s1) (v := 0) false (by decide) (by rw [if_neg (show ¬ ((0 : Int32) &&& 7 = 4) by decide)]; exact kd_no (K := 0) (by omega) (by omega)) hl hlv
    rw [this]; rfl
  have hfi : kFinish N s1 0 = some s1 := by
    unfold kFinish
    refine Option.map_eq_some_iff.mpr ⟨(s1.o_interpreter, s1.o_page, s1.o_sheet, s1.g_sheet_marks, s1.g_sheet_dots), ?_, rfl⟩
    rw [fin_0 hj ht]
  exact step_f h ha (settle_id hk) hf hj hfi
/-- what a byte at a level leaves as it was, in the class -/
def kLv (lv : Nat) (s s' : CS) : Prop := fd_Interpreter_level s'.o_interpreter = fd_Interpreter_level s.o_interpreter ∧ (∀ i, i ≤ lv → s'.g_interpreter_ends i = s.g_interpreter_ends i ∧ s'.g_interpreter_called i = s.g_interpreter_called i) ∧ (∀ i, i < lv → s'.g_interpreter_at i = s.g_interpreter_at i ∧ s'.g_interpreter_actCount i = s.g_interpreter_actCount i ∧ s'.g_interpreter_actNext i = s.g_interpreter_actNext i) ∧ (∀ j, j < 8 * lv → s'.g_interpreter_acts j = s.g_interpreter_acts j ∧ s'.g_interpreter_actIds j = s.g_interpreter_actIds j) ∧ (∀ j, j < 16384 * lv → s'.g_interpreter_copies j = s.g_interpreter_copies j) ∧ (∀ j, j < 53 * lv → s'.g_page_kept j = s.g_page_kept j) ∧ kfG s s'
theorem kLv_refl (lv : Nat) (s : CS) : kLv lv s s := ⟨rfl, fun _ _ => ⟨rfl, rfl⟩, fun _ _ => ⟨rfl, rfl, rfl⟩, fun _ _ => ⟨rfl, rfl⟩, fun _ _ => rfl, fun _ _ => rfl, kfG_refl s⟩
theorem kLv_trans {lv : Nat} {a b c : CS} (h : kLv lv a b) (k : kLv lv b c) : kLv lv a c := by
  obtain ⟨h1, h2, h3, h4, h5, h6, h7⟩ := h
  obtain ⟨k1, k2, k3, k4, k5, k6, k7⟩ := k
  exact ⟨k1.trans h1, fun i hi => ⟨(k2 i hi).1.trans (h2 i hi).1, (k2 i hi).2.trans (h2 i hi).2⟩, fun i hi => ⟨(k3 i hi).1.trans (h3 i hi).1, (k3 i hi).2.1.trans (h3 i hi).2.1, (k3 i hi).2.2.trans (h3 i hi).2.2⟩, fun j hj => ⟨(k4 j hj).1.trans (h4 j hj).1, (k4 j hj).2.trans (h4 j hj).2⟩, fun j hj => (k5 j hj).trans (h5 j hj), fun j hj => (k6 j hj).trans (h6 j hj), kfG_trans h7 k7⟩
/-- what a byte at a level leaves as it was, in the reference -/
def mLv (lv : Nat) (m m' : RS) : Prop := (∀ j, j < 8 * lv → m'.g_toDo j = m.g_toDo j ∧ m'.g_toDoId j = m.g_toDoId j) ∧ (∀ j, j < 53 * lv → m'.g_desk_kept j = m.g_desk_kept j) ∧ (∀ j, j < lv → m'.g_desk_isKept j = m.g_desk_isKept j) ∧ rfG m m'
theorem mLv_refl (lv : Nat) (m : RS) : mLv lv m m := ⟨fun _ _ => ⟨rfl, rfl⟩, fun _ _ => rfl, fun _ _ => rfl, rfG_refl m⟩
theorem mLv_trans {lv : Nat} {a b c : RS} (h : mLv lv a b) (k : mLv lv b c) : mLv lv a c := by
  obtain ⟨h1, h2, h3, h4⟩ := h
  obtain ⟨k1, k2, k3, k4⟩ := k
  exact ⟨fun j hj => ⟨(k1 j hj).1.trans (h1 j hj).1, (k1 j hj).2.trans (h1 j hj).2⟩, fun j hj => (k2 j hj).trans (h2 j hj), fun j hj => (k3 j hj).trans (h3 j hj), rfG_trans h4 k4⟩
theorem mLv_rfM {lv : Nat} {m m' : RS} (h : rfM m m') : mLv lv m m' := by
  obtain ⟨h1, h2, h3, h4, h5, h6, h7, h8, h9, h10, h11, h12, h13, h14⟩ := h
  exact ⟨fun j _ => by rw [h8, h9]; exact ⟨rfl, rfl⟩, fun j _ => by rw [h12], fun j _ => by rw [h13], h14⟩
theorem kLv_F {lv a : Nat} {s s' : CS} (h : lvF lv a s s') (hac : (∀ i, i < lv → s'.g_interpreter_actCount i = s.g_interpreter_actCount i ∧ s'.g_interpreter_actNext i = s.g_interpreter_actNext i)) (hat : ∀ j, j < 8 * lv → s'.g_interpreter_acts j = s.g_interpreter_acts j ∧ s'.g_interpreter_actIds j = s.g_interpreter_actIds j) (hk : kfG s s') : kLv lv s s' := by
  obtain ⟨h1, h2, h3, h4, h5, h6⟩ := h
  refine ⟨h6, fun i _ => by rw [h2, h3]; exact ⟨rfl, rfl⟩, fun i hi => ⟨?_, hac i hi⟩, hat, fun j _ => by rw [h4], fun j _ => by rw [h5], hk⟩
  rw [h1]; unfold upd; rw [if_neg (by omega)]
/-- the two sides between bytes -/
def cI (N d T : Nat) (s : CS) (m : RS) : Prop := (∃ k r cp p, cCo N d k r cp T p s m) ∧ cPs s m ∧ cSd s m
/-- what one byte at a level does, on both sides -/
def bO (N d T lv a h n : Nat) (s : CS) (m : RS) (s' : CS) (m' : RS) : Prop := (∃ h', h ≤ h' ∧ h' ≤ 65536 ∧ fd_Ref_had m'.o_this = nI h' ∧ n ≤ (80 - 20 * lv) * (1 + (h' - h)) ∧ cI N d (T + 4 * (1 + (h' - h))) s' m' ∧ kLv lv s s' ∧ mLv lv m m' ∧ s'.g_interpreter_at lv = nI (a + 1) ∧ s'.g_interpreter_actCount lv ≤ s'.g_interpreter_actNext lv) ∨ (∃ T', T' ≤ T + 4 * (1 + (65536 - h)) ∧ n ≤ (80 - 20 * lv) * (1 + (65536 - h)) ∧ bF N d T' s m s' m')
theorem ci_ac {N d T : Nat} {s : CS} {m : RS} {an : Nat → Int32} {om : ob_Macros} {ids pl ln pm by_ : Nat → Int32} {omm : ob_mMacros} {im tm lm bm : Nat → Int32} (h : cI N d T s m) (hS : mcS T om omm ids pl ln pm by_ s.g_macros_collected im tm lm bm m.g_macros_buffer) (hF : mcF s.o_macros om) : cI N d T (kAc s an om ids pl ln pm by_) (mMcs m omm im tm lm bm) := by
  obtain ⟨⟨k, r, cp, p, hPg, hSh, hFo, hKn, hRa, ⟨m1, m2, ⟨i, hi0, hi1, hi2⟩, ⟨hh, hh0, hh1, hh2⟩⟩, hFl, hFa, hIt⟩, hPs, ⟨c, c1, c2, c3⟩⟩ := h
  obtain ⟨f1, f2, f3⟩ := hF
  exact ⟨⟨k, r, cp, p, hPg, hSh, hFo, hKn, hRa, ⟨hS, m2, ⟨i, hi0, f2.trans hi1, hi2⟩, ⟨hh, hh0, f1.trans hh1, hh2⟩⟩, hFl, hFa, hIt⟩, hPs, ⟨c, c1, f3.trans c2, c3⟩⟩
theorem kLv_ac {lv : Nat} {s : CS} {x : Int32} {om : ob_Macros} {ids pl ln pm by_ : Nat → Int32} : kLv lv s (kAc s (upd s.g_interpreter_actNext lv x) om ids pl ln pm by_) := by
  refine ⟨rfl, fun _ _ => ⟨rfl, rfl⟩, fun i hi => ⟨rfl, rfl, ?_⟩, fun _ _ => ⟨rfl, rfl⟩, fun _ _ => rfl, fun _ _ => rfl, kfG_refl s⟩
  show upd s.g_interpreter_actNext lv x i = _
  unfold upd; rw [if_neg (by omega)]
theorem mLv_mc {lv : Nat} {m : RS} {omm : ob_mMacros} {im tm lm bm : Nat → Int32} : mLv lv m (mMcs m omm im tm lm bm) := ⟨fun _ _ => ⟨rfl, rfl⟩, fun _ _ => rfl, fun _ _ => rfl, rfG_refl m⟩
/-- a round that does one said thing and stays at its level -/
theorem run_ac {N d T lv i c : Nat} {s s1 : CS} {m : RS} {v : Int32} (h : cI N d T s m) (hl : fd_Interpreter_level s.o_interpreter = nI lv) (hlv : lv ≤ 2) (hi : i < c) (hc : c ≤ 8) (hn : s.g_interpreter_actNext lv = nI i) (hcn : s.g_interpreter_actCount lv = nI c) (hk : kNext N s = some (s1, 0)) (e1 : s1.o_interpreter = s.o_interpreter) (e2 : s1.o_fonts = s.o_fonts) : kRun N 1 s s1 := by
  obtain ⟨⟨k, r, cp, p, hPg, hSh, hFo, hKn, hRa, hMa, hFl, hFa, hIt⟩, hPs, hSd⟩ := h
  exact kRun.one hFa.1 (more_act hl hlv hi hc hn hcn) (step_z (lv := lv) hk (by rw [e1]; exact hl) hlv (by rw [e2]; exact hKn) hFa.1 (by rw [e1]; exact hIt.1) (by rw [e1]; exact hIt.2))
/-- acts still to be done at a level -/
def aP (lv i c : Nat) (s : CS) (m : RS) : Prop := fd_Interpreter_level s.o_interpreter = nI lv ∧ s.g_interpreter_actNext lv = nI i ∧ s.g_interpreter_actCount lv = nI c ∧ ∀ k, i ≤ k → k < c → ∃ w j : Nat, w ≤ 32767 ∧ j ≤ 32767 ∧ s.g_interpreter_acts (8 * lv + k) = nI w ∧ m.g_toDo (8 * lv + k) = nI w ∧ s.g_interpreter_actIds (8 * lv + k) = nI j ∧ m.g_toDoId (8 * lv + k) = nI j
/-- what is left when the acts of a level are done -/
def aO (N d T lv h n : Nat) (s : CS) (m : RS) (s' : CS) (m' : RS) : Prop := (∃ h', h ≤ h' ∧ h' ≤ 65536 ∧ fd_Ref_had m'.o_this = nI h' ∧ n ≤ 16 + (80 - 20 * (lv + 1)) * (h' - h) ∧ cI N d (T + 4 * (h' - h)) s' m' ∧ kLv lv s s' ∧ mLv lv m m' ∧ s'.g_interpreter_at lv = s.g_interpreter_at lv ∧ s'.g_interpreter_actCount lv ≤ s'.g_interpreter_actNext lv ∧ (h' = h → fd_mDesk_phase m'.o_desk = fd_mDesk_phase m.o_desk)) ∨ (∃ T', T' ≤ T + 4 * (65536 - h) ∧ n ≤ 16 + (80 - 20 * (lv + 1)) * (65536 - h) ∧ bF N d T' s m s' m')
theorem aP_ac {lv i c : Nat} {s : CS} {m : RS} {om : ob_Macros} {ids pl ln pm by_ : Nat → Int32} {omm : ob_mMacros} {im tm lm bm : Nat → Int32} (h : aP lv i c s m) : aP lv (i + 1) c (kAc s (upd s.g_interpreter_actNext lv (nI (i + 1))) om ids pl ln pm by_) (mMcs m omm im tm lm bm) := by
  obtain ⟨h1, h2, h3, h4⟩ := h
  refine ⟨h1, ?_, h3, fun k hk hc => h4 k (by omega) hc⟩
  show upd s.g_interpreter_actNext lv (nI (i + 1)) lv = _
  unfold upd; rw [if_pos rfl]
theorem mMcs_id (m : RS) : mMcs m m.o_macros m.g_macros_ids m.g_macros_permanent m.g_macros_lengths m.g_macros_store = m := rfl
/-- one act that stays at its level, on both sides: what it needs of the reference -/
def a1 (N : Nat) (mac : RS → Int32 → Int32 → Option RS) (d T lv i c : Nat) (s : CS) (m : RS) : Prop := ∃ s1 m1, kRun N 1 s s1 ∧ mac m (m.g_toDo (8 * lv + i)) (m.g_toDoId (8 * lv + i)) = some m1 ∧ cI N d T s1 m1 ∧ kLv lv s s1 ∧ mLv lv m m1 ∧ s1.g_interpreter_at lv = s.g_interpreter_at lv ∧ fd_Ref_had m1.o_this = fd_Ref_had m.o_this ∧ fd_mDesk_phase m1.o_desk = fd_mDesk_phase m.o_desk ∧ aP lv (i + 1) c s1 m1
theorem cI_find {N d T : Nat} {s : CS} {m : RS} (hN : 20000 < N) (h : cI N d T s m) (v : Int32) : ∃ u, ex_mMacros_find N m.o_macros m.g_macros_ids v = some u := by
  obtain ⟨⟨k, r, cp, p, hPg, hSh, hFo, hKn, hRa, ⟨m1, _⟩, _⟩, _⟩ := h
  rcases mcS_slot (N := N) v hN m1 with ⟨j, _, _, _, _, q⟩ | ⟨_, q, _⟩
  · exact ⟨_, q⟩
  · exact ⟨_, q⟩
theorem a1_mng {N d T lv i c w : Nat} {mac : RS → Int32 → Int32 → Option RS} {s : CS} {m : RS} (hN : 20000 < N) (h : cI N d T s m) (hlv : lv ≤ 2) (hi : i < c) (hc : c ≤ 8) (hP : aP lv i c s m) (hw : s.g_interpreter_acts (8 * lv + i) = nI w) (w9 : w ≤ 32767) (w0 : w ≠ 0) (w2 : w ≠ 2) (w3 : w ≠ 3)
    (hmac : ∀ v om im tm lm bm, mMan N m.o_macros m.g_macros_ids m.g_macros_permanent m.g_macros_lengths m.g_macros_store (nI w) v = some (om, im, tm, lm, bm) → mac m (nI w) v = some (mMcs m om im tm lm bm)) : a1 N mac d T lv i c s m := by
  obtain ⟨p1, p2, p3, p4⟩ := hP
  obtain ⟨w', j, q1, q2, q3, q4, q5, q6⟩ := p4 i (Nat.le_refl _) hi
  have hw' : w' = w := (nI_eq (by omega) (by omega)).mp (q3.symm.trans hw)
  subst hw'
  have hMa := h.1
  obtain ⟨k, r, cp, p, hPg, hSh, hFo, hKn, hRa, ⟨m1, m2⟩, hFl, hFa, hIt⟩ := hMa
  obtain ⟨o', om', ic', pc', lc', tc', bc', im', tm', lm', bm', e1, e2, e3, e4⟩ := mc_manage (N := N) (nI w') (nI j) hN m1
  refine ⟨kAc s (upd s.g_interpreter_actNext lv (nI (i + 1))) o' ic' pc' lc' tc' bc', mMcs m om' im' tm' lm' bm', ?_, ?_, ci_ac h e3 e4, kLv_ac, mLv_mc, rfl, rfl, rfl, aP_ac ⟨p1, p2, p3, p4⟩⟩
  · exact run_ac (v := 0) h p1 hlv hi hc p2 p3 (kn_mng p1 hlv hi hc p2 p3 q3 q5 q1 w0 w2 w3 e1) rfl rfl
  · rw [q4, q6]; exact hmac _ _ _ _ _ _ e2
theorem a1_nil {N d T lv i c : Nat} {mac : RS → Int32 → Int32 → Option RS} {s : CS} {m : RS} (h : cI N d T s m) (hlv : lv ≤ 2) (hi : i < c) (hc : c ≤ 8) (hP : aP lv i c s m) (hs1 : kNext N s = some (kAc s (upd s.g_interpreter_actNext lv (nI (i + 1))) s.o_macros s.g_macros_ids s.g_macros_places s.g_macros_lengths s.g_macros_permanent s.g_macros_bytes, 0)) (hmac : mac m (m.g_toDo (8 * lv + i)) (m.g_toDoId (8 * lv + i)) = some m) : a1 N mac d T lv i c s m := by
  obtain ⟨p1, p2, p3, p4⟩ := hP
  have hMa := h.1
  obtain ⟨k, r, cp, p, hPg, hSh, hFo, hKn, hRa, ⟨m1, m2⟩, hFl, hFa, hIt⟩ := hMa
  have m1' := mcS_mono (T' := T) (Nat.le_refl T) m1
  refine ⟨_, m, run_ac (v := 0) h p1 hlv hi hc p2 p3 hs1 rfl rfl, hmac, ?_, kLv_ac, mLv_refl lv m, rfl, rfl, rfl, ?_⟩
  · have := ci_ac (an := upd s.g_interpreter_actNext lv (nI (i + 1))) h m1' ⟨rfl, rfl, rfl⟩
    exact this
  · have := aP_ac (om := s.o_macros) (ids := s.g_macros_ids) (pl := s.g_macros_places) (ln := s.g_macros_lengths) (pm := s.g_macros_permanent) (by_ := s.g_macros_bytes) (omm := m.o_macros) (im := m.g_macros_ids) (tm := m.g_macros_permanent) (lm := m.g_macros_lengths) (bm := m.g_macros_store) ⟨p1, p2, p3, p4⟩
    exact this
/-- one act at the deepest level -/
theorem a1_2 {N d T i c : Nat} {s : CS} {m : RS} (hN : 20000 < N) (h : cI N d T s m) (hi : i < c) (hc : c ≤ 8) (hP : aP 2 i c s m) : a1 N (mMacro2 N) d T 2 i c s m := by
  have hP0 := hP
  obtain ⟨p1, p2, p3, p4⟩ := hP
  obtain ⟨w, j, q1, q2, q3, q4, q5, q6⟩ := p4 i (Nat.le_refl _) hi
  obtain ⟨u, hu⟩ := cI_find hN h (nI j)
  by_cases w0 : w = 0
  · subst w0
    exact a1_nil h (by omega) hi hc hP0 (kn_nil p1 (by omega) hi hc p2 p3 q3 q5 (by omega)) (by rw [q4, q6]; exact mac_z2 hu)
  by_cases w2 : w = 2
  · subst w2
    have := kn_em2 (N := N) p1 (by omega) hi hc p2 p3 q3 q5 (em_2 p1)
    exact a1_nil h (by omega) hi hc hP0 this (by rw [q4, q6]; exact mac_n2_2 hu)
  by_cases w3 : w = 3
  · subst w3
    have := kn_em3 (N := N) p1 (by omega) hi hc p2 p3 q3 q5 (em_2 p1)
    exact a1_nil h (by omega) hi hc hP0 this (by rw [q4, q6]; exact mac_n2_3 hu)
  exact a1_mng hN h (by omega) hi hc hP0 q3 q1 w0 w2 w3 (fun v om im tm lm bm hm => mac_2 q1 w0 w2 w3 hm)
theorem al_2 {N d T h : Nat} (hN : 20000 < N) {c : Nat} (hc : c ≤ 8) : ∀ (r i : Nat) (s : CS) (m : RS) (fu : Nat), i + r = c → r < fu → fd_Ref_had m.o_this = nI h → h ≤ 65536 → cI N d T s m → aP 2 i c s m → ∃ s' m', kRun N r s s' ∧ mActs2 N c fu i m = some m' ∧ fd_Ref_had m'.o_this = nI h ∧ cI N d T s' m' ∧ kLv 2 s s' ∧ mLv 2 m m' ∧ s'.g_interpreter_at 2 = s.g_interpreter_at 2 ∧ s'.g_interpreter_actCount 2 ≤ s'.g_interpreter_actNext 2 ∧ fd_mDesk_phase m'.o_desk = fd_mDesk_phase m.o_desk := by
  intro r
  induction r with
  | zero =>
    intro i s m fu hir hfu hh hh6 h hP
    obtain ⟨z, rfl⟩ : ∃ z, fu = z + 1 := ⟨fu - 1, by omega⟩
    refine ⟨s, m, kRun.refl N s, ?_, hh, h, kLv_refl 2 s, mLv_refl 2 m, rfl, ?_, rfl⟩
    · rw [mActs2, if_pos (by omega)]
    · rw [hP.2.1, hP.2.2.1]; exact nI_le (by omega) (by omega)
  | succ r ih =>
    intro i s m fu hir hfu hh hh6 h hP
    obtain ⟨z, rfl⟩ : ∃ z, fu = z + 1 := ⟨fu - 1, by omega⟩
    obtain ⟨s1, m1, e1, e2, e3, e4, e5, e6, e7, e9, e8⟩ := a1_2 hN h (by omega) hc hP
    obtain ⟨s', m', f1, f2, f3, f4, f5, f6, f7, f8, f9⟩ := ih (i + 1) s1 m1 z (by omega) (by omega) (e7.trans hh) hh6 e3 e8
    have hfa : fd_Ref_fault m.o_this = 0 := by
      obtain ⟨⟨k, r, cp, p, _, _, _, _, _, _, _, hFa, _⟩, _⟩ := h
      exact hFa.2
    refine ⟨s', m', ?_, ?_, f3, f4, kLv_trans e4 f5, mLv_trans e5 f6, f7.trans e6, f8, f9.trans e9⟩
    · have := kRun.trans e1 f1
      rw [Nat.add_comm] at this; exact this
    · rw [mActs2, if_neg (by omega), if_pos hfa]
      exact (bind_eq e2).trans f2
/-- what was said during a byte, handed over to the acts of its level -/
def wP (lv c : Nat) (s : CS) (m : RS) : Prop := fd_Interpreter_level s.o_interpreter = nI lv ∧ c ≤ 8 ∧ s.g_interpreter_actCount lv = nI c ∧ s.g_interpreter_actNext lv = 0 ∧ fd_Ref_xMany m.o_this = nI c ∧ fd_Macros_said s.o_macros = 0 ∧ (∀ i, i < c → ∃ w j : Nat, w ≤ 32767 ∧ j ≤ 32767 ∧ m.g_xWhat i = nI w ∧ m.g_xId i = nI j ∧ s.g_interpreter_acts (8 * lv + i) = nI w ∧ s.g_interpreter_actIds (8 * lv + i) = nI j)
/-- all acts of a level, on both sides -/
def alC (N d lv : Nat) (acts : Nat → Nat → Nat → RS → Option RS) : Prop := ∀ (c T h : Nat) (s : CS) (m : RS), c ≤ 8 → T + 4 * (65536 - h) ≤ 134000000 → h ≤ 65536 → fd_Ref_had m.o_this = nI h → cI N d T s m → aP lv 0 c s m → ∃ n s' m', kRun N n s s' ∧ acts c N 0 m = some m' ∧ aO N d T lv h n s m s' m'
/-- the work of a level, on both sides -/
def wkC (N d lv : Nat) (work : RS → Option RS) : Prop := ∀ (c T h k r cp : Nat) (p : Nat → Nat) (s : CS) (m : RS), T + 4 * (65536 - h) ≤ 134000000 → h ≤ 65536 → fd_Ref_had m.o_this = nI h → cCo N d k r cp T p s m → cPs s m → wP lv c s m → ∃ n s' m', kRun N n s s' ∧ work m = some m' ∧ aO N d T lv h n s m s' m'
/-- one byte at a level, on both sides -/
def byC (N d lv : Nat) (comes : RS → Int32 → Option RS) : Prop := ∀ (T h a z b : Nat) (s : CS) (m : RS), b < 256 → T + 4 * (65537 - h) ≤ 134000000 → h ≤ 65536 → fd_Ref_had m.o_this = nI h → (lv ≠ 0 → z ≤ 16384 * lv) → cI N d T s m → lvB lv a z b s → ∃ n s' m', kRun N n s s' ∧ comes m (nI b) = some m' ∧ bO N d T lv a h n s m s' m'
def rdy (lv : Nat) (m : RS) : Prop := lv = 0 → fd_mMacros_reading m.o_macros = 0
/-- the loop before a byte that stops a sequence -/
def stC (lv : Nat) (work : RS → Option RS) (stop : Nat → RS → Int32 → Option RS) : Prop := (∀ n m b, ¬ b = 27 → stop (n + 1) m b = some m) ∧ (∀ n m, ¬ (fd_mDesk_phase m.o_desk = 2 ∨ fd_mDesk_phase m.o_desk = 3) → stop (n + 1) m 27 = some m) ∧ (∀ n m, fd_Ref_xMany m.o_this = 0 → stop (n + 1) m 27 = some m) ∧ (∀ n m, ¬ fd_Ref_fault m.o_this = 0 → stop (n + 1) m 27 = some m) ∧ (∀ n m, ¬ rdy lv m → stop (n + 1) m 27 = some m) ∧ (∀ n m, (fd_mDesk_phase m.o_desk = 2 ∨ fd_mDesk_phase m.o_desk = 3) → ¬ fd_Ref_xMany m.o_this ≤ 0 → fd_Ref_fault m.o_this = 0 → rdy lv m → stop (n + 1) m 27 = (work (mStopped m)).bind (fun m1 => stop n m1 27))
theorem i32_23 {x : Int32} (h : ¬ (x = 2 ∨ x = 3)) (q : ¬ x ≤ 1) : (4 : Int32) ≤ x := by
  have h2 : ¬ x = 2 := fun e => h (Or.inl e)
  have h3 : ¬ x = 3 := fun e => h (Or.inr e)
  have e2 : ¬ x.toInt = 2 := fun e => h2 (Int32.toInt_inj.mp e)
  have e3 : ¬ x.toInt = 3 := fun e => h3 (Int32.toInt_inj.mp e)
  rw [Int32.le_iff_toInt_le] at q ⊢
  have : (1 : Int32).toInt = 1 := rfl
  have : (4 : Int32).toInt = 4 := rfl
  omega
theorem stC_2 {N : Nat} : stC 2 (mWork2 N) (mStop2 N) := by
  refine ⟨fun n m b h => ?_, fun n m h => ?_, fun n m h => ?_, fun n m h => ?_, fun n m h => ?_, fun n m h1 h2 h3 h4 => ?_⟩
  · rw [mStop2, if_neg h]
  · rw [mStop2, if_pos rfl]
    by_cases q : fd_mDesk_phase m.o_desk ≤ 1
    · rw [if_pos q]
    · rw [if_neg q, if_pos (i32_23 h q)]
  · rw [mStop2, if_pos rfl, h, if_pos (show (0 : Int32) ≤ 0 by decide)]
    repeat' split
    all_goals rfl
  · rw [mStop2, if_pos rfl, if_neg h]
    repeat' split
    all_goals rfl
  · exact absurd (fun q => absurd q (by decide)) h
  · rw [mStop2, if_pos rfl, if_neg (show ¬ fd_mDesk_phase m.o_desk ≤ 1 by rcases h1 with q | q <;> rw [q] <;> decide), if_neg (show ¬ (4 : Int32) ≤ fd_mDesk_phase m.o_desk by rcases h1 with q | q <;> rw [q] <;> decide), if_neg h2, if_pos h3]
theorem stC_1 {N : Nat} : stC 1 (mWork1 N) (mStop1 N) := by
  refine ⟨fun n m b h => ?_, fun n m h => ?_, fun n m h => ?_, fun n m h => ?_, fun n m h => ?_, fun n m h1 h2 h3 h4 => ?_⟩
  · rw [mStop1, if_neg h]
  · rw [mStop1, if_pos rfl]
    by_cases q : fd_mDesk_phase m.o_desk ≤ 1
    · rw [if_pos q]
    · rw [if_neg q, if_pos (i32_23 h q)]
  · rw [mStop1, if_pos rfl, h, if_pos (show (0 : Int32) ≤ 0 by decide)]
    repeat' split
    all_goals rfl
  · rw [mStop1, if_pos rfl, if_neg h]
    repeat' split
    all_goals rfl
  · exact absurd (fun q => absurd q (by decide)) h
  · rw [mStop1, if_pos rfl, if_neg (show ¬ fd_mDesk_phase m.o_desk ≤ 1 by rcases h1 with q | q <;> rw [q] <;> decide), if_neg (show ¬ (4 : Int32) ≤ fd_mDesk_phase m.o_desk by rcases h1 with q | q <;> rw [q] <;> decide), if_neg h2, if_pos h3]
theorem stC_0 {N : Nat} : stC 0 (mWork0 N) (mStop0 N) := by
  refine ⟨fun n m b h => ?_, fun n m h => ?_, fun n m h => ?_, fun n m h => ?_, fun n m h => ?_, fun n m h1 h2 h3 h4 => ?_⟩
  · rw [mStop0, if_neg h]
  · rw [mStop0, if_pos rfl]
    by_cases q : fd_mDesk_phase m.o_desk ≤ 1
    · rw [if_pos q]
    · rw [if_neg q, if_pos (i32_23 h q)]
  · rw [mStop0, if_pos rfl, h, if_pos (show (0 : Int32) ≤ 0 by decide)]
    repeat' split
    all_goals rfl
  · rw [mStop0, if_pos rfl, if_neg h]
    repeat' split
    all_goals rfl
  · have h' : ¬ fd_mMacros_reading m.o_macros = 0 := fun e => h (fun _ => e)
    rw [mStop0, if_pos rfl, if_neg h']
    repeat' split
    all_goals rfl
  · rw [mStop0, if_pos rfl, if_neg (show ¬ fd_mDesk_phase m.o_desk ≤ 1 by rcases h1 with q | q <;> rw [q] <;> decide), if_neg (show ¬ (4 : Int32) ≤ fd_mDesk_phase m.o_desk by rcases h1 with q | q <;> rw [q] <;> decide), if_neg h2, if_pos h3, if_pos (h4 rfl)]
theorem bF_of {N d T : Nat} {s s1 s' : CS} {m m1 m' : RS} (hk : kfG s s1) (hm : rfG m m1) (h : bF N d T s1 m1 s' m') : bF N d T s m s' m' := by
  obtain ⟨h1, h2, h3, h4, h5, h6, h7, h8, h9, h10, h11, h12, h13⟩ := h
  exact ⟨h1, h2, h3, h4, h5, h6, h7, h8, h9, h10, kfG_trans hk h11, rfG_trans hm h12, h13⟩
theorem rfG_tk (m : RS) (g h : Nat → Int32) : rfG m (mTaken m g h) := rfG_refl m
theorem cCo_tk {N d k r cp T : Nat} {p : Nat → Nat} {s : CS} {m : RS} {g h : Nat → Int32} (hC : cCo N d k r cp T p s m) : cCo N d k r cp T p s (mTaken m g h) := hC
theorem wk_C {N d lv : Nat} {acts : Nat → Nat → Nat → RS → Option RS} {work : RS → Option RS} (hal : alC N d lv acts) (hwork : ∀ (c : Nat) (m : RS), c ≤ 8 → fd_Ref_xMany m.o_this = nI c → ∃ g h, (∀ i, i < c → g (8 * lv + i) = m.g_xWhat i ∧ h (8 * lv + i) = m.g_xId i) ∧ (∀ j, (j < 8 * lv ∨ 8 * lv + c ≤ j) → g j = m.g_toDo j ∧ h j = m.g_toDoId j) ∧ ∀ s', acts c N 0 (mTaken m g h) = some s' → work m = some s') : wkC N d lv work := by
  intro c T h k r cp p s m hT hh had hC hPs ⟨w1, w2, w3, w4, w5, w6, w7⟩
  obtain ⟨g, g', f1, f2, f3⟩ := hwork c m w2 w5
  have hcI : cI N d T s (mTaken m g g') := ⟨⟨k, r, cp, p, cCo_tk hC⟩, hPs, ⟨0, by omega, w6, rfl, fun i hi => absurd hi (by omega), fun i hi => absurd hi (by omega), fun i hi => absurd hi (by omega)⟩⟩
  have haP : aP lv 0 c s (mTaken m g g') := by
    refine ⟨w1, w4, w3, fun i _ hi => ?_⟩
    obtain ⟨w, j, q1, q2, q3, q4, q5, q6⟩ := w7 i hi
    exact ⟨w, j, q1, q2, q5, (f1 i hi).1.trans q3, q6, (f1 i hi).2.trans q4⟩
  obtain ⟨n, s', m', e1, e2, e3⟩ := hal c T h s (mTaken m g g') w2 hT hh had hcI haP
  have hmL : mLv lv m (mTaken m g g') := ⟨fun j hj => f2 j (Or.inl hj), fun _ _ => rfl, fun _ _ => rfl, rfG_tk m g g'⟩
  refine ⟨n, s', m', e1, f3 _ e2, ?_⟩
  rcases e3 with ⟨h', a1, a2, a3, a4, a5, a6, a7, a8, a9, a10⟩ | ⟨T', b1, b2, b3⟩
  · exact Or.inl ⟨h', a1, a2, a3, a4, a5, a6, mLv_trans hmL a7, a8, a9, a10⟩
  · exact Or.inr ⟨T', b1, b2, bF_of (kfG_refl s) (rfG_tk m g g') b3⟩
theorem al_C2 {N d : Nat} (hN : 20000 < N) : alC N d 2 (mActs2 N) := by
  intro c T h s m hc hT hh had hI hP
  obtain ⟨s', m', f1, f2, f3, f4, f5, f6, f7, f8, f9⟩ := al_2 hN hc c 0 s m N (by omega) (by omega) had hh hI hP
  refine ⟨c, s', m', f1, f2, Or.inl ⟨h, Nat.le_refl _, hh, f3, by omega, ?_, f5, f6, f7, f8, fun _ => f9⟩⟩
  rw [Nat.sub_self]; exact f4
theorem wk_2 {N d : Nat} (hN : 20000 < N) : wkC N d 2 (mWork2 N) := wk_C (al_C2 hN) (fun c m hc hx => work_2 (by omega) hc hx)
theorem lvB_of {lv a z b : Nat} {s s1 : CS} (hz : lv ≠ 0 → z ≤ 16384 * lv) (h : lvB lv a z b s) (hk : kLv lv s s1) (hat : s1.g_interpreter_at lv = s.g_interpreter_at lv) (hac : s1.g_interpreter_actCount lv ≤ s1.g_interpreter_actNext lv) (hr : lv = 0 → fd_Macros_reading s1.o_macros = 0) : lvB lv a z b s1 := by
  obtain ⟨l1, l2, l3, l4, l5, l6, l7, l8, l9⟩ := h
  obtain ⟨k1, k2, k3, k4, k5, k6, k7⟩ := hk
  refine ⟨k1.trans l1, l2, hac, hat.trans l4, (k2 lv (Nat.le_refl _)).1.trans l5, l6, l7, fun q => ⟨?_, hr q⟩, fun q => ⟨(l9 q).1, ?_⟩⟩
  · rw [k7.2.1]; exact (l8 q).1
  · rw [k5 a (by have := hz q; omega)]; exact (l9 q).2
theorem cI_rd {N d T : Nat} {s : CS} {m : RS} (h : cI N d T s m) : fd_Macros_reading s.o_macros = fd_mMacros_reading m.o_macros := by
  obtain ⟨⟨k, r, cp, p, hPg, hSh, hFo, hKn, hRa, ⟨⟨n, u, ln, c1, c2, c3, c4, c5, c6, c7, c8, c9⟩, _⟩, _⟩, _⟩ := h
  exact c8
theorem rfG_st (m : RS) : rfG m (mStopped m) := rfG_refl m
theorem mLv_st (lv : Nat) (m : RS) : mLv lv m (mStopped m) := mLv_refl lv m
theorem xM_pos {s : CS} {m : RS} (h : cSd s m) : fd_Ref_xMany m.o_this = 0 ∨ ¬ fd_Ref_xMany m.o_this ≤ 0 := by
  obtain ⟨c, c1, _, c3, _⟩ := h
  by_cases q : c = 0
  · left; rw [c3, q]; rfl
  · right; rw [c3]; exact nI_nle (by omega) (by omega)
theorem wP_acT {lv : Nat} {s s' : CS} {m' : RS} (hl : fd_Interpreter_level s'.o_interpreter = nI lv) (h : acT lv s s' m') : ∃ c, wP lv c s' m' := by
  obtain ⟨c, c1, c2, c3, c4, c5, c6, c7⟩ := h
  refine ⟨c, hl, c1, ?_, ?_, c4, c5, c6⟩
  · rw [c2]; unfold upd; rw [if_pos rfl]
  · rw [c3]; unfold upd; rw [if_pos rfl]
theorem kLv_acT {lv : Nat} {s s' : CS} {m' : RS} (h : acT lv s s' m') (h1 : s'.g_interpreter_at = s.g_interpreter_at) (h2 : s'.g_interpreter_ends = s.g_interpreter_ends) (h3 : s'.g_interpreter_called = s.g_interpreter_called) (h4 : s'.g_interpreter_copies = s.g_interpreter_copies) (h5 : s'.g_page_kept = s.g_page_kept) (h6 : fd_Interpreter_level s'.o_interpreter = fd_Interpreter_level s.o_interpreter) (h7 : kfG s s') : kLv lv s s' := by
  obtain ⟨c, c1, c2, c3, c4, c5, c6, c7⟩ := h
  refine ⟨h6, fun i _ => by rw [h2, h3]; exact ⟨rfl, rfl⟩, fun i hi => ⟨by rw [h1], ?_, ?_⟩, fun j hj => c7 j (Or.inl hj), fun j _ => by rw [h4], fun j _ => by rw [h5], h7⟩
  · rw [c2]; unfold upd; rw [if_neg (by omega)]
  · rw [c3]; unfold upd; rw [if_neg (by omega)]
/-- what the loop before a byte leaves -/
def sO (N d T lv h n : Nat) (s : CS) (m : RS) (s' : CS) (m' : RS) : Prop := (∃ h', h ≤ h' ∧ h' ≤ 65536 ∧ fd_Ref_had m'.o_this = nI h' ∧ n ≤ 17 * (1 + (h' - h)) + (80 - 20 * (lv + 1)) * (h' - h) ∧ cI N d (T + 4 * (h' - h)) s' m' ∧ kLv lv s s' ∧ mLv lv m m' ∧ s'.g_interpreter_at lv = s.g_interpreter_at lv ∧ s'.g_interpreter_actCount lv ≤ s'.g_interpreter_actNext lv ∧ (¬ (fd_mDesk_phase m'.o_desk = 2 ∨ fd_mDesk_phase m'.o_desk = 3) ∨ fd_Ref_xMany m'.o_this = 0 ∨ ¬ rdy lv m')) ∨ (∃ T', T' ≤ T + 4 * (65536 - h) ∧ n ≤ 17 * (1 + (65536 - h)) + (80 - 20 * (lv + 1)) * (65536 - h) ∧ bF N d T' s m s' m')
/-- one turn of the loop before a byte -/
theorem turn_C {N d lv a z h T : Nat} {work : RS → Option RS} {stop : Nat → RS → Int32 → Option RS} {s : CS} {m : RS} (hN : 2 ^ 22 < N) (hW : wkC N d lv work) (hst : stC lv work stop) (hT : T + 4 * (65536 - h) ≤ 134000000) (hh : h ≤ 65536) (had : fd_Ref_had m.o_this = nI h) (hI : cI N d T s m) (hL : lvB lv a z 27 s) (qr : rdy lv m) (qp : fd_mDesk_phase m.o_desk = 2 ∨ fd_mDesk_phase m.o_desk = 3) (qx : ¬ fd_Ref_xMany m.o_this ≤ 0) : ∃ n s2 m2, kRun N n s s2 ∧ (∀ f, stop (f + 1) m 27 = stop f m2 27) ∧ ((∃ h2, h ≤ h2 ∧ h2 ≤ 65536 ∧ fd_Ref_had m2.o_this = nI h2 ∧ n ≤ 17 + (80 - 20 * (lv + 1)) * (h2 - h) ∧ cI N d (T + 4 * (h2 - h)) s2 m2 ∧ kLv lv s s2 ∧ mLv lv m m2 ∧ s2.g_interpreter_at lv = s.g_interpreter_at lv ∧ s2.g_interpreter_actCount lv ≤ s2.g_interpreter_actNext lv ∧ (h2 = h → fd_mDesk_phase m2.o_desk = 0)) ∨ (∃ T', T' ≤ T + 4 * (65536 - h) ∧ n ≤ 17 + (80 - 20 * (lv + 1)) * (65536 - h) ∧ bF N d T' s m s2 m2)) := by
  obtain ⟨S0, S1, S2, S3, S4, S5⟩ := hst
  obtain ⟨⟨k, r, cp, p, hC⟩, hPs, hSd⟩ := hI
  have hl := hL.1
  have hfa : fd_Ref_fault m.o_this = 0 := hC.2.2.2.2.2.2.2.1.2
  obtain ⟨hn, o', om', t1, t2, _⟩ := tk_E (N := N) (g := m.g_desk_state) (gp := m.g_desk_page) (st := m.g_desk_steps) (gg := m.g_desk_glyph) hPs qp
  obtain ⟨s1, es, r1, hC1, hP1, hA1, e1, e2, e3⟩ := st_again hN hC hSd hL hn t1 t2
  have hl1 : fd_Interpreter_level s1.o_interpreter = nI lv := by rw [es]; exact hl
  have hk1 : kLv lv s s1 := kLv_acT hA1 e1 e2 (by rw [es]; rfl) (by rw [es]; rfl) (by rw [es]; rfl) (hl1.trans hl.symm) e3
  obtain ⟨c, hw⟩ := wP_acT hl1 hA1
  obtain ⟨n, s2, m2, f1, f2, f3⟩ := hW c T h k r cp p s1 (mStopped m) hT hh had hC1 hP1 hw
  refine ⟨1 + n, s2, m2, kRun.trans r1 f1, fun f => ?_, ?_⟩
  · rw [S5 f m qp qx hfa qr, f2, Option.bind_some]
  rcases f3 with ⟨h2, a1, a2, a3, a4, a5, a6, a7, a8, a9, a10⟩ | ⟨T', b1, b2, b3⟩
  · exact Or.inl ⟨h2, a1, a2, a3, by omega, a5, kLv_trans hk1 a6, mLv_trans (mLv_st lv m) a7, a8.trans (by rw [e1]), a9, fun q => a10 q⟩
  · exact Or.inr ⟨T', b1, by omega, bF_of e3 (rfG_st m) b3⟩
theorem stop_C {N d lv a z : Nat} {work : RS → Option RS} {stop : Nat → RS → Int32 → Option RS} (hN : 2 ^ 22 < N) (hlv : lv ≤ 2) (hz : lv ≠ 0 → z ≤ 16384 * lv) (hW : wkC N d lv work) (hst : stC lv work stop) : ∀ (K h T fu : Nat) (s : CS) (m : RS), 65536 - h ≤ K → K + 2 ≤ fu → T + 4 * (65536 - h) ≤ 134000000 → h ≤ 65536 → fd_Ref_had m.o_this = nI h → cI N d T s m → (rdy lv m → lvB lv a z 27 s) → s.g_interpreter_actCount lv ≤ s.g_interpreter_actNext lv → ∃ n s' m', kRun N n s s' ∧ stop fu m 27 = some m' ∧ sO N d T lv h n s m s' m' := by
  have hst0 := hst
  obtain ⟨S0, S1, S2, S3, S4, S5⟩ := hst
  intro K
  induction K with
  | zero =>
    intro h T fu s m hK hfu hT hh had hI hL hac
    obtain ⟨fu, rfl⟩ : ∃ f, fu = f + 2 := ⟨fu - 2, by omega⟩
    by_cases qp : fd_mDesk_phase m.o_desk = 2 ∨ fd_mDesk_phase m.o_desk = 3
    · by_cases qr : rdy lv m
      · rcases xM_pos hI.2.2 with qx | qx
        · exact ⟨0, s, m, kRun.refl N s, S2 _ m qx, Or.inl ⟨h, Nat.le_refl _, hh, had, by omega, by rw [Nat.sub_self]; exact hI, kLv_refl _ _, mLv_refl _ _, rfl, hac, Or.inr (Or.inl qx)⟩⟩
        · obtain ⟨n, s2, m2, r1, r2, r3⟩ := turn_C hN hW hst0 hT hh had hI (hL qr) qr qp qx
          refine ⟨n, s2, m2, r1, ?_, ?_⟩
          · rw [r2]
            rcases r3 with ⟨h2, a1, a2, a3, a4, a5, a6, a7, a8, a9, a10⟩ | ⟨T', b1, b2, b3⟩
            · exact S1 _ _ (by rw [a10 (by omega)]; decide)
            · exact S3 _ _ (by rw [b3.2.1]; decide)
          · rcases r3 with ⟨h2, a1, a2, a3, a4, a5, a6, a7, a8, a9, a10⟩ | ⟨T', b1, b2, b3⟩
            · exact Or.inl ⟨h2, a1, a2, a3, by omega, a5, a6, a7, a8, a9, Or.inl (by rw [a10 (by omega)]; decide)⟩
            · exact Or.inr ⟨T', b1, by omega, b3⟩
      · exact ⟨0, s, m, kRun.refl N s, S4 _ m qr, Or.inl ⟨h, Nat.le_refl _, hh, had, by omega, by rw [Nat.sub_self]; exact hI, kLv_refl _ _, mLv_refl _ _, rfl, hac, Or.inr (Or.inr qr)⟩⟩
    · exact ⟨0, s, m, kRun.refl N s, S1 _ m qp, Or.inl ⟨h, Nat.le_refl _, hh, had, by omega, by rw [Nat.sub_self]; exact hI, kLv_refl _ _, mLv_refl _ _, rfl, hac, Or.inl qp⟩⟩
  | succ K ih =>
    intro h T fu s m hK hfu hT hh had hI hL hac
    obtain ⟨fu, rfl⟩ : ∃ f, fu = f + 2 := ⟨fu - 2, by omega⟩
    by_cases qp : fd_mDesk_phase m.o_desk = 2 ∨ fd_mDesk_phase m.o_desk = 3
    · by_cases qr : rdy lv m
      · rcases xM_pos hI.2.2 with qx | qx
        · exact ⟨0, s, m, kRun.refl N s, S2 _ m qx, Or.inl ⟨h, Nat.le_refl _, hh, had, by omega, by rw [Nat.sub_self]; exact hI, kLv_refl _ _, mLv_refl _ _, rfl, hac, Or.inr (Or.inl qx)⟩⟩
        · obtain ⟨n, s2, m2, r1, r2, r3⟩ := turn_C hN hW hst0 hT hh had hI (hL qr) qr qp qx
          rcases r3 with ⟨h2, a1, a2, a3, a4, a5, a6, a7, a8, a9, a10⟩ | ⟨T', b1, b2, b3⟩
          · by_cases qh : h2 = h
            · refine ⟨n, s2, m2, r1, ?_, Or.inl ⟨h2, a1, a2, a3, by omega, a5, a6, a7, a8, a9, Or.inl (by rw [a10 qh]; decide)⟩⟩
              rw [r2]; exact S1 _ _ (by rw [a10 qh]; decide)
            · have hL2 : rdy lv m2 → lvB lv a z 27 s2 := fun q => lvB_of hz (hL qr) a6 a8 a9 (fun e => (cI_rd a5).trans (q e))
              obtain ⟨n3, s3, m3, g1, g2, g3⟩ := ih h2 (T + 4 * (h2 - h)) (fu + 1) s2 m2 (by omega) (by omega) (by omega) a2 a3 a5 hL2 a9
              refine ⟨n + n3, s3, m3, kRun.trans r1 g1, (r2 _).trans g2, ?_⟩
              rcases g3 with ⟨h3, c1, c2, c3, c4, c5, c6, c7, c8, c9, c10⟩ | ⟨T', b1, b2, b3⟩
              · refine Or.inl ⟨h3, by omega, c2, c3, ?_, ?_, kLv_trans a6 c6, mLv_trans a7 c7, c8.trans a8, c9, c10⟩
                · have : lv = 0 ∨ lv = 1 ∨ lv = 2 := by omega
                  rcases this with e | e | e <;> subst e <;> omega
                · have : T + 4 * (h2 - h) + 4 * (h3 - h2) = T + 4 * (h3 - h) := by omega
                  rw [← this]; exact c5
              · refine Or.inr ⟨T', by omega, ?_, bF_of a6.2.2.2.2.2.2 a7.2.2.2 b3⟩
                have : lv = 0 ∨ lv = 1 ∨ lv = 2 := by omega
                rcases this with e | e | e <;> subst e <;> omega
          · refine ⟨n, s2, m2, r1, ?_, Or.inr ⟨T', b1, by omega, b3⟩⟩
            rw [r2]; exact S3 _ _ (by rw [b3.2.1]; decide)
      · exact ⟨0, s, m, kRun.refl N s, S4 _ m qr, Or.inl ⟨h, Nat.le_refl _, hh, had, by omega, by rw [Nat.sub_self]; exact hI, kLv_refl _ _, mLv_refl _ _, rfl, hac, Or.inr (Or.inr qr)⟩⟩
    · exact ⟨0, s, m, kRun.refl N s, S1 _ m qp, Or.inl ⟨h, Nat.le_refl _, hh, had, by omega, by rw [Nat.sub_self]; exact hI, kLv_refl _ _, mLv_refl _ _, rfl, hac, Or.inl qp⟩⟩
/-- what the byte itself leaves, after the loop before it -/
def fO (N d T lv a h n : Nat) (s : CS) (m : RS) (s' : CS) (m' : RS) : Prop := (∃ h', h ≤ h' ∧ h' ≤ 65536 ∧ fd_Ref_had m'.o_this = nI h' ∧ n ≤ 18 + (80 - 20 * (lv + 1)) * (h' - h) ∧ cI N d (T + 4 + 4 * (h' - h)) s' m' ∧ kLv lv s s' ∧ mLv lv m m' ∧ s'.g_interpreter_at lv = nI (a + 1) ∧ s'.g_interpreter_actCount lv ≤ s'.g_interpreter_actNext lv) ∨ (∃ T', T' ≤ T + 4 + 4 * (65536 - h) ∧ n ≤ 18 + (80 - 20 * (lv + 1)) * (65536 - h) ∧ bF N d T' s m s' m')
theorem res_C {N d T lv a h n : Nat} {work : RS → Option RS} {s0 s s' : CS} {m m2 : RS} {e : Bool} (hn : n ≤ 2) (hl : fd_Interpreter_level s0.o_interpreter = nI lv) (hW : wkC N d lv work) (hT : T + 4 + 4 * (65536 - h) ≤ 134000000) (hh : h ≤ 65536) (had : fd_Ref_had m.o_this = nI h) (hr : kRun N n s0 s') (hk : kLv lv s0 s) (hac : s.g_interpreter_actCount lv ≤ s.g_interpreter_actNext lv) (hR : bRes N d (T + 4) lv a s m s' m2 e) : ∃ n' s'' m'', kRun N n' s0 s'' ∧ (if e = true then work m2 else some m2) = some m'' ∧ fO N d T lv a h n' s0 m s'' m'' := by
  obtain ⟨⟨k, r, cp, p, hC⟩, hPs, hF, hkf, hA, hrf⟩ := hR
  have hF0 := hF
  obtain ⟨x1, x2, x3, x4, x5, x6⟩ := hF
  have hl' : fd_Interpreter_level s'.o_interpreter = nI lv := x6.trans (hk.1.trans hl)
  have hat : s'.g_interpreter_at lv = nI (a + 1) := by rw [x1]; unfold upd; rw [if_pos rfl]
  have had2 : fd_Ref_had m2.o_this = nI h := hrf.1.trans had
  cases e with
  | false =>
    obtain ⟨⟨c1, c2, c3, c4⟩, hSd⟩ := hA.1 rfl
    refine ⟨n, s', m2, hr, by rw [if_neg (by decide)], Or.inl ⟨h, Nat.le_refl _, hh, had2, by omega, ?_, kLv_trans hk (kLv_F hF0 (fun i _ => by rw [c3, c4]; exact ⟨rfl, rfl⟩) (fun j _ => by rw [c1, c2]; exact ⟨rfl, rfl⟩) hkf), mLv_rfM hrf, hat, ?_⟩⟩
    · rw [Nat.sub_self]; exact ⟨⟨k, r, cp, p, hC⟩, hPs, hSd⟩
    · rw [c3, c4]; exact hac
  | true =>
    have hA' := hA.2 rfl
    have hA0 := hA'
    obtain ⟨c, c1, c2, c3, c4, c5, c6, c7⟩ := hA'
    have hk2 : kLv lv s s' := kLv_F hF0 (fun i hi => ⟨by rw [c2]; unfold upd; rw [if_neg (by omega)], by rw [c3]; unfold upd; rw [if_neg (by omega)]⟩) (fun j hj => c7 j (Or.inl hj)) hkf
    obtain ⟨cc, hw⟩ := wP_acT hl' hA0
    obtain ⟨n2, s2, m3, f1, f2, f3⟩ := hW cc (T + 4) h k r cp p s' m2 hT hh had2 hC hPs hw
    refine ⟨n + n2, s2, m3, kRun.trans hr f1, by rw [if_pos rfl]; exact f2, ?_⟩
    rcases f3 with ⟨h2, a1, a2, a3, a4, a5, a6, a7, a8, a9, a10⟩ | ⟨T', b1, b2, b3⟩
    · exact Or.inl ⟨h2, a1, a2, a3, by omega, a5, kLv_trans hk (kLv_trans hk2 a6), mLv_trans (mLv_rfM hrf) a7, a8.trans hat, a9⟩
    · exact Or.inr ⟨T', b1, by omega, bF_of (kfG_trans hk.2.2.2.2.2.2 hkf) hrf.2.2.2.2.2.2.2.2.2.2.2.2.2 b3⟩
theorem fin_C {N d lv a z b h T : Nat} {work : RS → Option RS} {s : CS} {m : RS} (hN : 2 ^ 22 < N) (hb : b < 256) (hW : wkC N d lv work) (hT : T + 4 + 4 * (65536 - h) ≤ 134000000) (hh : h ≤ 65536) (had : fd_Ref_had m.o_this = nI h) (hI : cI N d T s m) (hL : lvB lv a z b s) (hx : b = 27 → ¬ (fd_mDesk_phase m.o_desk = 2 ∨ fd_mDesk_phase m.o_desk = 3) ∨ fd_Ref_xMany m.o_this = 0) : ∃ n s' m' m2 e, kRun N n s s' ∧ mByte N m (nI b) = some (m2, e) ∧ (if e = true then work m2 else some m2) = some m' ∧ fO N d T lv a h n s m s' m' := by
  obtain ⟨⟨k, r, cp, p, hC⟩, hPs, hSd⟩ := hI
  have hl := hL.1
  by_cases q : b = 27 ∧ (fd_mDesk_phase m.o_desk = 2 ∨ fd_mDesk_phase m.o_desk = 3)
  · obtain ⟨q1, q2⟩ := q
    subst q1
    have hx0 : fd_Ref_xMany m.o_this = 0 := (hx rfl).resolve_left (fun w => w q2)
    obtain ⟨s1, s', m2, e, r1, r2, r3, r4, r5, r6, r7, r8, r9, r10, r11, r12⟩ := st_A0 hN (cCo_mono (T' := T + 4) (by omega) hC) hSd hPs hL q2 hx0
    have hk1 : kLv lv s s1 := kLv_acT r5 r6 r7 r8 r9 r10 (by rw [r11]) r12
    have hac : s1.g_interpreter_actCount lv ≤ s1.g_interpreter_actNext lv := by
      obtain ⟨c, c1, c2, c3, c4, _⟩ := r5
      have : c = 0 := (nI_eq (b := 0) (by omega) (by omega)).mp (c4.symm.trans hx0)
      rw [c2, c3, this]; unfold upd; rw [if_pos rfl, if_pos rfl]; decide
    obtain ⟨n', s2, m3, g1, g2, g3⟩ := res_C (n := 2) (by omega) hl hW hT hh had (kRun.trans r1 r2) hk1 hac r4
    exact ⟨n', s2, m3, m2, e, g1, r3, g2, g3⟩
  · have hbr : bR N d T lv a b s m := by
      rcases byte_step hN (by omega) hb hC hSd hPs hL with o | o
      · exact o
      · exact absurd ⟨o.1, o.2.1⟩ q
    obtain ⟨s', m2, e, r1, r2, r3⟩ := hbr
    rcases r3 with r3 | ⟨r3, r4⟩
    · obtain ⟨n', s2, m3, g1, g2, g3⟩ := res_C (n := 1) (by omega) hl hW hT hh had r1 (kLv_refl lv s) hL.2.2.1 r3
      exact ⟨n', s2, m3, m2, e, g1, r2, g2, g3⟩
    · refine ⟨1, s', m2, m2, e, r1, r2, by rw [r3, if_neg (by decide)], Or.inr ⟨T + 4, by omega, by omega, r4⟩⟩
/-- a byte at a level that does not collect -/
theorem by_C {N d lv : Nat} {work : RS → Option RS} {stop : Nat → RS → Int32 → Option RS} {comes : RS → Int32 → Option RS} (hN : 2 ^ 22 < N) (hlv : lv ≤ 2) (h0 : lv ≠ 0) (hW : wkC N d lv work) (hst : stC lv work stop) (hcom : ∀ (b : Int32) (s s1 s2 s' : RS) (e : Bool), fd_Ref_fault s.o_this = 0 → stop N s b = some s1 → fd_Ref_fault s1.o_this = 0 → mByte N s1 b = some (s2, e) → (if e = true then work s2 else some s2) = some s' → comes s b = some s') (hcomf : ∀ (b : Int32) (s s1 : RS), fd_Ref_fault s.o_this = 0 → stop N s b = some s1 → 0 < fd_Ref_fault s1.o_this → comes s b = some s1) : byC N d lv comes := by
  intro T h a z b s m hb hT hh had hz hI hL
  have hfa : fd_Ref_fault m.o_this = 0 := by
    obtain ⟨⟨k, r, cp, p, hC⟩, _⟩ := hI
    exact hC.2.2.2.2.2.2.2.1.2
  have hstop : ∃ n s1 m1, kRun N n s s1 ∧ stop N m (nI b) = some m1 ∧ ((∃ h', h ≤ h' ∧ h' ≤ 65536 ∧ fd_Ref_had m1.o_this = nI h' ∧ n ≤ 17 * (1 + (h' - h)) + (80 - 20 * (lv + 1)) * (h' - h) ∧ cI N d (T + 4 * (h' - h)) s1 m1 ∧ kLv lv s s1 ∧ mLv lv m m1 ∧ s1.g_interpreter_at lv = s.g_interpreter_at lv ∧ s1.g_interpreter_actCount lv ≤ s1.g_interpreter_actNext lv ∧ (b = 27 → ¬ (fd_mDesk_phase m1.o_desk = 2 ∨ fd_mDesk_phase m1.o_desk = 3) ∨ fd_Ref_xMany m1.o_this = 0)) ∨ (∃ T', T' ≤ T + 4 * (65536 - h) ∧ n ≤ 17 * (1 + (65536 - h)) + (80 - 20 * (lv + 1)) * (65536 - h) ∧ bF N d T' s m s1 m1)) := by
    by_cases q : b = 27
    · subst q
      obtain ⟨n, s1, m1, r1, r2, r3⟩ := stop_C (a := a) (z := z) hN hlv hz hW hst 65536 h T N s m (by omega) (by omega) (by omega) hh had hI (fun _ => hL) hL.2.2.1
      refine ⟨n, s1, m1, r1, r2, ?_⟩
      rcases r3 with ⟨h2, a1, a2, a3, a4, a5, a6, a7, a8, a9, a10⟩ | r3
      · refine Or.inl ⟨h2, a1, a2, a3, a4, a5, a6, a7, a8, a9, fun _ => ?_⟩
        rcases a10 with q | q | q
        · exact Or.inl q
        · exact Or.inr q
        · exact absurd (fun e => absurd e h0) q
      · exact Or.inr r3
    · obtain ⟨f, hf⟩ : ∃ f, N = f + 1 := ⟨N - 1, by omega⟩
      have hne : ¬ nI b = 27 := mt (nI_eq (b := 27) (by omega) (by omega)).mp q
      refine ⟨0, s, m, kRun.refl N s, by rw [hf]; exact hst.1 _ _ _ hne, Or.inl ⟨h, Nat.le_refl _, hh, had, by omega, by rw [Nat.sub_self]; exact hI, kLv_refl _ _, mLv_refl _ _, rfl, hL.2.2.1, fun e => absurd e q⟩⟩
  obtain ⟨n, s1, m1, r1, r2, r3⟩ := hstop
  rcases r3 with ⟨h2, a1, a2, a3, a4, a5, a6, a7, a8, a9, a10⟩ | ⟨T', b1, b2, b3⟩
  · have hL1 : lvB lv a z b s1 := lvB_of hz hL a6 a8 a9 (fun e => absurd e h0)
    obtain ⟨n2, s', m', m2, e, g1, g2, g3, g4⟩ := fin_C hN hb hW (T := T + 4 * (h2 - h)) (h := h2) (by omega) a2 a3 a5 hL1 a10
    have hfa1 : fd_Ref_fault m1.o_this = 0 := by
      obtain ⟨⟨k, r, cp, p, hC⟩, _⟩ := a5
      exact hC.2.2.2.2.2.2.2.1.2
    refine ⟨n + n2, s', m', kRun.trans r1 g1, hcom _ _ _ _ _ _ hfa r2 hfa1 g2 g3, ?_⟩
    rcases g4 with ⟨h3, c1, c2, c3, c4, c5, c6, c7, c8, c9⟩ | ⟨T', b1, b2, b3⟩
    · refine Or.inl ⟨h3, by omega, c2, c3, ?_, ?_, kLv_trans a6 c6, mLv_trans a7 c7, c8, c9⟩
      · have : lv = 0 ∨ lv = 1 ∨ lv = 2 := by omega
        rcases this with e | e | e <;> subst e <;> omega
      · have : T + 4 * (h2 - h) + 4 + 4 * (h3 - h2) = T + 4 * (1 + (h3 - h)) := by omega
        rw [← this]; exact c5
    · refine Or.inr ⟨T', by omega, ?_, bF_of a6.2.2.2.2.2.2 a7.2.2.2 b3⟩
      have : lv = 0 ∨ lv = 1 ∨ lv = 2 := by omega
      rcases this with e | e | e <;> subst e <;> omega
  · refine ⟨n, s1, m1, r1, hcomf _ _ _ hfa r2 (by rw [b3.2.1]; decide), Or.inr ⟨T', by omega, ?_, b3⟩⟩
    have : lv = 0 ∨ lv = 1 ∨ lv = 2 := by omega
    rcases this with e | e | e <;> subst e <;> omega
theorem by_2 {N d : Nat} (hN : 2 ^ 22 < N) : byC N d 2 (mComes2 N) := by_C hN (by omega) (by omega) (wk_2 (by omega)) stC_2 (fun b s s1 s2 s' e h1 h2 h3 h4 h5 => com_2 h1 h2 h3 h4 h5) (fun b s s1 h1 h2 h3 => com_2_f h1 h2 h3)
theorem br_ok {k r k0 r0 : Nat} {q : Nat → Nat} (h : pOK k0 r0 q) : pOK k r (brN k r q) := by
  obtain ⟨h0, h1, h2, h3, h4, h5, h6, h7, h8, h9, h10, h11, h12, h13⟩ := h
  have e : ∀ i, 4 ≤ i → brN k r q i = q i := by
    intro i hi
    unfold brN nset
    rw [if_neg (by omega), if_neg (by omega), if_neg (by omega), if_neg (by omega)]
  have e0 : brN k r q 0 = min (q 0) (pgW k r) := rfl
  have e1 : brN k r q 1 = min (q 1) (pgH k r) := rfl
  have e2 : brN k r q 2 = min (q 2) (pgW k r) := rfl
  have e3 : brN k r q 3 = min (q 3) (pgW k r) := rfl
  refine ⟨by omega, by omega, by omega, by omega, ?_, ?_, ?_, ?_, ?_, ?_, ?_, ?_, ?_, fun i hi => ?_⟩
  · rw [e 4 (by omega)]; exact h4
  · rw [e 5 (by omega)]; exact h5
  · rw [e 6 (by omega)]; exact h6
  · rw [e 7 (by omega)]; exact h7
  · rw [e 8 (by omega)]; exact h8
  · rw [e 9 (by omega)]; exact h9
  · rw [e 10 (by omega)]; exact h10
  · rw [e 11 (by omega)]; exact h11
  · rw [e 12 (by omega)]; exact h12
  · rw [e (13 + i) (by omega)]; exact h13 i hi
theorem pOK_big {k r : Nat} {q : Nat → Nat} (hk : k < 5) (hr : r < 4) (h : pOK k r q) : ∀ i, i < 53 → q i ≤ 2000000 := by
  obtain ⟨h0, h1, h2, h3, h4, h5, h6, h7, h8, h9, h10, h11, h12, h13⟩ := h
  have w := pgW_le (r := r) hk
  have v := pgH_le (r := r) hk
  intro i hi
  by_cases q13 : 13 ≤ i
  · have := h13 (i - 13) (by omega)
    rw [show 13 + (i - 13) = i by omega] at this
    omega
  · have : i = 0 ∨ i = 1 ∨ i = 2 ∨ i = 3 ∨ i = 4 ∨ i = 5 ∨ i = 6 ∨ i = 7 ∨ i = 8 ∨ i = 9 ∨ i = 10 ∨ i = 11 ∨ i = 12 := by omega
    rcases this with e | e | e | e | e | e | e | e | e | e | e | e | e <;> subst e <;> omega
/-- the loop over a macro's bytes in the reference -/
def bsC (L : Nat) (f : Nat → Int32) (comes : RS → Int32 → Option RS) (bs : Nat → Nat → RS → Option RS) : Prop := (∀ n k m, L ≤ k → bs (n + 1) k m = some m) ∧ (∀ n k m, ¬ L ≤ k → fd_Ref_fault m.o_this = 0 → bs (n + 1) k m = (comes m (f k &&& 255)).bind (fun m1 => bs n (k + 1) m1)) ∧ (∀ n k m, ¬ fd_Ref_fault m.o_this = 0 → bs (n + 1) k m = some m)
theorem bsC_1 {N L : Nat} {f : Nat → Int32} : bsC L f (mComes2 N) (mBs1 N L f) := by
  refine ⟨fun n k m h => ?_, fun n k m h1 h2 => ?_, fun n k m h => ?_⟩
  · rw [mBs1, if_pos h]
  · rw [mBs1, if_neg h1, if_pos h2]
  · rw [mBs1, if_neg h]; split <;> rfl
theorem bsC_0 {N L : Nat} {f : Nat → Int32} : bsC L f (mComes1 N) (mBs0 N L f) := by
  refine ⟨fun n k m h => ?_, fun n k m h1 h2 => ?_, fun n k m h => ?_⟩
  · rw [mBs0, if_pos h]
  · rw [mBs0, if_neg h1, if_pos h2]
  · rw [mBs0, if_neg h]; split <;> rfl
/-- the bytes of a macro, on both sides -/
theorem bl_C {N d lv L : Nat} {f : Nat → Int32} {b : Nat → Nat} {comes : RS → Int32 → Option RS} {bs : Nat → Nat → RS → Option RS} (hlv : lv < 2) (hL : L ≤ 16384) (hB : byC N d (lv + 1) comes) (hbs : bsC L f comes bs) (hb : ∀ i, i < L → b i < 256 ∧ f i &&& 255 = nI (b i)) : ∀ (r k T h fu : Nat) (s : CS) (m : RS), k + r = L → r < fu → T + 4 * (r + (65536 - h)) ≤ 134000000 → h ≤ 65536 → fd_Ref_had m.o_this = nI h → cI N d T s m → fd_Interpreter_level s.o_interpreter = nI (lv + 1) → s.g_interpreter_at (lv + 1) = nI (lv * 16384 + k) → s.g_interpreter_ends (lv + 1) = nI (lv * 16384 + L) → s.g_interpreter_actCount (lv + 1) ≤ s.g_interpreter_actNext (lv + 1) → (∀ i, i < L → s.g_interpreter_copies (lv * 16384 + i) &&& 255 = nI (b i)) → ∃ n s' m', kRun N n s s' ∧ bs fu k m = some m' ∧ ((∃ h', h ≤ h' ∧ h' ≤ 65536 ∧ fd_Ref_had m'.o_this = nI h' ∧ n ≤ (80 - 20 * (lv + 1)) * (r + (h' - h)) ∧ cI N d (T + 4 * (r + (h' - h))) s' m' ∧ kLv (lv + 1) s s' ∧ mLv (lv + 1) m m' ∧ s'.g_interpreter_at (lv + 1) = nI (lv * 16384 + L) ∧ s'.g_interpreter_actCount (lv + 1) ≤ s'.g_interpreter_actNext (lv + 1) ∧ (r = 0 → m' = m)) ∨ (∃ T', T' ≤ T + 4 * (r + (65536 - h)) ∧ n ≤ (80 - 20 * (lv + 1)) * (r + (65536 - h)) ∧ bF N d T' s m s' m')) := by
  obtain ⟨B0, B1, B2⟩ := hbs
  intro r
  induction r with
  | zero =>
    intro k T h fu s m hk hfu hT hh had hI hl hat hen hac hcp
    obtain ⟨fu, rfl⟩ : ∃ z, fu = z + 1 := ⟨fu - 1, by omega⟩
    refine ⟨0, s, m, kRun.refl N s, B0 _ _ _ (by omega), Or.inl ⟨h, Nat.le_refl _, hh, had, by omega, ?_, kLv_refl _ _, mLv_refl _ _, ?_, hac, fun _ => rfl⟩⟩
    · rw [Nat.sub_self]; exact hI
    · rw [hat, show k = L by omega]
  | succ r ih =>
    intro k T h fu s m hk hfu hT hh had hI hl hat hen hac hcp
    obtain ⟨fu, rfl⟩ : ∃ z, fu = z + 2 := ⟨fu - 2, by omega⟩
    have hfa : fd_Ref_fault m.o_this = 0 := by
      obtain ⟨⟨k, r, cp, p, hC⟩, _⟩ := hI
      exact hC.2.2.2.2.2.2.2.1.2
    obtain ⟨hb1, hb2⟩ := hb k (by omega)
    have hLB : lvB (lv + 1) (lv * 16384 + k) (lv * 16384 + L) (b k) s := ⟨hl, by omega, hac, hat, hen, by omega, by omega, fun q => absurd q (by omega), fun _ => ⟨by omega, hcp k (by omega)⟩⟩
    obtain ⟨n1, s1, m1, r1, r2, r3⟩ := hB T h (lv * 16384 + k) (lv * 16384 + L) (b k) s m hb1 (by omega) hh had (fun _ => by omega) hI hLB
    rw [B1 _ _ _ (by omega) hfa, hb2, r2, Option.bind_some]
    rcases r3 with ⟨h2, a1, a2, a3, a4, a5, a6, a7, a8, a9⟩ | ⟨T', b1, b2, b3⟩
    · obtain ⟨n2, s', m', g1, g2, g3⟩ := ih (k + 1) (T + 4 * (1 + (h2 - h))) h2 (fu + 1) s1 m1 (by omega) (by omega) (by omega) a2 a3 a5 (a6.1.trans hl) (by rw [a8, Nat.add_assoc]) ((a6.2.1 _ (Nat.le_refl _)).1.trans hen) a9 (fun i hi => by rw [a6.2.2.2.2.1 _ (by omega)]; exact hcp i hi)
      refine ⟨n1 + n2, s', m', kRun.trans r1 g1, g2, ?_⟩
      rcases g3 with ⟨h3, c1, c2, c3, c4, c5, c6, c7, c8, c9, _⟩ | ⟨T', b1, b2, b3⟩
      · refine Or.inl ⟨h3, by omega, c2, c3, ?_, ?_, kLv_trans a6 c6, mLv_trans a7 c7, c8, c9, fun q => absurd q (by omega)⟩
        · have : lv = 0 ∨ lv = 1 := by omega
          rcases this with e | e <;> subst e <;> omega
        · have : T + 4 * (1 + (h2 - h)) + 4 * (r + (h3 - h2)) = T + 4 * (r + 1 + (h3 - h)) := by omega
          rw [← this]; exact c5
      · refine Or.inr ⟨T', by omega, ?_, bF_of a6.2.2.2.2.2.2 a7.2.2.2 b3⟩
        have : lv = 0 ∨ lv = 1 := by omega
        rcases this with e | e <;> subst e <;> omega
    · refine ⟨n1, s1, m1, r1, B2 _ _ _ (by rw [b3.2.1]; decide), Or.inr ⟨T', by omega, ?_, b3⟩⟩
      have : lv = 0 ∨ lv = 1 := by omega
      rcases this with e | e <;> subst e <;> omega
theorem upd_ne {g : Nat → Int32} {i j : Nat} {x : Int32} (h : j ≠ i) : upd g i x j = g j := by unfold upd; rw [if_neg h]
theorem upd_eq (g : Nat → Int32) (i : Nat) (x : Int32) : upd g i x i = x := by unfold upd; rw [if_pos rfl]
/-- what one act of a level leaves, also if it runs a macro -/
def rO (N d T lv h i c n : Nat) (s : CS) (m : RS) (s' : CS) (m' : RS) : Prop := (∃ h', h ≤ h' ∧ h' ≤ 65536 ∧ fd_Ref_had m'.o_this = nI h' ∧ n ≤ 2 + (80 - 20 * (lv + 1)) * (h' - h) ∧ cI N d (T + 4 * (h' - h)) s' m' ∧ kLv lv s s' ∧ mLv lv m m' ∧ s'.g_interpreter_at lv = s.g_interpreter_at lv ∧ (h' = h → fd_mDesk_phase m'.o_desk = fd_mDesk_phase m.o_desk) ∧ aP lv (i + 1) c s' m') ∨ (∃ T', T' ≤ T + 4 * (65536 - h) ∧ n ≤ 2 + (80 - 20 * (lv + 1)) * (65536 - h) ∧ bF N d T' s m s' m')
/-- a macro is entered at level 1, its bytes run, and it is left: not called -/
theorem run_x1 {N d T h i c L j A w jj : Nat} {s : CS} {m : RS} {g' : Nat → Int32} (hN : 2 ^ 22 < N) (hB : byC N d 2 (mComes2 N)) (hT : T + 4 * (65536 - h) ≤ 134000000) (had : fd_Ref_had m.o_this = nI h) (hI : cI N d T s m) (hP : aP 1 i c s m) (hi : i < c) (hc : c ≤ 8) (hj : j < 32) (hlm : m.g_macros_lengths j = nI L) (hAL : A + L ≤ 16384) (hhL : h + L ≤ 65536) (hst : ex_mMacros_startOf N m.o_macros m.g_macros_lengths (nI j) = some (nI A)) (hb8 : by8 16384 m.g_macros_store) (hfe : ex_Macros_fetch N s.o_macros 32768 s.g_interpreter_copies s.g_macros_ids s.g_macros_lengths s.g_macros_bytes s.g_macros_places (nI jj) (nI (1 * 16384)) = some (fs_Macros_had s.o_macros (nI (h + L)), g', nI L)) (hg : ∀ i, i < L → g' (1 * 16384 + i) = m.g_macros_store (A + i) ∧ is8 (m.g_macros_store (A + i))) (hg0 : ∀ i, i < 1 * 16384 → g' i = s.g_interpreter_copies i) (hw : s.g_interpreter_acts (8 * 1 + i) = nI 2) (hid : s.g_interpreter_actIds (8 * 1 + i) = nI jj) : 
    ∃ n s1 m1, kRun N n s s1 ∧ mRun1 N m (nI j) 0 = some m1 ∧ rO N d T 1 h i c n s m s1 m1 := by
  obtain ⟨p1, p2, p3, p4⟩ := hP
  obtain ⟨⟨k, r, cp, p, hC⟩, hPs, hSd⟩ := hI
  have hC0 := hC
  obtain ⟨hPg, hSh, hFo, hKn, hRa, hMa, hFl, hFa, hIt⟩ := hC
  obtain ⟨ma1, ma2, ma3, ma4⟩ := hMa
  have e2 : (nI j).toNatClampNeg = j := nI_clamp (by omega)
  obtain ⟨f, rc1, rc2, _⟩ := rc_1 (L := L) (A := A) (lm := m.g_macros_lengths) (bm := m.g_macros_store) (v0 := nI j) (by rw [e2]; exact hlm) hAL hb8 N 0 m.g_bytes2 (by omega) (by omega)
  have hem := em_y (N := N) (w := 0) (kp := s.g_page_kept) (kp' := s.g_page_kept) (op := s.o_page) (stc := s.g_page_stack) (at_ := s.g_interpreter_at) (en := s.g_interpreter_ends) (ac := s.g_interpreter_actCount) (an := upd s.g_interpreter_actNext 1 (nI (i + 1))) (ca := s.g_interpreter_called) (lv := 1) (L := L) (by omega) (by omega) p1 hfe (Or.inl ⟨rfl, rfl⟩)
  have hkn := kn_em2 (N := N) p1 (by omega) hi hc p2 p3 hw hid hem
  obtain ⟨s1, hs1⟩ : ∃ x, x = kEn s (fs_Interpreter_level s.o_interpreter (nI 2)) (upd (upd s.g_interpreter_actNext 1 (nI (i + 1))) 2 0) (upd s.g_interpreter_actCount 2 0) (upd s.g_interpreter_at 2 (nI (1 * 16384))) (upd s.g_interpreter_ends 2 (nI (1 * 16384 + L))) (upd s.g_interpreter_called 2 (nI 0)) (fs_Macros_had s.o_macros (nI (h + L))) g' s.g_page_kept := ⟨_, rfl⟩
  have A1 : s1.g_interpreter_at = upd s.g_interpreter_at 2 (nI (1 * 16384)) := by rw [hs1]; rfl
  have A2 : s1.g_interpreter_ends = upd s.g_interpreter_ends 2 (nI (1 * 16384 + L)) := by rw [hs1]; rfl
  have A3 : s1.g_interpreter_actCount = upd s.g_interpreter_actCount 2 0 := by rw [hs1]; rfl
  have A4 : s1.g_interpreter_actNext = upd (upd s.g_interpreter_actNext 1 (nI (i + 1))) 2 0 := by rw [hs1]; rfl
  have A5 : s1.g_interpreter_called = upd s.g_interpreter_called 2 (nI 0) := by rw [hs1]; rfl
  have A6 : s1.g_interpreter_copies = g' := by rw [hs1]; rfl
  have hkn' : kNext N s = some (s1, 0) := by rw [hs1]; exact hkn
  have hst1 : kStep N s = some s1 := step_z (lv := 2) hkn' (by rw [hs1]; rfl) (by omega) (by rw [hs1]; exact hKn) hFa.1 (by rw [hs1]; exact hIt.1) (by rw [hs1]; exact hIt.2)
  have hr1 : kRun N 1 s s1 := kRun.one hFa.1 (more_act p1 (by omega) hi hc p2 p3) hst1
  have had1 : fd_Ref_had (mIn1 m L f).o_this = nI (h + L) := by
    show fd_Ref_had m.o_this + nI L = _
    rw [had, nI_add]
  have hI1 : cI N d T s1 (mIn1 m L f) := by
    rw [hs1]
    refine ⟨⟨k, r, cp, p, hPg, hSh, hFo, hKn, hRa, ⟨ma1, ma2, ma3, ⟨h + L, hhL, rfl, had1⟩⟩, hFl, hFa, hIt⟩, hPs, hSd⟩
  have hcp : ∀ i, i < L → s1.g_interpreter_copies (1 * 16384 + i) &&& 255 = nI (u8 (m.g_macros_store (A + i))) := by
    intro i hi
    rw [hs1]
    show g' (1 * 16384 + i) &&& 255 = _
    rw [(hg i hi).1, u8_and]
  obtain ⟨n2, s2, m2, b1, b2, b3⟩ := bl_C (lv := 1) (L := L) (f := f) (b := fun i => u8 (m.g_macros_store (A + i))) (by omega) (by omega) hB bsC_1 (fun i hi => ⟨Nat.mod_lt _ (by omega), by rw [rc2 i hi (by omega), u8_and]⟩) L 0 T (h + L) N s1 (mIn1 m L f) (by omega) (by omega) (by omega) hhL had1 hI1 (by rw [hs1]; rfl) (by rw [A1, upd_eq]) (by rw [A2, upd_eq]) (by rw [A3, A4, upd_eq, upd_eq]; decide) hcp
  have hrun : mRun1 N m (nI j) 0 = some m2 := run_1a hj (by omega) hlm hst rc1 b2
  have hk1 : kfG s s1 := by rw [hs1]; exact kfG_refl s
  have hm1 : rfG m (mIn1 m L f) := rfG_refl m
  rcases b3 with ⟨h2, a1, a2, a3, a4, a5, a6, a7, a8, a9, a10⟩ | ⟨T', c1, c2, c3⟩
  · obtain ⟨k1, k2, k3, k4, k5, k6, k7⟩ := a6
    have hlev : fd_Interpreter_level s2.o_interpreter = nI 2 := k1.trans (by rw [hs1]; rfl)
    have hca : s2.g_interpreter_called 2 = 0 := (k2 2 (Nat.le_refl _)).2.trans (by rw [A5, upd_eq]; rfl)
    have hen : s2.g_interpreter_ends 2 = nI (1 * 16384 + L) := (k2 2 (Nat.le_refl _)).1.trans (by rw [A2, upd_eq])
    have hlvm := lv_0 (N := N) (op := s2.o_page) (stc := s2.g_page_stack) (kp := s2.g_page_kept) hlev (by omega) (by omega) hca
    obtain ⟨s3, hs3⟩ : ∃ x, x = kLe s2 (fs_Interpreter_level s2.o_interpreter (nI 1)) s2.o_page s2.g_page_stack := ⟨_, rfl⟩
    have hkn3 : kNext N s2 = some (s3, 0) := kn_lv hlev (by omega) (by omega) a9 a8 hen hlvm hs3
    obtain ⟨⟨k', r', cp', p', hPg', hSh', hFo', hKn', hRa', hMa', hFl', hFa', hIt'⟩, hPs', hSd'⟩ := a5
    have hst3 : kStep N s2 = some s3 := step_z (lv := 1) hkn3 (by rw [hs3]; rfl) (by omega) (by rw [hs3]; exact hKn') hFa'.1 (by rw [hs3]; exact hIt'.1) (by rw [hs3]; exact hIt'.2)
    have hr3 : kRun N 1 s2 s3 := kRun.one hFa'.1 (more_lv hlev (by omega) (by omega)) hst3
    refine ⟨1 + n2 + 1, s3, m2, kRun.trans (kRun.trans hr1 b1) hr3, hrun, Or.inl ⟨h2, by omega, a2, a3, by omega, ?_, ?_, ?_, ?_, ?_, ?_⟩⟩
    · have : T + 4 * (L + (h2 - (h + L))) = T + 4 * (h2 - h) := by omega
      rw [← this, hs3]
      exact ⟨⟨k', r', cp', p', hPg', hSh', hFo', hKn', hRa', hMa', hFl', hFa', hIt'⟩, hPs', hSd'⟩
    · rw [hs3]
      refine ⟨by rw [p1]; rfl, fun i hi => ⟨(k2 i (by omega)).1.trans ?_, (k2 i (by omega)).2.trans ?_⟩, fun i hi => ⟨(k3 i (by omega)).1.trans ?_, (k3 i (by omega)).2.1.trans ?_, (k3 i (by omega)).2.2.trans ?_⟩, fun j hj => ⟨(k4 j (by omega)).1.trans (by rw [hs1]; rfl), (k4 j (by omega)).2.trans (by rw [hs1]; rfl)⟩, fun j hj => (k5 j (by omega)).trans ?_, fun j hj => (k6 j (by omega)).trans (by rw [hs1]; rfl), kfG_trans hk1 k7⟩
      · rw [A2]; exact upd_ne (by omega)
      · rw [A5]; exact upd_ne (by omega)
      · rw [A1]; exact upd_ne (by omega)
      · rw [A3]; exact upd_ne (by omega)
      · rw [A4, upd_ne (by omega)]; exact upd_ne (by omega)
      · rw [A6]; exact hg0 j (by omega)
    · obtain ⟨x1, x2, x3, x4⟩ := a7
      exact ⟨fun j hj => x1 j (by omega), fun j hj => x2 j (by omega), fun j hj => x3 j (by omega), rfG_trans hm1 x4⟩
    · rw [hs3]
      refine (k3 1 (by omega)).1.trans ?_
      rw [A1]; exact upd_ne (by omega)
    · intro q
      have hL0 : L = 0 := by omega
      rw [a10 hL0]; rfl
    · rw [hs3]
      refine ⟨rfl, (k3 1 (by omega)).2.2.trans ?_, ((k3 1 (by omega)).2.1.trans ?_).trans p3, fun kk h1 h2 => ?_⟩
      · rw [A4, upd_ne (by omega)]; exact upd_eq _ _ _
      · rw [A3]; exact upd_ne (by omega)
      · obtain ⟨w, j, q1, q2, q3, q4, q5, q6⟩ := p4 kk (by omega) h2
        refine ⟨w, j, q1, q2, ((k4 (8 * 1 + kk) (by omega)).1.trans ?_).trans q3, ((a7.1 (8 * 1 + kk) (by omega)).1).trans q4, ((k4 (8 * 1 + kk) (by omega)).2.trans ?_).trans q5, ((a7.1 (8 * 1 + kk) (by omega)).2).trans q6⟩
        · rw [hs1]; rfl
        · rw [hs1]; rfl
  · exact ⟨1 + n2, s2, m2, kRun.trans hr1 b1, hrun, Or.inr ⟨T', by omega, by omega, bF_of hk1 hm1 c3⟩⟩

/-- a macro is entered at level 0, its bytes run, and it is left: not called -/
theorem run_x0 {N d T h i c L j A w jj : Nat} {s : CS} {m : RS} {g' : Nat → Int32} (hN : 2 ^ 22 < N) (hB : byC N d 1 (mComes1 N)) (hT : T + 4 * (65536 - h) ≤ 134000000) (had : fd_Ref_had m.o_this = nI h) (hI : cI N d T s m) (hP : aP 0 i c s m) (hi : i < c) (hc : c ≤ 8) (hj : j < 32) (hlm : m.g_macros_lengths j = nI L) (hAL : A + L ≤ 16384) (hhL : h + L ≤ 65536) (hst : ex_mMacros_startOf N m.o_macros m.g_macros_lengths (nI j) = some (nI A)) (hb8 : by8 16384 m.g_macros_store) (hfe : ex_Macros_fetch N s.o_macros 32768 s.g_interpreter_copies s.g_macros_ids s.g_macros_lengths s.g_macros_bytes s.g_macros_places (nI jj) (nI (0 * 16384)) = some (fs_Macros_had s.o_macros (nI (h + L)), g', nI L)) (hg : ∀ i, i < L → g' (0 * 16384 + i) = m.g_macros_store (A + i) ∧ is8 (m.g_macros_store (A + i))) (hg0 : ∀ i, i < 0 * 16384 → g' i = s.g_interpreter_copies i) (hw : s.g_interpreter_acts (8 * 0 + i) = nI 2) (hid : s.g_interpreter_actIds (8 * 0 + i) = nI jj) : 
    ∃ n s1 m1, kRun N n s s1 ∧ mRun0 N m (nI j) 0 = some m1 ∧ rO N d T 0 h i c n s m s1 m1 := by
  obtain ⟨p1, p2, p3, p4⟩ := hP
  obtain ⟨⟨k, r, cp, p, hC⟩, hPs, hSd⟩ := hI
  have hC0 := hC
  obtain ⟨hPg, hSh, hFo, hKn, hRa, hMa, hFl, hFa, hIt⟩ := hC
  obtain ⟨ma1, ma2, ma3, ma4⟩ := hMa
  have e2 : (nI j).toNatClampNeg = j := nI_clamp (by omega)
  obtain ⟨f, rc1, rc2, _⟩ := rc_0 (L := L) (A := A) (lm := m.g_macros_lengths) (bm := m.g_macros_store) (v0 := nI j) (by rw [e2]; exact hlm) hAL hb8 N 0 m.g_bytes1 (by omega) (by omega)
  have hem := em_y (N := N) (w := 0) (kp := s.g_page_kept) (kp' := s.g_page_kept) (op := s.o_page) (stc := s.g_page_stack) (at_ := s.g_interpreter_at) (en := s.g_interpreter_ends) (ac := s.g_interpreter_actCount) (an := upd s.g_interpreter_actNext 0 (nI (i + 1))) (ca := s.g_interpreter_called) (lv := 0) (L := L) (by omega) (by omega) p1 hfe (Or.inl ⟨rfl, rfl⟩)
  have hkn := kn_em2 (N := N) p1 (by omega) hi hc p2 p3 hw hid hem
  obtain ⟨s1, hs1⟩ : ∃ x, x = kEn s (fs_Interpreter_level s.o_interpreter (nI 1)) (upd (upd s.g_interpreter_actNext 0 (nI (i + 1))) 1 0) (upd s.g_interpreter_actCount 1 0) (upd s.g_interpreter_at 1 (nI (0 * 16384))) (upd s.g_interpreter_ends 1 (nI (0 * 16384 + L))) (upd s.g_interpreter_called 1 (nI 0)) (fs_Macros_had s.o_macros (nI (h + L))) g' s.g_page_kept := ⟨_, rfl⟩
  have A1 : s1.g_interpreter_at = upd s.g_interpreter_at 1 (nI (0 * 16384)) := by rw [hs1]; rfl
  have A2 : s1.g_interpreter_ends = upd s.g_interpreter_ends 1 (nI (0 * 16384 + L)) := by rw [hs1]; rfl
  have A3 : s1.g_interpreter_actCount = upd s.g_interpreter_actCount 1 0 := by rw [hs1]; rfl
  have A4 : s1.g_interpreter_actNext = upd (upd s.g_interpreter_actNext 0 (nI (i + 1))) 1 0 := by rw [hs1]; rfl
  have A5 : s1.g_interpreter_called = upd s.g_interpreter_called 1 (nI 0) := by rw [hs1]; rfl
  have A6 : s1.g_interpreter_copies = g' := by rw [hs1]; rfl
  have hkn' : kNext N s = some (s1, 0) := by rw [hs1]; exact hkn
  have hst1 : kStep N s = some s1 := step_z (lv := 1) hkn' (by rw [hs1]; rfl) (by omega) (by rw [hs1]; exact hKn) hFa.1 (by rw [hs1]; exact hIt.1) (by rw [hs1]; exact hIt.2)
  have hr1 : kRun N 1 s s1 := kRun.one hFa.1 (more_act p1 (by omega) hi hc p2 p3) hst1
  have had1 : fd_Ref_had (mIn0 m L f).o_this = nI (h + L) := by
    show fd_Ref_had m.o_this + nI L = _
    rw [had, nI_add]
  have hI1 : cI N d T s1 (mIn0 m L f) := by
    rw [hs1]
    refine ⟨⟨k, r, cp, p, hPg, hSh, hFo, hKn, hRa, ⟨ma1, ma2, ma3, ⟨h + L, hhL, rfl, had1⟩⟩, hFl, hFa, hIt⟩, hPs, hSd⟩
  have hcp : ∀ i, i < L → s1.g_interpreter_copies (0 * 16384 + i) &&& 255 = nI (u8 (m.g_macros_store (A + i))) := by
    intro i hi
    rw [hs1]
    show g' (0 * 16384 + i) &&& 255 = _
    rw [(hg i hi).1, u8_and]
  obtain ⟨n2, s2, m2, b1, b2, b3⟩ := bl_C (lv := 0) (L := L) (f := f) (b := fun i => u8 (m.g_macros_store (A + i))) (by omega) (by omega) hB bsC_0 (fun i hi => ⟨Nat.mod_lt _ (by omega), by rw [rc2 i hi (by omega), u8_and]⟩) L 0 T (h + L) N s1 (mIn0 m L f) (by omega) (by omega) (by omega) hhL had1 hI1 (by rw [hs1]; rfl) (by rw [A1, upd_eq]) (by rw [A2, upd_eq]) (by rw [A3, A4, upd_eq, upd_eq]; decide) hcp
  have hrun : mRun0 N m (nI j) 0 = some m2 := run_0a hj (by omega) hlm hst rc1 b2
  have hk1 : kfG s s1 := by rw [hs1]; exact kfG_refl s
  have hm1 : rfG m (mIn0 m L f) := rfG_refl m
  rcases b3 with ⟨h2, a1, a2, a3, a4, a5, a6, a7, a8, a9, a10⟩ | ⟨T', c1, c2, c3⟩
  · obtain ⟨k1, k2, k3, k4, k5, k6, k7⟩ := a6
    have hlev : fd_Interpreter_level s2.o_interpreter = nI 1 := k1.trans (by rw [hs1]; rfl)
    have hca : s2.g_interpreter_called 1 = 0 := (k2 1 (Nat.le_refl _)).2.trans (by rw [A5, upd_eq]; rfl)
    have hen : s2.g_interpreter_ends 1 = nI (0 * 16384 + L) := (k2 1 (Nat.le_refl _)).1.trans (by rw [A2, upd_eq])
    have hlvm := lv_0 (N := N) (op := s2.o_page) (stc := s2.g_page_stack) (kp := s2.g_page_kept) hlev (by omega) (by omega) hca
    obtain ⟨s3, hs3⟩ : ∃ x, x = kLe s2 (fs_Interpreter_level s2.o_interpreter (nI 0)) s2.o_page s2.g_page_stack := ⟨_, rfl⟩
    have hkn3 : kNext N s2 = some (s3, 0) := kn_lv hlev (by omega) (by omega) a9 a8 hen hlvm hs3
    obtain ⟨⟨k', r', cp', p', hPg', hSh', hFo', hKn', hRa', hMa', hFl', hFa', hIt'⟩, hPs', hSd'⟩ := a5
    have hst3 : kStep N s2 = some s3 := step_z (lv := 0) hkn3 (by rw [hs3]; rfl) (by omega) (by rw [hs3]; exact hKn') hFa'.1 (by rw [hs3]; exact hIt'.1) (by rw [hs3]; exact hIt'.2)
    have hr3 : kRun N 1 s2 s3 := kRun.one hFa'.1 (more_lv hlev (by omega) (by omega)) hst3
    refine ⟨1 + n2 + 1, s3, m2, kRun.trans (kRun.trans hr1 b1) hr3, hrun, Or.inl ⟨h2, by omega, a2, a3, by omega, ?_, ?_, ?_, ?_, ?_, ?_⟩⟩
    · have : T + 4 * (L + (h2 - (h + L))) = T + 4 * (h2 - h) := by omega
      rw [← this, hs3]
      exact ⟨⟨k', r', cp', p', hPg', hSh', hFo', hKn', hRa', hMa', hFl', hFa', hIt'⟩, hPs', hSd'⟩
    · rw [hs3]
      refine ⟨by rw [p1]; rfl, fun i hi => ⟨(k2 i (by omega)).1.trans ?_, (k2 i (by omega)).2.trans ?_⟩, fun i hi => ⟨(k3 i (by omega)).1.trans ?_, (k3 i (by omega)).2.1.trans ?_, (k3 i (by omega)).2.2.trans ?_⟩, fun j hj => ⟨(k4 j (by omega)).1.trans (by rw [hs1]; rfl), (k4 j (by omega)).2.trans (by rw [hs1]; rfl)⟩, fun j hj => (k5 j (by omega)).trans ?_, fun j hj => (k6 j (by omega)).trans (by rw [hs1]; rfl), kfG_trans hk1 k7⟩
      · rw [A2]; exact upd_ne (by omega)
      · rw [A5]; exact upd_ne (by omega)
      · rw [A1]; exact upd_ne (by omega)
      · rw [A3]; exact upd_ne (by omega)
      · rw [A4, upd_ne (by omega)]; exact upd_ne (by omega)
      · rw [A6]; exact hg0 j (by omega)
    · obtain ⟨x1, x2, x3, x4⟩ := a7
      exact ⟨fun j hj => x1 j (by omega), fun j hj => x2 j (by omega), fun j hj => x3 j (by omega), rfG_trans hm1 x4⟩
    · rw [hs3]
      refine (k3 0 (by omega)).1.trans ?_
      rw [A1]; exact upd_ne (by omega)
    · intro q
      have hL0 : L = 0 := by omega
      rw [a10 hL0]; rfl
    · rw [hs3]
      refine ⟨rfl, (k3 0 (by omega)).2.2.trans ?_, ((k3 0 (by omega)).2.1.trans ?_).trans p3, fun kk h1 h2 => ?_⟩
      · rw [A4, upd_ne (by omega)]; exact upd_eq _ _ _
      · rw [A3]; exact upd_ne (by omega)
      · obtain ⟨w, j, q1, q2, q3, q4, q5, q6⟩ := p4 kk (by omega) h2
        refine ⟨w, j, q1, q2, ((k4 (8 * 0 + kk) (by omega)).1.trans ?_).trans q3, ((a7.1 (8 * 0 + kk) (by omega)).1).trans q4, ((k4 (8 * 0 + kk) (by omega)).2.trans ?_).trans q5, ((a7.1 (8 * 0 + kk) (by omega)).2).trans q6⟩
        · rw [hs1]; rfl
        · rw [hs1]; rfl
  · exact ⟨1 + n2, s2, m2, kRun.trans hr1 b1, hrun, Or.inr ⟨T', by omega, by omega, bF_of hk1 hm1 c3⟩⟩
theorem kpC_of {b : Nat} {q : Nat → Nat} {g g' : Nat → Int32} (h : ∀ j, j < b + 53 → g' j = g j) (hq : q 12 ≤ 20) (hK : kpC b q g) : kpC b q g' := by
  obtain ⟨h0, h1, h2, h3, h4, h5, h6, h7, h8, h9, h10, h11, h12, h13⟩ := hK
  exact ⟨(h _ (by omega)).trans h0, (h _ (by omega)).trans h1, (h _ (by omega)).trans h2, (h _ (by omega)).trans h3, (h _ (by omega)).trans h4, (h _ (by omega)).trans h5, (h _ (by omega)).trans h6, (h _ (by omega)).trans h7, (h _ (by omega)).trans h8, (h _ (by omega)).trans h9, (h _ (by omega)).trans h10, (h _ (by omega)).trans h11, (h _ (by omega)).trans h12, fun i hi => (h _ (by omega)).trans (h13 i hi)⟩
/-- a macro is entered at level 1, its bytes run, and it is left: called -/
theorem run_y1 {N d T h i c L j A w jj : Nat} {s : CS} {m : RS} {g' : Nat → Int32} (hN : 2 ^ 22 < N) (hB : byC N d 2 (mComes2 N)) (hT : T + 4 * (65536 - h) ≤ 134000000) (had : fd_Ref_had m.o_this = nI h) (hI : cI N d T s m) (hP : aP 1 i c s m) (hi : i < c) (hc : c ≤ 8) (hj : j < 32) (hlm : m.g_macros_lengths j = nI L) (hAL : A + L ≤ 16384) (hhL : h + L ≤ 65536) (hst : ex_mMacros_startOf N m.o_macros m.g_macros_lengths (nI j) = some (nI A)) (hb8 : by8 16384 m.g_macros_store) (hfe : ex_Macros_fetch N s.o_macros 32768 s.g_interpreter_copies s.g_macros_ids s.g_macros_lengths s.g_macros_bytes s.g_macros_places (nI jj) (nI (1 * 16384)) = some (fs_Macros_had s.o_macros (nI (h + L)), g', nI L)) (hg : ∀ i, i < L → g' (1 * 16384 + i) = m.g_macros_store (A + i) ∧ is8 (m.g_macros_store (A + i))) (hg0 : ∀ i, i < 1 * 16384 → g' i = s.g_interpreter_copies i) (hw : s.g_interpreter_acts (8 * 1 + i) = nI 3) (hid : s.g_interpreter_actIds (8 * 1 + i) = nI jj) : 
    ∃ n s1 m1, kRun N n s s1 ∧ mRun1 N m (nI j) 1 = some m1 ∧ rO N d T 1 h i c n s m s1 m1 := by
  obtain ⟨p1, p2, p3, p4⟩ := hP
  obtain ⟨⟨k, r, cp, p, hC⟩, hPs, hSd⟩ := hI
  have hC0 := hC
  obtain ⟨hPg, hSh, hFo, hKn, hRa, hMa, hFl, hFa, hIt⟩ := hC
  obtain ⟨ma1, ma2, ma3, ma4⟩ := hMa
  have e2 : (nI j).toNatClampNeg = j := nI_clamp (by omega)
  obtain ⟨f, rc1, rc2, _⟩ := rc_1 (L := L) (A := A) (lm := m.g_macros_lengths) (bm := m.g_macros_store) (v0 := nI j) (by rw [e2]; exact hlm) hAL hb8 N 0 m.g_bytes2 (by omega) (by omega)
  have hPg0 := hPg
  obtain ⟨pd, pk, pr, pcp, pp, pok, pst, pdk, pd1, pd2⟩ := hPg0
  obtain ⟨kp, kq1, kq2, kq3⟩ := pg_keep (N := N) (d := d) (k := k) (r := r) (cp := cp) (lv := 2) (kg := s.g_page_kept) (by omega) pok.2.2.2.2.2.2.2.2.1 pok.2.2.2.2.2.2.2.2.2.1 pok.2.2.2.2.2.2.2.2.2.2.2.2.1 pst
  rw [← pp] at kq1
  obtain ⟨kg, mq1, mq2, mq3⟩ := md_keep (N := N) (d := 1) (kg := m.g_desk_kept) (ik := m.g_desk_isKept) (by omega) (by omega) pdk
  have hem := em_y (N := N) (w := 1) (kp := s.g_page_kept) (kp' := kp) (op := s.o_page) (stc := s.g_page_stack) (at_ := s.g_interpreter_at) (en := s.g_interpreter_ends) (ac := s.g_interpreter_actCount) (an := upd s.g_interpreter_actNext 1 (nI (i + 1))) (ca := s.g_interpreter_called) (lv := 1) (L := L) (by omega) (by omega) p1 hfe (Or.inr ⟨rfl, kq1⟩)
  have hkn := kn_em3 (N := N) p1 (by omega) hi hc p2 p3 hw hid hem
  obtain ⟨s1, hs1⟩ : ∃ x, x = kEn s (fs_Interpreter_level s.o_interpreter (nI 2)) (upd (upd s.g_interpreter_actNext 1 (nI (i + 1))) 2 0) (upd s.g_interpreter_actCount 2 0) (upd s.g_interpreter_at 2 (nI (1 * 16384))) (upd s.g_interpreter_ends 2 (nI (1 * 16384 + L))) (upd s.g_interpreter_called 2 (nI 1)) (fs_Macros_had s.o_macros (nI (h + L))) g' kp := ⟨_, rfl⟩
  have A1 : s1.g_interpreter_at = upd s.g_interpreter_at 2 (nI (1 * 16384)) := by rw [hs1]; rfl
  have A2 : s1.g_interpreter_ends = upd s.g_interpreter_ends 2 (nI (1 * 16384 + L)) := by rw [hs1]; rfl
  have A3 : s1.g_interpreter_actCount = upd s.g_interpreter_actCount 2 0 := by rw [hs1]; rfl
  have A4 : s1.g_interpreter_actNext = upd (upd s.g_interpreter_actNext 1 (nI (i + 1))) 2 0 := by rw [hs1]; rfl
  have A5 : s1.g_interpreter_called = upd s.g_interpreter_called 2 (nI 1) := by rw [hs1]; rfl
  have A7 : s1.g_page_kept = kp := by rw [hs1]; rfl
  have A6 : s1.g_interpreter_copies = g' := by rw [hs1]; rfl
  have hkn' : kNext N s = some (s1, 0) := by rw [hs1]; exact hkn
  have hst1 : kStep N s = some s1 := step_z (lv := 2) hkn' (by rw [hs1]; rfl) (by omega) (by rw [hs1]; exact hKn) hFa.1 (by rw [hs1]; exact hIt.1) (by rw [hs1]; exact hIt.2)
  have hr1 : kRun N 1 s s1 := kRun.one hFa.1 (more_act p1 (by omega) hi hc p2 p3) hst1
  have had1 : fd_Ref_had (RS.o_this (mKe (mIn1 m L f) (fs_mDesk_thrown m.o_desk 0) kg (upd m.g_desk_isKept 1 1))) = nI (h + L) := by
    show fd_Ref_had m.o_this + nI L = _
    rw [had, nI_add]
  have hI1 : cI N d T s1 (mKe (mIn1 m L f) (fs_mDesk_thrown m.o_desk 0) kg (upd m.g_desk_isKept 1 1)) := by
    rw [hs1]
    refine ⟨⟨k, r, cp, p, hPg, hSh, hFo, hKn, hRa, ⟨ma1, ma2, ma3, ⟨h + L, hhL, rfl, had1⟩⟩, hFl, hFa, hIt⟩, hPs, hSd⟩
  have hcp : ∀ i, i < L → s1.g_interpreter_copies (1 * 16384 + i) &&& 255 = nI (u8 (m.g_macros_store (A + i))) := by
    intro i hi
    rw [hs1]
    show g' (1 * 16384 + i) &&& 255 = _
    rw [(hg i hi).1, u8_and]
  obtain ⟨n2, s2, m2, b1, b2, b3⟩ := bl_C (lv := 1) (L := L) (f := f) (b := fun i => u8 (m.g_macros_store (A + i))) (by omega) (by omega) hB bsC_1 (fun i hi => ⟨Nat.mod_lt _ (by omega), by rw [rc2 i hi (by omega), u8_and]⟩) L 0 T (h + L) N s1 (mKe (mIn1 m L f) (fs_mDesk_thrown m.o_desk 0) kg (upd m.g_desk_isKept 1 1)) (by omega) (by omega) (by omega) hhL had1 hI1 (by rw [hs1]; rfl) (by rw [A1, upd_eq]) (by rw [A2, upd_eq]) (by rw [A3, A4, upd_eq, upd_eq]; decide) hcp
  have hk1 : kfG s s1 := by rw [hs1]; exact kfG_refl s
  have hm1 : rfG m (mKe (mIn1 m L f) (fs_mDesk_thrown m.o_desk 0) kg (upd m.g_desk_isKept 1 1)) := rfG_refl m
  rcases b3 with ⟨h2, a1, a2, a3, a4, a5, a6, a7, a8, a9, a10⟩ | ⟨T', c1, c2, c3⟩
  · obtain ⟨k1, k2, k3, k4, k5, k6, k7⟩ := a6
    have hlev : fd_Interpreter_level s2.o_interpreter = nI 2 := k1.trans (by rw [hs1]; rfl)
    have hca : ¬ s2.g_interpreter_called 2 = 0 := by rw [(k2 2 (Nat.le_refl _)).2, A5, upd_eq]; decide
    have hen : s2.g_interpreter_ends 2 = nI (1 * 16384 + L) := (k2 2 (Nat.le_refl _)).1.trans (by rw [A2, upd_eq])
    have a5' := a5
    obtain ⟨⟨k', r', cp', p', hPg', hSh', hFo', hKn', hRa', hMa', hFl', hFa', hIt'⟩, hPs', hSd'⟩ := a5'
    obtain ⟨qd, qk, qr, qcp, qp, qok, qst, qdk, qd1, qd2⟩ := hPg'
    have hq20 := pok.2.2.2.2.2.2.2.2.2.2.2.2.1
    have hkp2 : kpC (53 * (2 - 1)) p s2.g_page_kept := kpC_of (fun j hj => (k6 j (by omega)).trans (by rw [A7])) hq20 kq2
    obtain ⟨st2, gv1, gv2⟩ := pg_give (N := N) (d := d) (k := k') (r := r') (cp := cp') (p := p') (g := s2.g_page_stack) (lv := 2) qk qr (by omega) (pOK_big pk pr pok) pok.2.2.2.2.2.2.2.2.1 pok.2.2.2.2.2.2.2.2.2.1 hq20 hkp2
    rw [← qp] at gv1
    have hkm2 : kpM 1 p m2.g_desk_kept := fun i hi => (a7.2.1 (53 * 1 + i) (by omega)).trans (mq2 i hi)
    have hik : ¬ m2.g_desk_isKept 1 = 0 := by
      rw [a7.2.2.1 1 (by omega)]
      show ¬ upd m.g_desk_isKept 1 1 1 = 0
      rw [upd_eq]; decide
    obtain ⟨g2, br1, br2⟩ := md_bring (N := N) (d := 1) (by omega) (by omega) qk qdk (pOK_big pk pr pok) hkm2 hik
    have hrun : mRun1 N m (nI j) 1 = some (mDs m2 (fs_mDesk_thrown m2.o_desk 0) g2) := run_1b hj (by omega) hlm hst rc1 mq1 b2 hFa'.2 br1
    have hlvm := lv_1 (N := N) (op := s2.o_page) (stc := s2.g_page_stack) (kp := s2.g_page_kept) hlev (by omega) (by omega) hca gv1
    obtain ⟨s3, hs3⟩ : ∃ x, x = kLe s2 (fs_Interpreter_level s2.o_interpreter (nI 1)) (pgC d k' r' cp' (brN k' r' p)) st2 := ⟨_, rfl⟩
    have hkn3 : kNext N s2 = some (s3, 0) := kn_lv hlev (by omega) (by omega) a9 a8 hen hlvm hs3
    have hst3 : kStep N s2 = some s3 := step_z (lv := 1) hkn3 (by rw [hs3]; rfl) (by omega) (by rw [hs3]; exact hKn') hFa'.1 (by rw [hs3]; exact hIt'.1) (by rw [hs3]; exact hIt'.2)
    have hr3 : kRun N 1 s2 s3 := kRun.one hFa'.1 (more_lv hlev (by omega) (by omega)) hst3
    refine ⟨1 + n2 + 1, s3, mDs m2 (fs_mDesk_thrown m2.o_desk 0) g2, kRun.trans (kRun.trans hr1 b1) hr3, hrun, Or.inl ⟨h2, by omega, a2, a3, by omega, ?_, ?_, ?_, ?_, ?_, ?_⟩⟩
    · have : T + 4 * (L + (h2 - (h + L))) = T + 4 * (h2 - h) := by omega
      rw [← this, hs3]
      exact ⟨⟨k', r', cp', brN k' r' p, ⟨qd, qk, qr, qcp, rfl, br_ok pok, gv2, br2, qd1, qd2⟩, hSh', hFo', hKn', hRa', hMa', hFl', hFa', hIt'⟩, hPs', hSd'⟩
    · rw [hs3]
      refine ⟨by rw [p1]; rfl, fun i hi => ⟨(k2 i (by omega)).1.trans ?_, (k2 i (by omega)).2.trans ?_⟩, fun i hi => ⟨(k3 i (by omega)).1.trans ?_, (k3 i (by omega)).2.1.trans ?_, (k3 i (by omega)).2.2.trans ?_⟩, fun j hj => ⟨(k4 j (by omega)).1.trans (by rw [hs1]; rfl), (k4 j (by omega)).2.trans (by rw [hs1]; rfl)⟩, fun j hj => (k5 j (by omega)).trans ?_, fun j hj => (k6 j (by omega)).trans (by rw [A7]; exact kq3 j (Or.inl (by omega))), kfG_trans hk1 k7⟩
      · rw [A2]; exact upd_ne (by omega)
      · rw [A5]; exact upd_ne (by omega)
      · rw [A1]; exact upd_ne (by omega)
      · rw [A3]; exact upd_ne (by omega)
      · rw [A4, upd_ne (by omega)]; exact upd_ne (by omega)
      · rw [A6]; exact hg0 j (by omega)
    · obtain ⟨x1, x2, x3, x4⟩ := a7
      exact ⟨fun j hj => x1 j (by omega), fun j hj => (x2 j (by omega)).trans (mq3 j (Or.inl (by omega))), fun j hj => (x3 j (by omega)).trans (upd_ne (i := 1) (j := j) (by omega)), rfG_trans hm1 x4⟩
    · rw [hs3]
      refine (k3 1 (by omega)).1.trans ?_
      rw [A1]; exact upd_ne (by omega)
    · intro q
      have hL0 : L = 0 := by omega
      show fd_mDesk_phase m2.o_desk = _
      rw [a10 hL0]; rfl
    · rw [hs3]
      refine ⟨rfl, (k3 1 (by omega)).2.2.trans ?_, ((k3 1 (by omega)).2.1.trans ?_).trans p3, fun kk h1 h2 => ?_⟩
      · rw [A4, upd_ne (by omega)]; exact upd_eq _ _ _
      · rw [A3]; exact upd_ne (by omega)
      · obtain ⟨w, j, q1, q2, q3, q4, q5, q6⟩ := p4 kk (by omega) h2
        refine ⟨w, j, q1, q2, ((k4 (8 * 1 + kk) (by omega)).1.trans ?_).trans q3, ((a7.1 (8 * 1 + kk) (by omega)).1).trans q4, ((k4 (8 * 1 + kk) (by omega)).2.trans ?_).trans q5, ((a7.1 (8 * 1 + kk) (by omega)).2).trans q6⟩
        · rw [hs1]; rfl
        · rw [hs1]; rfl
  · exact ⟨1 + n2, s2, m2, kRun.trans hr1 b1, run_1f hj (by omega) hlm hst rc1 mq1 b2 (by rw [c3.2.1]; decide), Or.inr ⟨T', by omega, by omega, bF_of hk1 hm1 c3⟩⟩

/-- a macro is entered at level 0, its bytes run, and it is left: called -/
theorem run_y0 {N d T h i c L j A w jj : Nat} {s : CS} {m : RS} {g' : Nat → Int32} (hN : 2 ^ 22 < N) (hB : byC N d 1 (mComes1 N)) (hT : T + 4 * (65536 - h) ≤ 134000000) (had : fd_Ref_had m.o_this = nI h) (hI : cI N d T s m) (hP : aP 0 i c s m) (hi : i < c) (hc : c ≤ 8) (hj : j < 32) (hlm : m.g_macros_lengths j = nI L) (hAL : A + L ≤ 16384) (hhL : h + L ≤ 65536) (hst : ex_mMacros_startOf N m.o_macros m.g_macros_lengths (nI j) = some (nI A)) (hb8 : by8 16384 m.g_macros_store) (hfe : ex_Macros_fetch N s.o_macros 32768 s.g_interpreter_copies s.g_macros_ids s.g_macros_lengths s.g_macros_bytes s.g_macros_places (nI jj) (nI (0 * 16384)) = some (fs_Macros_had s.o_macros (nI (h + L)), g', nI L)) (hg : ∀ i, i < L → g' (0 * 16384 + i) = m.g_macros_store (A + i) ∧ is8 (m.g_macros_store (A + i))) (hg0 : ∀ i, i < 0 * 16384 → g' i = s.g_interpreter_copies i) (hw : s.g_interpreter_acts (8 * 0 + i) = nI 3) (hid : s.g_interpreter_actIds (8 * 0 + i) = nI jj) : 
    ∃ n s1 m1, kRun N n s s1 ∧ mRun0 N m (nI j) 1 = some m1 ∧ rO N d T 0 h i c n s m s1 m1 := by
  obtain ⟨p1, p2, p3, p4⟩ := hP
  obtain ⟨⟨k, r, cp, p, hC⟩, hPs, hSd⟩ := hI
  have hC0 := hC
  obtain ⟨hPg, hSh, hFo, hKn, hRa, hMa, hFl, hFa, hIt⟩ := hC
  obtain ⟨ma1, ma2, ma3, ma4⟩ := hMa
  have e2 : (nI j).toNatClampNeg = j := nI_clamp (by omega)
  obtain ⟨f, rc1, rc2, _⟩ := rc_0 (L := L) (A := A) (lm := m.g_macros_lengths) (bm := m.g_macros_store) (v0 := nI j) (by rw [e2]; exact hlm) hAL hb8 N 0 m.g_bytes1 (by omega) (by omega)
  have hPg0 := hPg
  obtain ⟨pd, pk, pr, pcp, pp, pok, pst, pdk, pd1, pd2⟩ := hPg0
  obtain ⟨kp, kq1, kq2, kq3⟩ := pg_keep (N := N) (d := d) (k := k) (r := r) (cp := cp) (lv := 1) (kg := s.g_page_kept) (by omega) pok.2.2.2.2.2.2.2.2.1 pok.2.2.2.2.2.2.2.2.2.1 pok.2.2.2.2.2.2.2.2.2.2.2.2.1 pst
  rw [← pp] at kq1
  obtain ⟨kg, mq1, mq2, mq3⟩ := md_keep (N := N) (d := 0) (kg := m.g_desk_kept) (ik := m.g_desk_isKept) (by omega) (by omega) pdk
  have hem := em_y (N := N) (w := 1) (kp := s.g_page_kept) (kp' := kp) (op := s.o_page) (stc := s.g_page_stack) (at_ := s.g_interpreter_at) (en := s.g_interpreter_ends) (ac := s.g_interpreter_actCount) (an := upd s.g_interpreter_actNext 0 (nI (i + 1))) (ca := s.g_interpreter_called) (lv := 0) (L := L) (by omega) (by omega) p1 hfe (Or.inr ⟨rfl, kq1⟩)
  have hkn := kn_em3 (N := N) p1 (by omega) hi hc p2 p3 hw hid hem
  obtain ⟨s1, hs1⟩ : ∃ x, x = kEn s (fs_Interpreter_level s.o_interpreter (nI 1)) (upd (upd s.g_interpreter_actNext 0 (nI (i + 1))) 1 0) (upd s.g_interpreter_actCount 1 0) (upd s.g_interpreter_at 1 (nI (0 * 16384))) (upd s.g_interpreter_ends 1 (nI (0 * 16384 + L))) (upd s.g_interpreter_called 1 (nI 1)) (fs_Macros_had s.o_macros (nI (h + L))) g' kp := ⟨_, rfl⟩
  have A1 : s1.g_interpreter_at = upd s.g_interpreter_at 1 (nI (0 * 16384)) := by rw [hs1]; rfl
  have A2 : s1.g_interpreter_ends = upd s.g_interpreter_ends 1 (nI (0 * 16384 + L)) := by rw [hs1]; rfl
  have A3 : s1.g_interpreter_actCount = upd s.g_interpreter_actCount 1 0 := by rw [hs1]; rfl
  have A4 : s1.g_interpreter_actNext = upd (upd s.g_interpreter_actNext 0 (nI (i + 1))) 1 0 := by rw [hs1]; rfl
  have A5 : s1.g_interpreter_called = upd s.g_interpreter_called 1 (nI 1) := by rw [hs1]; rfl
  have A7 : s1.g_page_kept = kp := by rw [hs1]; rfl
  have A6 : s1.g_interpreter_copies = g' := by rw [hs1]; rfl
  have hkn' : kNext N s = some (s1, 0) := by rw [hs1]; exact hkn
  have hst1 : kStep N s = some s1 := step_z (lv := 1) hkn' (by rw [hs1]; rfl) (by omega) (by rw [hs1]; exact hKn) hFa.1 (by rw [hs1]; exact hIt.1) (by rw [hs1]; exact hIt.2)
  have hr1 : kRun N 1 s s1 := kRun.one hFa.1 (more_act p1 (by omega) hi hc p2 p3) hst1
  have had1 : fd_Ref_had (RS.o_this (mKe (mIn0 m L f) (fs_mDesk_thrown m.o_desk 0) kg (upd m.g_desk_isKept 0 1))) = nI (h + L) := by
    show fd_Ref_had m.o_this + nI L = _
    rw [had, nI_add]
  have hI1 : cI N d T s1 (mKe (mIn0 m L f) (fs_mDesk_thrown m.o_desk 0) kg (upd m.g_desk_isKept 0 1)) := by
    rw [hs1]
    refine ⟨⟨k, r, cp, p, hPg, hSh, hFo, hKn, hRa, ⟨ma1, ma2, ma3, ⟨h + L, hhL, rfl, had1⟩⟩, hFl, hFa, hIt⟩, hPs, hSd⟩
  have hcp : ∀ i, i < L → s1.g_interpreter_copies (0 * 16384 + i) &&& 255 = nI (u8 (m.g_macros_store (A + i))) := by
    intro i hi
    rw [hs1]
    show g' (0 * 16384 + i) &&& 255 = _
    rw [(hg i hi).1, u8_and]
  obtain ⟨n2, s2, m2, b1, b2, b3⟩ := bl_C (lv := 0) (L := L) (f := f) (b := fun i => u8 (m.g_macros_store (A + i))) (by omega) (by omega) hB bsC_0 (fun i hi => ⟨Nat.mod_lt _ (by omega), by rw [rc2 i hi (by omega), u8_and]⟩) L 0 T (h + L) N s1 (mKe (mIn0 m L f) (fs_mDesk_thrown m.o_desk 0) kg (upd m.g_desk_isKept 0 1)) (by omega) (by omega) (by omega) hhL had1 hI1 (by rw [hs1]; rfl) (by rw [A1, upd_eq]) (by rw [A2, upd_eq]) (by rw [A3, A4, upd_eq, upd_eq]; decide) hcp
  have hk1 : kfG s s1 := by rw [hs1]; exact kfG_refl s
  have hm1 : rfG m (mKe (mIn0 m L f) (fs_mDesk_thrown m.o_desk 0) kg (upd m.g_desk_isKept 0 1)) := rfG_refl m
  rcases b3 with ⟨h2, a1, a2, a3, a4, a5, a6, a7, a8, a9, a10⟩ | ⟨T', c1, c2, c3⟩
  · obtain ⟨k1, k2, k3, k4, k5, k6, k7⟩ := a6
    have hlev : fd_Interpreter_level s2.o_interpreter = nI 1 := k1.trans (by rw [hs1]; rfl)
    have hca : ¬ s2.g_interpreter_called 1 = 0 := by rw [(k2 1 (Nat.le_refl _)).2, A5, upd_eq]; decide
    have hen : s2.g_interpreter_ends 1 = nI (0 * 16384 + L) := (k2 1 (Nat.le_refl _)).1.trans (by rw [A2, upd_eq])
    have a5' := a5
    obtain ⟨⟨k', r', cp', p', hPg', hSh', hFo', hKn', hRa', hMa', hFl', hFa', hIt'⟩, hPs', hSd'⟩ := a5'
    obtain ⟨qd, qk, qr, qcp, qp, qok, qst, qdk, qd1, qd2⟩ := hPg'
    have hq20 := pok.2.2.2.2.2.2.2.2.2.2.2.2.1
    have hkp2 : kpC (53 * (1 - 1)) p s2.g_page_kept := kpC_of (fun j hj => (k6 j (by omega)).trans (by rw [A7])) hq20 kq2
    obtain ⟨st2, gv1, gv2⟩ := pg_give (N := N) (d := d) (k := k') (r := r') (cp := cp') (p := p') (g := s2.g_page_stack) (lv := 1) qk qr (by omega) (pOK_big pk pr pok) pok.2.2.2.2.2.2.2.2.1 pok.2.2.2.2.2.2.2.2.2.1 hq20 hkp2
    rw [← qp] at gv1
    have hkm2 : kpM 0 p m2.g_desk_kept := fun i hi => (a7.2.1 (53 * 0 + i) (by omega)).trans (mq2 i hi)
    have hik : ¬ m2.g_desk_isKept 0 = 0 := by
      rw [a7.2.2.1 0 (by omega)]
      show ¬ upd m.g_desk_isKept 0 1 0 = 0
      rw [upd_eq]; decide
    obtain ⟨g2, br1, br2⟩ := md_bring (N := N) (d := 0) (by omega) (by omega) qk qdk (pOK_big pk pr pok) hkm2 hik
    have hrun : mRun0 N m (nI j) 1 = some (mDs m2 (fs_mDesk_thrown m2.o_desk 0) g2) := run_0b hj (by omega) hlm hst rc1 mq1 b2 hFa'.2 br1
    have hlvm := lv_1 (N := N) (op := s2.o_page) (stc := s2.g_page_stack) (kp := s2.g_page_kept) hlev (by omega) (by omega) hca gv1
    obtain ⟨s3, hs3⟩ : ∃ x, x = kLe s2 (fs_Interpreter_level s2.o_interpreter (nI 0)) (pgC d k' r' cp' (brN k' r' p)) st2 := ⟨_, rfl⟩
    have hkn3 : kNext N s2 = some (s3, 0) := kn_lv hlev (by omega) (by omega) a9 a8 hen hlvm hs3
    have hst3 : kStep N s2 = some s3 := step_z (lv := 0) hkn3 (by rw [hs3]; rfl) (by omega) (by rw [hs3]; exact hKn') hFa'.1 (by rw [hs3]; exact hIt'.1) (by rw [hs3]; exact hIt'.2)
    have hr3 : kRun N 1 s2 s3 := kRun.one hFa'.1 (more_lv hlev (by omega) (by omega)) hst3
    refine ⟨1 + n2 + 1, s3, mDs m2 (fs_mDesk_thrown m2.o_desk 0) g2, kRun.trans (kRun.trans hr1 b1) hr3, hrun, Or.inl ⟨h2, by omega, a2, a3, by omega, ?_, ?_, ?_, ?_, ?_, ?_⟩⟩
    · have : T + 4 * (L + (h2 - (h + L))) = T + 4 * (h2 - h) := by omega
      rw [← this, hs3]
      exact ⟨⟨k', r', cp', brN k' r' p, ⟨qd, qk, qr, qcp, rfl, br_ok pok, gv2, br2, qd1, qd2⟩, hSh', hFo', hKn', hRa', hMa', hFl', hFa', hIt'⟩, hPs', hSd'⟩
    · rw [hs3]
      refine ⟨by rw [p1]; rfl, fun i hi => ⟨(k2 i (by omega)).1.trans ?_, (k2 i (by omega)).2.trans ?_⟩, fun i hi => ⟨(k3 i (by omega)).1.trans ?_, (k3 i (by omega)).2.1.trans ?_, (k3 i (by omega)).2.2.trans ?_⟩, fun j hj => ⟨(k4 j (by omega)).1.trans (by rw [hs1]; rfl), (k4 j (by omega)).2.trans (by rw [hs1]; rfl)⟩, fun j hj => (k5 j (by omega)).trans ?_, fun j hj => (k6 j (by omega)).trans (by rw [A7]; exact kq3 j (Or.inl (by omega))), kfG_trans hk1 k7⟩
      · rw [A2]; exact upd_ne (by omega)
      · rw [A5]; exact upd_ne (by omega)
      · rw [A1]; exact upd_ne (by omega)
      · rw [A3]; exact upd_ne (by omega)
      · rw [A4, upd_ne (by omega)]; exact upd_ne (by omega)
      · rw [A6]; exact hg0 j (by omega)
    · obtain ⟨x1, x2, x3, x4⟩ := a7
      exact ⟨fun j hj => x1 j (by omega), fun j hj => (x2 j (by omega)).trans (mq3 j (Or.inl (by omega))), fun j hj => (x3 j (by omega)).trans (upd_ne (i := 0) (j := j) (by omega)), rfG_trans hm1 x4⟩
    · rw [hs3]
      refine (k3 0 (by omega)).1.trans ?_
      rw [A1]; exact upd_ne (by omega)
    · intro q
      have hL0 : L = 0 := by omega
      show fd_mDesk_phase m2.o_desk = _
      rw [a10 hL0]; rfl
    · rw [hs3]
      refine ⟨rfl, (k3 0 (by omega)).2.2.trans ?_, ((k3 0 (by omega)).2.1.trans ?_).trans p3, fun kk h1 h2 => ?_⟩
      · rw [A4, upd_ne (by omega)]; exact upd_eq _ _ _
      · rw [A3]; exact upd_ne (by omega)
      · obtain ⟨w, j, q1, q2, q3, q4, q5, q6⟩ := p4 kk (by omega) h2
        refine ⟨w, j, q1, q2, ((k4 (8 * 0 + kk) (by omega)).1.trans ?_).trans q3, ((a7.1 (8 * 0 + kk) (by omega)).1).trans q4, ((k4 (8 * 0 + kk) (by omega)).2.trans ?_).trans q5, ((a7.1 (8 * 0 + kk) (by omega)).2).trans q6⟩
        · rw [hs1]; rfl
        · rw [hs1]; rfl
  · exact ⟨1 + n2, s2, m2, kRun.trans hr1 b1, run_0f hj (by omega) hlm hst rc1 mq1 b2 (by rw [c3.2.1]; decide), Or.inr ⟨T', by omega, by omega, bF_of hk1 hm1 c3⟩⟩
theorem rO_a1 {N d T lv h i c : Nat} {mac : RS → Int32 → Int32 → Option RS} {s : CS} {m : RS} (hh : h ≤ 65536) (had : fd_Ref_had m.o_this = nI h) (h1 : a1 N mac d T lv i c s m) : ∃ n s1 m1, kRun N n s s1 ∧ mac m (m.g_toDo (8 * lv + i)) (m.g_toDoId (8 * lv + i)) = some m1 ∧ rO N d T lv h i c n s m s1 m1 := by
  obtain ⟨s1, m1, e1, e2, e3, e4, e5, e6, e7, e8, e9⟩ := h1
  refine ⟨1, s1, m1, e1, e2, Or.inl ⟨h, Nat.le_refl _, hh, e7.trans had, by omega, ?_, e4, e5, e6, fun _ => e8, e9⟩⟩
  rw [Nat.sub_self]; exact e3
/-- the acts one by one -/
theorem al_G {N d lv c : Nat} {mac : RS → Int32 → Int32 → Option RS} {acts : Nat → Nat → RS → Option RS} (hlv : lv ≤ 2) (hc : c ≤ 8) (X0 : ∀ n k m, c ≤ k → acts (n + 1) k m = some m) (X1 : ∀ n k m, ¬ c ≤ k → fd_Ref_fault m.o_this = 0 → acts (n + 1) k m = (mac m (m.g_toDo (8 * lv + k)) (m.g_toDoId (8 * lv + k))).bind (fun m1 => acts n (k + 1) m1)) (X2 : ∀ n k m, ¬ fd_Ref_fault m.o_this = 0 → acts (n + 1) k m = some m)
    (hA : ∀ (T h i : Nat) (s : CS) (m : RS), T + 4 * (65536 - h) ≤ 134000000 → h ≤ 65536 → fd_Ref_had m.o_this = nI h → cI N d T s m → aP lv i c s m → i < c → ∃ n s1 m1, kRun N n s s1 ∧ mac m (m.g_toDo (8 * lv + i)) (m.g_toDoId (8 * lv + i)) = some m1 ∧ rO N d T lv h i c n s m s1 m1) : ∀ (r i T h fu : Nat) (s : CS) (m : RS), i + r = c → r < fu → T + 4 * (65536 - h) ≤ 134000000 → h ≤ 65536 → fd_Ref_had m.o_this = nI h → cI N d T s m → aP lv i c s m → ∃ n s' m', kRun N n s s' ∧ acts fu i m = some m' ∧ ((∃ h', h ≤ h' ∧ h' ≤ 65536 ∧ fd_Ref_had m'.o_this = nI h' ∧ n ≤ 2 * r + (80 - 20 * (lv + 1)) * (h' - h) ∧ cI N d (T + 4 * (h' - h)) s' m' ∧ kLv lv s s' ∧ mLv lv m m' ∧ s'.g_interpreter_at lv = s.g_interpreter_at lv ∧ s'.g_interpreter_actCount lv ≤ s'.g_interpreter_actNext lv ∧ (h' = h → fd_mDesk_phase m'.o_desk = fd_mDesk_phase m.o_desk)) ∨ (∃ T', T' ≤ T + 4 * (65536 - h) ∧ n ≤ 2 * r + (80 - 20 * (lv + 1)) * (65536 - h) ∧ bF N d T' s m s' m')) := by
  intro r
  induction r with
  | zero =>
    intro i T h fu s m hir hfu hT hh had hI hP
    obtain ⟨z, rfl⟩ : ∃ z, fu = z + 1 := ⟨fu - 1, by omega⟩
    refine ⟨0, s, m, kRun.refl N s, X0 _ _ _ (by omega), Or.inl ⟨h, Nat.le_refl _, hh, had, by omega, ?_, kLv_refl _ _, mLv_refl _ _, rfl, ?_, fun _ => rfl⟩⟩
    · rw [Nat.sub_self]; exact hI
    · rw [hP.2.1, hP.2.2.1]; exact nI_le (by omega) (by omega)
  | succ r ih =>
    intro i T h fu s m hir hfu hT hh had hI hP
    obtain ⟨z, rfl⟩ : ∃ z, fu = z + 2 := ⟨fu - 2, by omega⟩
    have hfa : fd_Ref_fault m.o_this = 0 := by
      obtain ⟨⟨k, r, cp, p, hC⟩, _⟩ := hI
      exact hC.2.2.2.2.2.2.2.1.2
    obtain ⟨n1, s1, m1, e1, e2, e3⟩ := hA T h i s m hT hh had hI hP (by omega)
    rw [X1 _ _ _ (by omega) hfa, e2, Option.bind_some]
    rcases e3 with ⟨h2, a1, a2, a3, a4, a5, a6, a7, a8, a9, a10⟩ | ⟨T', b1, b2, b3⟩
    · obtain ⟨n2, s', m', f1, f2, f3⟩ := ih (i + 1) (T + 4 * (h2 - h)) h2 (z + 1) s1 m1 (by omega) (by omega) (by omega) a2 a3 a5 a10
      refine ⟨n1 + n2, s', m', kRun.trans e1 f1, f2, ?_⟩
      rcases f3 with ⟨h3, c1, c2, c3, c4, c5, c6, c7, c8, c9, c10⟩ | ⟨T', b1, b2, b3⟩
      · refine Or.inl ⟨h3, by omega, c2, c3, ?_, ?_, kLv_trans a6 c6, mLv_trans a7 c7, c8.trans a8, c9, fun q => (c10 (by omega)).trans (a9 (by omega))⟩
        · have : lv = 0 ∨ lv = 1 ∨ lv = 2 := by omega
          rcases this with e | e | e <;> subst e <;> omega
        · have : T + 4 * (h2 - h) + 4 * (h3 - h2) = T + 4 * (h3 - h) := by omega
          rw [← this]; exact c5
      · refine Or.inr ⟨T', by omega, ?_, bF_of a6.2.2.2.2.2.2 a7.2.2.2 b3⟩
        have : lv = 0 ∨ lv = 1 ∨ lv = 2 := by omega
        rcases this with e | e | e <;> subst e <;> omega
    · exact ⟨n1, s1, m1, e1, X2 _ _ _ (by rw [b3.2.1]; decide), Or.inr ⟨T', by omega, by omega, b3⟩⟩
theorem a2_1r {N d T h i c w j : Nat} {s : CS} {m : RS} (hN : 2 ^ 22 < N) (hB : byC N d 2 (mComes2 N)) (hT : T + 4 * (65536 - h) ≤ 134000000) (hh : h ≤ 65536) (had : fd_Ref_had m.o_this = nI h) (hI : cI N d T s m) (hP : aP 1 i c s m) (hi : i < c) (hc : c ≤ 8) (hw : w = 2 ∨ w = 3) (q3 : s.g_interpreter_acts (8 * 1 + i) = nI w) (q4 : m.g_toDo (8 * 1 + i) = nI w) (q5 : s.g_interpreter_actIds (8 * 1 + i) = nI j) (q6 : m.g_toDoId (8 * 1 + i) = nI j) : ∃ n s1 m1, kRun N n s s1 ∧ mMacro1 N m (m.g_toDo (8 * 1 + i)) (m.g_toDoId (8 * 1 + i)) = some m1 ∧ rO N d T 1 h i c n s m s1 m1 := by
  have hP0 := hP
  obtain ⟨p1, p2, p3, p4⟩ := hP
  have hI0 := hI
  obtain ⟨⟨k, r, cp, p, hPg, hSh, hFo, hKn, hRa, ⟨ma1, ma2, ma3, ⟨h', hh1, hh2, hh3⟩⟩, hFl, hFa, hIt⟩, hPs, hSd⟩ := hI
  have hhe : h' = h := (nI_eq (by omega) (by omega)).mp (hh3.symm.trans had)
  rw [hhe] at hh2
  rcases fe_both (N := N) (lv := 1) (g := s.g_interpreter_copies) (nI j) (by omega) ma1 (by omega) hh hh2 with ⟨f1, f2⟩ | ⟨j', L, f1, f2, f3, f4, f5, f6⟩ | ⟨j', L, A, g', f1, f2, f3, f4, f5, f6, f7, f8, f9, f10⟩
  · rcases hw with e | e <;> subst e
    · exact rO_a1 hh had (a1_nil hI0 (by omega) hi hc hP0 (kn_em2 (N := N) p1 (by omega) hi hc p2 p3 q3 q5 (em_n (by omega) p1 f2)) (by rw [q4, q6]; exact mac_f1_2 f1 (Or.inl (by decide))))
    · exact rO_a1 hh had (a1_nil hI0 (by omega) hi hc hP0 (kn_em3 (N := N) p1 (by omega) hi hc p2 p3 q3 q5 (em_n (by omega) p1 f2)) (by rw [q4, q6]; exact mac_f1_3 f1 (Or.inl (by decide))))
  · have hbig : (65536 : Int32) < fd_Ref_had m.o_this + m.g_macros_lengths j' := by
      rw [had, f3, nI_add]; exact nI_lt (a := 65536) f5 (by omega)
    rcases hw with e | e <;> subst e
    · exact rO_a1 hh had (a1_nil hI0 (by omega) hi hc hP0 (kn_em2 (N := N) p1 (by omega) hi hc p2 p3 q3 q5 (em_n (by omega) p1 f6)) (by rw [q4, q6]; exact mac_f1_2 f2 (Or.inr ⟨j', f1, rfl, hbig⟩)))
    · exact rO_a1 hh had (a1_nil hI0 (by omega) hi hc hP0 (kn_em3 (N := N) p1 (by omega) hi hc p2 p3 q3 q5 (em_n (by omega) p1 f6)) (by rw [q4, q6]; exact mac_f1_3 f2 (Or.inr ⟨j', f1, rfl, hbig⟩)))
  · have hsm : ¬ (65536 : Int32) < fd_Ref_had m.o_this + m.g_macros_lengths j' := by
      rw [had, f3, nI_add]; exact nI_nlt (a := 65536) (by omega) (by omega)
    rcases hw with e | e <;> subst e
    · obtain ⟨n, s1, m1, g1, g2, g3⟩ := run_x1 (w := 0) hN hB hT had hI0 hP0 hi hc f1 f3 f4 f5 f6 f7 f8 f9 f10 q3 q5
      exact ⟨n, s1, m1, g1, by rw [q4, q6]; exact mac_r1_2 f1 f2 hsm g2, g3⟩
    · obtain ⟨n, s1, m1, g1, g2, g3⟩ := run_y1 (w := 0) hN hB hT had hI0 hP0 hi hc f1 f3 f4 f5 f6 f7 f8 f9 f10 q3 q5
      exact ⟨n, s1, m1, g1, by rw [q4, q6]; exact mac_r1_3 f1 f2 hsm g2, g3⟩
theorem a2_0r {N d T h i c w j : Nat} {s : CS} {m : RS} (hN : 2 ^ 22 < N) (hB : byC N d 1 (mComes1 N)) (hT : T + 4 * (65536 - h) ≤ 134000000) (hh : h ≤ 65536) (had : fd_Ref_had m.o_this = nI h) (hI : cI N d T s m) (hP : aP 0 i c s m) (hi : i < c) (hc : c ≤ 8) (hw : w = 2 ∨ w = 3) (q3 : s.g_interpreter_acts (8 * 0 + i) = nI w) (q4 : m.g_toDo (8 * 0 + i) = nI w) (q5 : s.g_interpreter_actIds (8 * 0 + i) = nI j) (q6 : m.g_toDoId (8 * 0 + i) = nI j) : ∃ n s1 m1, kRun N n s s1 ∧ mMacro0 N m (m.g_toDo (8 * 0 + i)) (m.g_toDoId (8 * 0 + i)) = some m1 ∧ rO N d T 0 h i c n s m s1 m1 := by
  have hP0 := hP
  obtain ⟨p1, p2, p3, p4⟩ := hP
  have hI0 := hI
  obtain ⟨⟨k, r, cp, p, hPg, hSh, hFo, hKn, hRa, ⟨ma1, ma2, ma3, ⟨h', hh1, hh2, hh3⟩⟩, hFl, hFa, hIt⟩, hPs, hSd⟩ := hI
  have hhe : h' = h := (nI_eq (by omega) (by omega)).mp (hh3.symm.trans had)
  rw [hhe] at hh2
  rcases fe_both (N := N) (lv := 0) (g := s.g_interpreter_copies) (nI j) (by omega) ma1 (by omega) hh hh2 with ⟨f1, f2⟩ | ⟨j', L, f1, f2, f3, f4, f5, f6⟩ | ⟨j', L, A, g', f1, f2, f3, f4, f5, f6, f7, f8, f9, f10⟩
  · rcases hw with e | e <;> subst e
    · exact rO_a1 hh had (a1_nil hI0 (by omega) hi hc hP0 (kn_em2 (N := N) p1 (by omega) hi hc p2 p3 q3 q5 (em_n (by omega) p1 f2)) (by rw [q4, q6]; exact mac_f0_2 f1 (Or.inl (by decide))))
    · exact rO_a1 hh had (a1_nil hI0 (by omega) hi hc hP0 (kn_em3 (N := N) p1 (by omega) hi hc p2 p3 q3 q5 (em_n (by omega) p1 f2)) (by rw [q4, q6]; exact mac_f0_3 f1 (Or.inl (by decide))))
  · have hbig : (65536 : Int32) < fd_Ref_had m.o_this + m.g_macros_lengths j' := by
      rw [had, f3, nI_add]; exact nI_lt (a := 65536) f5 (by omega)
    rcases hw with e | e <;> subst e
    · exact rO_a1 hh had (a1_nil hI0 (by omega) hi hc hP0 (kn_em2 (N := N) p1 (by omega) hi hc p2 p3 q3 q5 (em_n (by omega) p1 f6)) (by rw [q4, q6]; exact mac_f0_2 f2 (Or.inr ⟨j', f1, rfl, hbig⟩)))
    · exact rO_a1 hh had (a1_nil hI0 (by omega) hi hc hP0 (kn_em3 (N := N) p1 (by omega) hi hc p2 p3 q3 q5 (em_n (by omega) p1 f6)) (by rw [q4, q6]; exact mac_f0_3 f2 (Or.inr ⟨j', f1, rfl, hbig⟩)))
  · have hsm : ¬ (65536 : Int32) < fd_Ref_had m.o_this + m.g_macros_lengths j' := by
      rw [had, f3, nI_add]; exact nI_nlt (a := 65536) (by omega) (by omega)
    rcases hw with e | e <;> subst e
    · obtain ⟨n, s1, m1, g1, g2, g3⟩ := run_x0 (w := 0) hN hB hT had hI0 hP0 hi hc f1 f3 f4 f5 f6 f7 f8 f9 f10 q3 q5
      exact ⟨n, s1, m1, g1, by rw [q4, q6]; exact mac_r0_2 f1 f2 hsm g2, g3⟩
    · obtain ⟨n, s1, m1, g1, g2, g3⟩ := run_y0 (w := 0) hN hB hT had hI0 hP0 hi hc f1 f3 f4 f5 f6 f7 f8 f9 f10 q3 q5
      exact ⟨n, s1, m1, g1, by rw [q4, q6]; exact mac_r0_3 f1 f2 hsm g2, g3⟩
/-- one act at level 1 -/
theorem a2_1 {N d T h i c : Nat} {s : CS} {m : RS} (hN : 2 ^ 22 < N) (hB : byC N d 2 (mComes2 N)) (hT : T + 4 * (65536 - h) ≤ 134000000) (hh : h ≤ 65536) (had : fd_Ref_had m.o_this = nI h) (hI : cI N d T s m) (hP : aP 1 i c s m) (hi : i < c) (hc : c ≤ 8) : ∃ n s1 m1, kRun N n s s1 ∧ mMacro1 N m (m.g_toDo (8 * 1 + i)) (m.g_toDoId (8 * 1 + i)) = some m1 ∧ rO N d T 1 h i c n s m s1 m1 := by
  have hP0 := hP
  obtain ⟨p1, p2, p3, p4⟩ := hP
  obtain ⟨w, j, q1, q2, q3, q4, q5, q6⟩ := p4 i (Nat.le_refl _) hi
  obtain ⟨u, hu⟩ := cI_find (by omega) hI (nI j)
  by_cases w0 : w = 0
  · subst w0
    exact rO_a1 hh had (a1_nil hI (by omega) hi hc hP0 (kn_nil p1 (by omega) hi hc p2 p3 q3 q5 (by omega)) (by rw [q4, q6]; exact mac_z1 hu))
  by_cases w2 : w = 2
  · exact a2_1r hN hB hT hh had hI hP0 hi hc (Or.inl w2) q3 q4 q5 q6
  by_cases w3 : w = 3
  · exact a2_1r hN hB hT hh had hI hP0 hi hc (Or.inr w3) q3 q4 q5 q6
  exact rO_a1 hh had (a1_mng (by omega) hI (by omega) hi hc hP0 q3 q1 w0 w2 w3 (fun v om im tm lm bm hm => mac_1 q1 w0 w2 w3 hm))
theorem al_C1 {N d : Nat} (hN : 2 ^ 22 < N) (hB : byC N d 2 (mComes2 N)) : alC N d 1 (mActs1 N) := by
  intro c T h s m hc hT hh had hI hP
  obtain ⟨n, s', m', e1, e2, e3⟩ := al_G (lv := 1) (c := c) (acts := mActs1 N c) (mac := mMacro1 N) (by omega) hc (fun n k m h => by rw [mActs1, if_pos h]) (fun n k m h1 h2 => by rw [mActs1, if_neg h1, if_pos h2]) (fun n k m h => by rw [mActs1, if_neg h]; split <;> rfl) (fun T h i s m x1 x2 x3 x4 x5 x6 => a2_1 hN hB x1 x2 x3 x4 x5 x6 hc) c 0 T h N s m (by omega) (by omega) hT hh had hI hP
  refine ⟨n, s', m', e1, e2, ?_⟩
  rcases e3 with ⟨h2, a1, a2, a3, a4, a5, a6, a7, a8, a9, a10⟩ | ⟨T', b1, b2, b3⟩
  · exact Or.inl ⟨h2, a1, a2, a3, by omega, a5, a6, a7, a8, a9, a10⟩
  · exact Or.inr ⟨T', b1, by omega, b3⟩
theorem wk_1 {N d : Nat} (hN : 2 ^ 22 < N) : wkC N d 1 (mWork1 N) := wk_C (al_C1 hN (by_2 hN)) (fun c m hc hx => work_1 (by omega) hc hx)
theorem by_1 {N d : Nat} (hN : 2 ^ 22 < N) : byC N d 1 (mComes1 N) := by_C hN (by omega) (by omega) (wk_1 hN) stC_1 (fun b s s1 s2 s' e h1 h2 h3 h4 h5 => com_1 h1 h2 h3 h4 h5) (fun b s s1 h1 h2 h3 => com_1_f h1 h2 h3)
def mMcb (s : RS) (om : ob_mMacros) (im tm lm bm buf : Nat → Int32) : RS := ((s.1, s.2.1, s.2.2.1, s.2.2.2.1, s.2.2.2.2.1, s.2.2.2.2.2.1, (om, im, tm, lm, bm, buf), s.2.2.2.2.2.2.2.1, s.2.2.2.2.2.2.2.2.1, s.2.2.2.2.2.2.2.2.2) : RS)
theorem com_0_r {N : Nat} {b : Int32} {s : RS} {om : ob_mMacros} {im tm lm bm buf : Nat → Int32} (h0 : fd_Ref_fault s.o_this = 0) (hr : ¬ fd_mMacros_reading s.o_macros = 0) (hc : ex_mMacros_comes N s.o_macros s.g_macros_buffer s.g_macros_ids s.g_macros_permanent s.g_macros_lengths s.g_macros_store b = some (om, buf, im, tm, lm, bm)) : mComes0 N s b = some (mMcb s om im tm lm bm buf) := by
  have q0 : fd_Ref_fault s.o_this ≤ 0 := by rw [h0]; decide
  unfold mComes0
  refine Option.map_eq_some_iff.mpr ⟨_, (if_pos q0).trans ((if_neg hr).trans (bind_eq hc)), rfl⟩
theorem com_0_c {N : Nat} {b : Int32} {s s1 : RS} {om : ob_mMacros} {im tm lm bm buf : Nat → Int32} (h0 : fd_Ref_fault s.o_this = 0) (hr : fd_mMacros_reading s.o_macros = 0) (hs : mStop0 N N s b = some s1) (h1 : fd_Ref_fault s1.o_this = 0) (hr1 : ¬ fd_mMacros_reading s1.o_macros = 0) (hc : ex_mMacros_comes N s1.o_macros s1.g_macros_buffer s1.g_macros_ids s1.g_macros_permanent s1.g_macros_lengths s1.g_macros_store b = some (om, buf, im, tm, lm, bm)) : mComes0 N s b = some (mMcb s1 om im tm lm bm buf) := by
  have q0 : fd_Ref_fault s.o_this ≤ 0 := by rw [h0]; decide
  have q1 : fd_Ref_fault s1.o_this ≤ 0 := by rw [h1]; decide
  obtain ⟨r0, t1, t2⟩ := stop_0 _ _ _ hs
  subst t2
  unfold mComes0
  refine Option.map_eq_some_iff.mpr ⟨_, (if_pos q0).trans ((if_pos hr).trans ((bind_eq t1).trans ((if_pos q1).trans ((if_neg hr1).trans (bind_eq hc))))), rfl⟩
/-- a byte at level 0 -/
def lB0 (a z b : Nat) (s : CS) : Prop := fd_Interpreter_level s.o_interpreter = nI 0 ∧ s.g_interpreter_actCount 0 ≤ s.g_interpreter_actNext 0 ∧ s.g_interpreter_at 0 = nI a ∧ s.g_interpreter_ends 0 = nI z ∧ a < z ∧ z ≤ 65536 ∧ s.g_tape a &&& 255 = nI b
theorem lB0_lvB {a z b : Nat} {s : CS} (h : lB0 a z b s) (hr : fd_Macros_reading s.o_macros = 0) : lvB 0 a z b s := by
  obtain ⟨l1, l2, l3, l4, l5, l6, l7⟩ := h
  exact ⟨l1, by omega, l2, l3, l4, l5, l6, fun _ => ⟨l7, hr⟩, fun q => absurd rfl q⟩
theorem lB0_of {a z b : Nat} {s s1 : CS} (h : lB0 a z b s) (hk : kLv 0 s s1) (hat : s1.g_interpreter_at 0 = s.g_interpreter_at 0) (hac : s1.g_interpreter_actCount 0 ≤ s1.g_interpreter_actNext 0) : lB0 a z b s1 := by
  obtain ⟨l1, l2, l3, l4, l5, l6, l7⟩ := h
  obtain ⟨k1, k2, k3, k4, k5, k6, k7⟩ := hk
  exact ⟨k1.trans l1, hac, hat.trans l3, (k2 0 (Nat.le_refl _)).1.trans l4, l5, l6, by rw [k7.2.1]; exact l7⟩
theorem cI_mono {N d T T' : Nat} {s : CS} {m : RS} (hT : T ≤ T') (h : cI N d T s m) : cI N d T' s m := by
  obtain ⟨⟨k, r, cp, p, hC⟩, h2⟩ := h
  exact ⟨⟨k, r, cp, p, cCo_mono hT hC⟩, h2⟩
/-- a byte that is collected -/
theorem co_0 {N d T a z b : Nat} {s : CS} {m : RS} (hN : 20000 < N) (hT : T ≤ 134000000) (hb : b < 256) (hI : cI N d T s m) (hL : lB0 a z b s) (hr : ¬ fd_mMacros_reading m.o_macros = 0) : ∃ s1 om im tm lm bm buf, kRun N 1 s s1 ∧ ex_mMacros_comes N m.o_macros m.g_macros_buffer m.g_macros_ids m.g_macros_permanent m.g_macros_lengths m.g_macros_store (nI b) = some (om, buf, im, tm, lm, bm) ∧ cI N d (T + 4) s1 (mMcb m om im tm lm bm buf) ∧ kLv 0 s s1 ∧ s1.g_interpreter_at 0 = nI (a + 1) ∧ s1.g_interpreter_actCount 0 ≤ s1.g_interpreter_actNext 0 := by
  have hrd := cI_rd hI
  have hI4 := cI_mono (T' := T + 4) (by omega) hI
  obtain ⟨⟨k, r, cp, p, hPg, hSh, hFo, hKn, hRa, hMa, hFl, hFa, hIt⟩, hPs, ⟨c, c1, c2, c3⟩⟩ := hI4
  obtain ⟨⟨_, _, _, _, _, _, _, _, _, hMa0, _⟩, _⟩ := hI
  obtain ⟨ma1, ma2, ⟨i, i0, i1, i2⟩, ⟨h, h0, h1, h2⟩⟩ := hMa0
  have hr1 : fd_Macros_reading s.o_macros = 1 := by
    obtain ⟨n, u, ln, _, _, _, _, _, _, _, _, q⟩ := ma1
    rcases q with q | q
    · exact absurd (hrd.symm.trans q) hr
    · exact q.1
  obtain ⟨l1, l2, l3, l4, l5, l6, l7⟩ := hL
  obtain ⟨o', om', ic', pc', lc', tc', bc', col', im', tm', lm', bm', buf', e1, e2, e3, e4⟩ := mc_collect (N := N) hN (by omega) hb ma1 hr1
  rw [← ma2] at e1
  have kn := kn_coll (N := N) (u := (o', col', ic', pc', lc', tc', bc')) l1 l2 l3 l4 l5 l6 l7 (by rw [hr1]; decide) e1
  obtain ⟨s1, hs1⟩ : ∃ x, x = kCol s (upd s.g_interpreter_at 0 (nI (a + 1))) (o', col', ic', pc', lc', tc', bc') := ⟨_, rfl⟩
  rw [← hs1] at kn
  have hst : kStep N s = some s1 := step_z (lv := 0) kn (by rw [hs1]; exact l1) (by omega) (by rw [hs1]; exact hKn) hFa.1 (by rw [hs1]; exact hIt.1) (by rw [hs1]; exact hIt.2)
  have hmore : kMore N s = some 1 := by
    unfold kMore ex_Interpreter_hasMore
    rw [l1, Option.map_id', if_neg (show ¬ (0 : Int32) < nI 0 by decide), l3, l4, if_pos (nI_lt l5 (by omega))]
  have hat : s1.g_interpreter_at = upd s.g_interpreter_at 0 (nI (a + 1)) := by rw [hs1]; rfl
  obtain ⟨f1, f2, f3⟩ := e4
  refine ⟨s1, om', im', tm', lm', bm', buf', kRun.one hFa.1 hmore hst, e2, ?_, ?_, by rw [hat, upd_eq], ?_⟩
  · rw [hs1]
    exact ⟨⟨k, r, cp, p, hPg, hSh, hFo, hKn, hRa, ⟨mcS_mono (by omega) e3, ma2, ⟨i, i0, f2.trans i1, i2⟩, ⟨h, h0, f1.trans h1, h2⟩⟩, hFl, hFa, hIt⟩, hPs, ⟨c, c1, f3.trans c2, c3⟩⟩
  · rw [hs1]
    exact ⟨rfl, fun _ _ => ⟨rfl, rfl⟩, fun i hi => absurd hi (by omega), fun j hj => absurd hj (by omega), fun j hj => absurd hj (by omega), fun j hj => absurd hj (by omega), kfG_refl s⟩
  · rw [hs1]; exact l2
/-- one act at level 0 -/
theorem a2_0 {N d T h i c : Nat} {s : CS} {m : RS} (hN : 2 ^ 22 < N) (hB : byC N d 1 (mComes1 N)) (hT : T + 4 * (65536 - h) ≤ 134000000) (hh : h ≤ 65536) (had : fd_Ref_had m.o_this = nI h) (hI : cI N d T s m) (hP : aP 0 i c s m) (hi : i < c) (hc : c ≤ 8) : ∃ n s1 m1, kRun N n s s1 ∧ mMacro0 N m (m.g_toDo (8 * 0 + i)) (m.g_toDoId (8 * 0 + i)) = some m1 ∧ rO N d T 0 h i c n s m s1 m1 := by
  have hP0 := hP
  obtain ⟨p1, p2, p3, p4⟩ := hP
  obtain ⟨w, j, q1, q2, q3, q4, q5, q6⟩ := p4 i (Nat.le_refl _) hi
  obtain ⟨u, hu⟩ := cI_find (by omega) hI (nI j)
  by_cases w0 : w = 0
  · subst w0
    have hMa := hI.1
    obtain ⟨k, r, cp, p, hPg, hSh, hFo, hKn, hRa, ⟨m1, m2⟩, hFl, hFa, hIt⟩ := hMa
    obtain ⟨o', om', ic', pc', lc', tc', bc', im', tm', lm', bm', e1, e2, e3, e4, _⟩ := mc_begin (N := N) (nI j) (by omega) m1
    refine ⟨1, kAc s (upd s.g_interpreter_actNext 0 (nI (i + 1))) o' ic' pc' lc' tc' bc', mMcs m om' im' tm' lm' bm', ?_, ?_, Or.inl ⟨h, Nat.le_refl _, hh, had, by omega, by rw [Nat.sub_self]; exact ci_ac hI e3 e4, kLv_ac, mLv_mc, rfl, fun _ => rfl, aP_ac ⟨p1, p2, p3, p4⟩⟩⟩
    · exact run_ac (v := 0) hI p1 (by omega) hi hc p2 p3 (kn_beg p1 (by omega) hi hc p2 p3 q3 q5 e1) rfl rfl
    · rw [q4, q6]; exact mac_b0 hu e2
  by_cases w2 : w = 2
  · exact a2_0r hN hB hT hh had hI hP0 hi hc (Or.inl w2) q3 q4 q5 q6
  by_cases w3 : w = 3
  · exact a2_0r hN hB hT hh had hI hP0 hi hc (Or.inr w3) q3 q4 q5 q6
  exact rO_a1 hh had (a1_mng (by omega) hI (by omega) hi hc hP0 q3 q1 w0 w2 w3 (fun v om im tm lm bm hm => mac_0 q1 w0 w2 w3 hm))
theorem al_C0 {N d : Nat} (hN : 2 ^ 22 < N) (hB : byC N d 1 (mComes1 N)) : alC N d 0 (mActs0 N) := by
  intro c T h s m hc hT hh had hI hP
  obtain ⟨n, s', m', e1, e2, e3⟩ := al_G (lv := 0) (c := c) (acts := mActs0 N c) (mac := mMacro0 N) (by omega) hc (fun n k m h => by rw [mActs0, if_pos h]) (fun n k m h1 h2 => by rw [mActs0, if_neg h1, if_pos h2]) (fun n k m h => by rw [mActs0, if_neg h]; split <;> rfl) (fun T h i s m x1 x2 x3 x4 x5 x6 => a2_0 hN hB x1 x2 x3 x4 x5 x6 hc) c 0 T h N s m (by omega) (by omega) hT hh had hI hP
  refine ⟨n, s', m', e1, e2, ?_⟩
  rcases e3 with ⟨h2, a1, a2, a3, a4, a5, a6, a7, a8, a9, a10⟩ | ⟨T', b1, b2, b3⟩
  · exact Or.inl ⟨h2, a1, a2, a3, by omega, a5, a6, a7, a8, a9, a10⟩
  · exact Or.inr ⟨T', b1, by omega, b3⟩
theorem wk_0 {N d : Nat} (hN : 2 ^ 22 < N) : wkC N d 0 (mWork0 N) := wk_C (al_C0 hN (by_1 hN)) (fun c m hc hx => by
  have := work_0 (N := N) (by omega) hc hx
  exact this)
theorem mLv_mcb {m : RS} {om : ob_mMacros} {im tm lm bm buf : Nat → Int32} : mLv 0 m (mMcb m om im tm lm bm buf) := ⟨fun _ _ => ⟨rfl, rfl⟩, fun _ _ => rfl, fun _ _ => rfl, rfG_refl m⟩
/-- **one byte of a stream, on both sides** -/
theorem by_0 {N d T h a z b : Nat} {s : CS} {m : RS} (hN : 2 ^ 22 < N) (hb : b < 256) (hT : T + 4 * (65537 - h) ≤ 134000000) (hh : h ≤ 65536) (had : fd_Ref_had m.o_this = nI h) (hI : cI N d T s m) (hL : lB0 a z b s) : ∃ n s' m', kRun N n s s' ∧ mComes0 N m (nI b) = some m' ∧ bO N d T 0 a h n s m s' m' := by
  have hfa : fd_Ref_fault m.o_this = 0 := by
    obtain ⟨⟨k, r, cp, p, hC⟩, _⟩ := hI
    exact hC.2.2.2.2.2.2.2.1.2
  by_cases hr : fd_mMacros_reading m.o_macros = 0
  · have hstop : ∃ n s1 m1, kRun N n s s1 ∧ mStop0 N N m (nI b) = some m1 ∧ ((∃ h', h ≤ h' ∧ h' ≤ 65536 ∧ fd_Ref_had m1.o_this = nI h' ∧ n ≤ 17 * (1 + (h' - h)) + 60 * (h' - h) ∧ cI N d (T + 4 * (h' - h)) s1 m1 ∧ kLv 0 s s1 ∧ mLv 0 m m1 ∧ s1.g_interpreter_at 0 = s.g_interpreter_at 0 ∧ s1.g_interpreter_actCount 0 ≤ s1.g_interpreter_actNext 0 ∧ (b = 27 → (¬ (fd_mDesk_phase m1.o_desk = 2 ∨ fd_mDesk_phase m1.o_desk = 3) ∨ fd_Ref_xMany m1.o_this = 0) ∨ ¬ rdy 0 m1)) ∨ (∃ T', T' ≤ T + 4 * (65536 - h) ∧ n ≤ 17 * (1 + (65536 - h)) + 60 * (65536 - h) ∧ bF N d T' s m s1 m1)) := by
      by_cases q : b = 27
      · subst q
        obtain ⟨n, s1, m1, r1, r2, r3⟩ := stop_C (a := a) (z := z) hN (by omega) (fun q => absurd rfl q) (wk_0 (d := d) hN) stC_0 65536 h T N s m (by omega) (by omega) (by omega) hh had hI (fun _ => lB0_lvB hL ((cI_rd hI).trans hr)) hL.2.1
        refine ⟨n, s1, m1, r1, r2, ?_⟩
        rcases r3 with ⟨h2, a1, a2, a3, a4, a5, a6, a7, a8, a9, a10⟩ | r3
        · refine Or.inl ⟨h2, a1, a2, a3, a4, a5, a6, a7, a8, a9, fun _ => ?_⟩
          rcases a10 with q | q | q
          · exact Or.inl (Or.inl q)
          · exact Or.inl (Or.inr q)
          · exact Or.inr q
        · exact Or.inr r3
      · obtain ⟨f, hf⟩ : ∃ f, N = f + 1 := ⟨N - 1, by omega⟩
        have hne : ¬ nI b = 27 := mt (nI_eq (b := 27) (by omega) (by omega)).mp q
        refine ⟨0, s, m, kRun.refl N s, ?_, Or.inl ⟨h, Nat.le_refl _, hh, had, by omega, by rw [Nat.sub_self]; exact hI, kLv_refl _ _, mLv_refl _ _, rfl, hL.2.1, fun e => absurd e q⟩⟩
        have := (stC_0 (N := N)).1 f m (nI b) hne
        rw [← hf] at this
        exact this
    obtain ⟨n, s1, m1, r1, r2, r3⟩ := hstop
    rcases r3 with ⟨h2, a1, a2, a3, a4, a5, a6, a7, a8, a9, a10⟩ | ⟨T', b1, b2, b3⟩
    · have hL1 : lB0 a z b s1 := lB0_of hL a6 a8 a9
      have hfa1 : fd_Ref_fault m1.o_this = 0 := by
        obtain ⟨⟨k, r, cp, p, hC⟩, _⟩ := a5
        exact hC.2.2.2.2.2.2.2.1.2
      by_cases hr1 : fd_mMacros_reading m1.o_macros = 0
      · have hx : b = 27 → ¬ (fd_mDesk_phase m1.o_desk = 2 ∨ fd_mDesk_phase m1.o_desk = 3) ∨ fd_Ref_xMany m1.o_this = 0 := fun e => by
          rcases a10 e with q | q
          · exact q
          · exact absurd (fun _ => hr1) q
        obtain ⟨n2, s', m', m2, e, g1, g2, g3, g4⟩ := fin_C hN hb (wk_0 (d := d) hN) (T := T + 4 * (h2 - h)) (h := h2) (by omega) a2 a3 a5 (lB0_lvB hL1 ((cI_rd a5).trans hr1)) hx
        refine ⟨n + n2, s', m', kRun.trans r1 g1, com_0 hfa hr r2 hfa1 hr1 g2 g3, ?_⟩
        rcases g4 with ⟨h3, c1, c2, c3, c4, c5, c6, c7, c8, c9⟩ | ⟨T', b1, b2, b3⟩
        · refine Or.inl ⟨h3, by omega, c2, c3, by omega, ?_, kLv_trans a6 c6, mLv_trans a7 c7, c8, c9⟩
          have : T + 4 * (h2 - h) + 4 + 4 * (h3 - h2) = T + 4 * (1 + (h3 - h)) := by omega
          rw [← this]; exact c5
        · exact Or.inr ⟨T', by omega, by omega, bF_of a6.2.2.2.2.2.2 a7.2.2.2 b3⟩
      · obtain ⟨s2, om, im, tm, lm, bm, buf, c1, c2, c3, c4, c5, c6⟩ := co_0 (by omega) (by omega) hb a5 hL1 hr1
        refine ⟨n + 1, s2, mMcb m1 om im tm lm bm buf, kRun.trans r1 c1, com_0_c hfa hr r2 hfa1 hr1 c2, Or.inl ⟨h2, a1, a2, a3, by omega, ?_, kLv_trans a6 c4, mLv_trans a7 mLv_mcb, c5, c6⟩⟩
        have : T + 4 * (h2 - h) + 4 = T + 4 * (1 + (h2 - h)) := by omega
        rw [← this]; exact c3
    · exact ⟨n, s1, m1, r1, com_0_f hfa hr r2 (by rw [b3.2.1]; decide), Or.inr ⟨T', by omega, by omega, b3⟩⟩
  · obtain ⟨s2, om, im, tm, lm, bm, buf, c1, c2, c3, c4, c5, c6⟩ := co_0 (by omega) (by omega) hb hI hL hr
    refine ⟨1, s2, mMcb m om im tm lm bm buf, c1, com_0_r hfa hr c2, Or.inl ⟨h, Nat.le_refl _, hh, had, by omega, ?_, c4, mLv_mcb, c5, c6⟩⟩
    have : T + 4 = T + 4 * (1 + (h - h)) := by omega
    rw [← this]; exact c3
