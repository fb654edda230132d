theorem wdots_0 (a x : Nat) : wdots (fun _ => 0) a x = false := by
  unfold wdots lb
  simp
abbrev zF : Nat → Int32 := fun _ => 0
set_option maxRecDepth 100000 in
theorem mT_0 : mTab (mS0 0 0 zF zF).g_lines_whiteRests (mS0 0 0 zF zF).g_lines_blackRests (mS0 0 0 zF zF).g_lines_whiteBlocks (mS0 0 0 zF zF).g_lines_blackBlocks (mS0 0 0 zF zF).g_lines_blocks (mS0 0 0 zF zF).g_lines_modes :=
  ⟨(by decide +kernel : ∀ i, i < 64 → (mS0 0 0 zF zF).g_lines_whiteRests i = tb_Coder_WHITE_RESTS i), (by decide +kernel : ∀ i, i < 64 → (mS0 0 0 zF zF).g_lines_blackRests i = tb_Coder_BLACK_RESTS i), (by decide +kernel : ∀ i, i < 27 → (mS0 0 0 zF zF).g_lines_whiteBlocks i = tb_Coder_WHITE_BLOCKS i), (by decide +kernel : ∀ i, i < 27 → (mS0 0 0 zF zF).g_lines_blackBlocks i = tb_Coder_BLACK_BLOCKS i), (by decide +kernel : ∀ i, i < 13 → (mS0 0 0 zF zF).g_lines_blocks i = tb_Coder_LONG_BLOCKS i), (by decide +kernel : ∀ i, i < 10 → (mS0 0 0 zF zF).g_lines_modes i = modeT i)⟩
set_option maxRecDepth 100000 in
theorem mT_1 : mTab (mS0 0 0 zF zF).g_view_whiteRests (mS0 0 0 zF zF).g_view_blackRests (mS0 0 0 zF zF).g_view_whiteBlocks (mS0 0 0 zF zF).g_view_blackBlocks (mS0 0 0 zF zF).g_view_blocks (mS0 0 0 zF zF).g_view_modes :=
  ⟨(by decide +kernel : ∀ i, i < 64 → (mS0 0 0 zF zF).g_view_whiteRests i = tb_Coder_WHITE_RESTS i), (by decide +kernel : ∀ i, i < 64 → (mS0 0 0 zF zF).g_view_blackRests i = tb_Coder_BLACK_RESTS i), (by decide +kernel : ∀ i, i < 27 → (mS0 0 0 zF zF).g_view_whiteBlocks i = tb_Coder_WHITE_BLOCKS i), (by decide +kernel : ∀ i, i < 27 → (mS0 0 0 zF zF).g_view_blackBlocks i = tb_Coder_BLACK_BLOCKS i), (by decide +kernel : ∀ i, i < 13 → (mS0 0 0 zF zF).g_view_blocks i = tb_Coder_LONG_BLOCKS i), (by decide +kernel : ∀ i, i < 10 → (mS0 0 0 zF zF).g_view_modes i = modeT i)⟩
set_option maxRecDepth 100000 in
theorem fl_0 : ∀ i, i < 8 → (kS0 0 0 0 zF).g_file_bytes i = (mS0 0 0 zF zF).g_job_file i := by decide +kernel
set_option maxRecDepth 100000 in
set_option maxHeartbeats 4000000 in
/-- **before the first call** -/
theorem jV1 {N d sd bb dw dn : Nat} {fc0 sv g : Nat → Int32} (hN : 2 ^ 24 < N) (hd : isDpi d) (e1 : ((11 * nI d) + 63) / 64 = nI sd) (e2 : (61200 * (nI d / 75)) / 96 = nI (wdN 1 d)) (e3 : (79200 * (nI d / 75)) / 96 = nI (hgN 1 d)) (h4 : ∀ j, j < 5 → wdN j d ≤ 64 * sd ∧ sd * hgN j d ≤ dn) (h5 : ∀ j, j < 5 → (wdN j d + 63) / 64 ≤ dw) (hb1 : 1 ≤ bb) (hbb : bb ≤ 1024) (hdw : dw ≤ 52) (hdn : dn ≤ 265200) (hg : ∀ j, j < 53 → g j = 0) : jV N d 0 (kS0 (nI d) bb dw fc0) (mS0 (nI d) dn sv g) := by
  have hwd : wdN 1 d < 2 ^ 20 ∧ hgN 1 d < 2 ^ 20 := by
    rcases hd with h | h | h <;> subst h <;> decide
  have hmul : bb * dw < 2 ^ 22 := Nat.lt_of_le_of_lt (Nat.mul_le_mul hbb hdw) (by decide)
  refine ⟨0, 0, by rw [if_pos rfl]; omega, Or.inl ⟨0, ⟨⟨1, 0, 1, zsN, ?_, ?_, ?_, rfl, ?_, ?_, ?_, ⟨rfl, rfl⟩, ⟨rfl, rfl⟩⟩, ?_, ?_⟩, rfl, ?_, by omega, rfl⟩, ?_, ?_, ?_, ?_⟩
  · exact ⟨hd, by omega, by omega, ⟨by omega, by omega⟩, pgC_first, zs_ok, zs_stk _, ⟨rfl, rfl, rfl, rfl, rfl, dk_first hg⟩, rfl, rfl⟩
  · refine ⟨⟨0, 0, 0, rfl, rfl, rfl, by omega, by omega, by omega, Or.inl rfl⟩, rfl, ⟨sd, ?_, h4⟩, fun _ => rfl, ⟨⟨bb, rfl, hb1, by omega, fun j hj => Nat.mul_le_mul_left bb (h5 j hj)⟩, hmul, Nat.lt_of_le_of_lt hdn (by decide)⟩, ⟨0, 0, 0, rfl, rfl, rfl, rfl, rfl, rfl, by omega, by omega, by omega⟩⟩
    refine ⟨0, 0, 0, 0, false, false, fun _ => (0, 0, 0, 0, 0, 0, 0, 0, 0, false, false, false), rfl, rfl, rfl, rfl, rfl, Or.inl rfl, ⟨rfl, rfl, by omega, fun q => absurd q (by omega), rfl, fun q => absurd q (by omega), fun q => absurd q (by omega), by omega, rfl, rfl, rfl, rfl⟩, by omega, by omega, ?_, fun j hj => absurd hj (by omega), fun i hi => is8_0, ⟨e1, e2, e3, rfl, by omega, (h4 1 (by omega)).1, (h4 1 (by omega)).2, Nat.lt_of_le_of_lt hdn (by decide), hwd.1, hwd.2⟩, ?_⟩
    · intro j hj; exact absurd hj (by omega)
    · intro x y hx hy
      show wdots (fun _ => 0) _ _ = if x < wdN 1 d ∧ y < hgN 1 d then false else false
      rw [ite_self]
      exact wdots_0 _ _
  · exact ⟨0, 0, 0, ⟨slK_0, rfl, rfl, rfl, rfl, rfl, rfl, rfl, rfl⟩, wsR_0, Or.inr ⟨rfl, chM_0 (by omega)⟩⟩
  · exact ⟨false, 75, 0, 0, 0, rfl, rfl, rfl, rfl, ⟨by omega, by omega⟩, rfl, rfl, by omega, rfl, rfl, by omega, rfl, rfl, by omega, rfl, rfl, fun q => absurd q (by decide)⟩
  · exact ⟨⟨0, 0, fun _ => 0, rfl, rfl, rfl, rfl, ⟨by omega, by omega, rfl, fun k hk => absurd hk (by omega), fun i hi => Or.inl rfl, fun i hi => Or.inl rfl, fun i hi => is8_0, fun i hi => is8_0, fun i hi => absurd hi (by omega), fun i k hi => absurd hi (by omega)⟩, fun i hi => is8_0, fun i hi => is8_0, rfl, Or.inl rfl⟩, rfl, ⟨0, by omega, rfl, rfl⟩, ⟨0, by omega, rfl, rfl⟩⟩
  · exact ⟨⟨0, 4, 8, rfl, by omega, by omega, by omega, ⟨0, 0, 0, 0, 0, 0, 0, 0, 0, 0, (0, 0, 0, 0, 0, 0), rfl⟩, fl_0, fun i hi => absurd hi (by omega), fun p hp => absurd hp (by omega)⟩, by show 60000 ≤ 70000; omega, by show 70000 < 100000; omega, fun i hi => rfl, mT_0, rfl⟩
  · exact Or.inl ⟨⟨rfl, rfl⟩, ⟨rfl, rfl⟩⟩
  · exact ⟨0, by omega, rfl, rfl, fun i hi => absurd hi (by omega), fun i hi => absurd hi (by omega), fun i hi => absurd hi (by omega)⟩
  · exact Int32.le_refl _
  · exact ⟨by omega, ⟨0, rfl⟩, rfl, rfl, fun i hi => rfl, fun i hi => is8_0⟩
  · exact ⟨0, 0, 0, by omega, rfl, rfl, by omega, by omega, rfl, rfl, fun i hi => absurd hi (by omega), fun i hi => absurd hi (by omega), fun _ => ⟨rfl, rfl⟩, fun q => absurd rfl q, ⟨0, by omega, fun p hp => absurd hp (by omega)⟩⟩
  · exact ⟨tr_end, rdT_of mT_1, Or.inl rfl⟩
  · exact ⟨⟨0, by omega, rfl, rfl⟩, rfl, rfl, rfl, tr_end, rfl, ⟨0, rfl, by omega⟩, rfl, fun i hi => is8_0⟩
