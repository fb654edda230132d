theorem pg_first : pg_H 1 0 - 7200 = 72000 ∧ pg_W 1 0 = 57600 ∧ pg_cl (pg_W 1 0) 0 = 0 ∧ pg_cl (pg_H 1 0) (pg_home 3600 1200).toInt64 = 4500 := by decide +kernel
theorem zs_first : zsN 0 = 0 ∧ zsN 1 = 4500 ∧ zsN 2 = 0 ∧ zsN 3 = 57600 ∧ zsN 4 = 3600 ∧ zsN 5 = 72000 ∧ zsN 6 = 720 ∧ zsN 7 = 1200 ∧ ∀ i, i < 53 → 8 ≤ i → zsN i = 0 := by decide +kernel
theorem pgC_first {d : Nat} : (nI d, 1, 0, 1, 3600, pg_H 1 0 - 7200, 0, pg_W 1 0, 720, 1200, pg_cl (pg_W 1 0) 0, pg_cl (pg_H 1 0) (pg_home 3600 1200).toInt64, 0, 0, 0, 0, 0) = pgC d 1 0 1 zsN := by
  obtain ⟨a, b, c, e⟩ := pg_first
  obtain ⟨z0, z1, z2, z3, z4, z5, z6, z7, z8⟩ := zs_first
  unfold pgC
  rw [a, c, e, b, z0, z1, z2, z3, z4, z5, z6, z7, z8 8 (by omega) (by omega), z8 9 (by omega) (by omega), z8 10 (by omega) (by omega), z8 11 (by omega) (by omega), z8 12 (by omega) (by omega)]
  rfl
theorem dk_first {g : Nat → Int32} (hg : ∀ j, j < 53 → g j = 0) : ∀ i, i < 53 → (upd (upd (upd (upd (upd (upd (upd (upd g 6 720) 7 1200) 4 3600) 5 72000) 2 0) 3 57600) 0 0) 1 4500) i = nI (zsN i) := by
  obtain ⟨z0, z1, z2, z3, z4, z5, z6, z7, z8⟩ := zs_first
  intro i hi
  unfold upd
  by_cases q1 : i = 1
  · subst q1; rw [z1]; rfl
  rw [if_neg q1]
  by_cases q0 : i = 0
  · subst q0; rw [z0]; rfl
  rw [if_neg q0]
  by_cases q3 : i = 3
  · subst q3; rw [z3]; rfl
  rw [if_neg q3]
  by_cases q2 : i = 2
  · subst q2; rw [z2]; rfl
  rw [if_neg q2]
  by_cases q5 : i = 5
  · subst q5; rw [z5]; rfl
  rw [if_neg q5]
  by_cases q4 : i = 4
  · subst q4; rw [z4]; rfl
  rw [if_neg q4]
  by_cases q7 : i = 7
  · subst q7; rw [z7]; rfl
  rw [if_neg q7]
  by_cases q6 : i = 6
  · subst q6; rw [z6]; rfl
  rw [if_neg q6, z8 i hi (by omega)]
  exact hg i hi
theorem slK_0 : slK 0 0 0 (fun _ => 0) (fun _ => 0) (fun _ => 0) (fun _ => 0) (fun _ => 0) (fun _ => 0) (fun _ => 0) (fun _ => 0) (fun _ => 0) (fun _ => 0) := by
  refine ⟨by omega, fun i hi => absurd hi (by omega), fun i hi => absurd hi (by omega), fun i hi => absurd hi (by omega), fun i hi => absurd hi (by omega), fun f a hf => absurd hf (by omega), fun f f' hf => absurd hf (by omega), ⟨⟨by omega, by omega, fun i hi => is8_0, fun c hc => absurd hc (by omega), fun c c' hc => absurd hc (by omega)⟩, rfl⟩, ⟨by omega, rfl, by omega, fun i hi => is8_0, fun e he => absurd he (by omega)⟩, List.Perm.refl _, List.nodup_nil, fun i hi => absurd hi (by omega)⟩
abbrev wsF : Nat → Int32 := upd (upd (upd (upd (upd (upd (upd (upd (upd (upd (upd (upd (upd (upd (fun _ => 0) 0 277) 1 0) 2 1000) 3 1200) 4 0) 5 0) 6 3) 7 277) 8 0) 9 1000) 10 1200) 11 0) 12 0) 13 3
abbrev wsM : Nat → Int32 := upd (upd (upd (upd (upd (upd (upd (upd (upd (upd (upd (upd (upd (upd (upd (upd (upd (upd (upd (upd (upd (upd (upd (upd (upd (upd (upd (upd (fun _ => 0) 0 277) 1 0) 2 1000) 3 1200) 4 0) 5 0) 6 3) 7 277) 8 0) 9 1000) 10 1200) 11 0) 12 0) 13 3) 0 277) 7 277) 1 0) 8 0) 2 1000) 9 1000) 3 1200) 10 1200) 4 0) 11 0) 5 0) 12 0) 6 3) 13 3
abbrev pnF : Nat → Int32 := upd (upd (fun _ => 0) 0 ((-1) : Int32)) 1 ((-1) : Int32)
abbrev pnG : Nat → Int32 := upd (upd (upd (upd (fun _ => 0) 0 (-1)) 1 (-1)) 0 (-1)) 1 (-1)
theorem okA_tab : ∀ w, w < 2 → ∀ a, a < 7 → (if a = 5 then -7 else if a = 2 ∨ a = 3 then 1 else 0) ≤ (wsF (7 * w + a)).toInt ∧ (wsF (7 * w + a)).toInt ≤ (([2047, 1, 57600, 99999, 32767, 7, 65535] : List Int).getD a 0) := by decide +kernel
theorem ws_tab : ∀ i, i < 14 → wsF i = wsM i := by decide +kernel
theorem pn_tab : ∀ i, i < 2 → pnF i = pnG i ∧ pnF i = -1 := by decide +kernel
theorem wsR_0 : wsR wsF pnF wsM pnG := ⟨ws_tab, fun i hi => (pn_tab i hi).1, fun w a hw ha => okA_tab w hw a ha, fun w hw => Or.inl (pn_tab w hw).2⟩
theorem chM_0 {N : Nat} (hN : 1000 < N) : chM N 0 pnG (fun _ => 0) wsM (fun _ => 0) (fun _ => 0) (upd (upd (fun _ => 0) 0 (-1)) 1 (-1)) := by
  obtain ⟨o', ch', lc', -, h, -⟩ := sl_settle (N := N) (o := ((0, 0, 0, 0, 0, 0) : ob_FontShelf)) (ch := fun _ => 0) (fun _ => 0) hN slK_0 rfl wsR_0 (Or.inl rfl)
  intro w hw
  have e : (upd (upd (fun _ => 0) 0 (-1)) 1 (-1) : Nat → Int32) w = -1 := (pn_tab w hw).2
  obtain ⟨h1, h2⟩ := h w hw
  have e2 : ch' w = -1 := by
    rcases h1 with q | ⟨s, q, _⟩
    · exact q
    · exact absurd q (by omega)
  rw [e]
  rw [e2] at h2
  exact ⟨Or.inl rfl, h2⟩
